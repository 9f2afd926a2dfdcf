theorem v_X4_take_s0 (z : St) (P : Int32 → St → Prop) (ht : TX z) (tp : Nat → Int32) (L : Nat) (t : Nat × Nat) (hs : SX z tp L t) (tk : TK tp L t) (hk1 : isW 0 5 tp t → ∀ z2 : St, TX z2 → Same [3702, 3703] [] z z2 → SX z2 tp L (n1 tp L t) → P 1 z2) (hk0 : ¬ isW 0 5 tp t → P 0 z) : wp_X4_take_s0 z P := by
  have hs' := hs
  obtain ⟨h38, h1, h2, h3⟩ := hs'
  have k1 := tk.1
  have k2 := tk.2.1
  have f1 : 0 ≤ (gI z 3701).toInt ∧ (gI z 3701).toInt ≤ 300 := ht.1 3701
  have em : (5 : Int32).toInt = 5 := rfl
  have id : (gI z 3703 - gI z 3702).toInt = (t.2 : Int) - (t.1 : Int) := a_sub h3 h2 (by omega) (by omega)
  unfold wp_X4_take_s0
  refine ⟨fun c => ?_, fun c => hk0 (fun q => ?_)⟩
  · have c' := i_eq id em c
    intro K5 hK5
    have LL : ∀ (n : Nat) (v4 : Int32), 0 ≤ v4.toInt → v4.toInt ≤ 5 → (∀ k : Nat, (k : Int) < v4.toInt → tp (t.1 + k) = sch 0 (nI k)) → (5 - v4.toInt).toNat < n → K5 v4 := by
      intro n
      induction n with
      | zero => intro v4 _ _ _ q; omega
      | succ n ih =>
        intro v4 g0 g1 hw hm
        have cv4 := clampN g0
        refine hK5 v4 ⟨fun c5 => ?_, fun c5 => ?_⟩
        · have c5' := i_le em rfl c5
          exact v_X4_next z _ ht tp L t.2 h38 h1 h3 k2 (fun z9 t9 s9 x9 => hk1 ⟨by omega, fun k hk => hw k (by omega)⟩ z9 t9 s9 x9)
        · have c5' := i_nle em rfl c5
          have ia : (gI z 3702 + v4).toInt = (t.1 : Int) + v4.toInt := a_add h2 rfl (by omega) (by omega)
          have ca := clampN (x := gI z 3702 + v4) (by omega)
          have ea : (gI z 3702 + v4).toNatClampNeg = t.1 + v4.toNatClampNeg := by omega
          have ev := nI_cl g0
          refine ⟨vin ia (by omega) (by omega), vin rfl g0 (by omega), fun c6 => ?_, fun c6 => hk0 (fun q => c6 ?_)⟩
          · rw [h38, ea, ev] at c6
            intro x14 e14
            have i14 : x14.toInt = v4.toInt + 1 := by rw [e14]; exact a_add rfl rfl (by omega) (by omega)
            refine ih x14 (by omega) (by omega) (fun k hk => ?_) (by omega)
            by_cases e : k = v4.toNatClampNeg
            · rw [e]; rw [nI_clamp (by omega)] at c6; exact c6
            · exact hw k (by omega)
          · rw [h38, ea, ev, nI_clamp (by omega)]
            exact q.2 v4.toNatClampNeg (by omega)
    exact LL _ 0 (by decide) (by decide) (fun k hk => absurd hk (by have : (0 : Int32).toInt = 0 := rfl; omega)) (Nat.lt_succ_self _)
  · exact c (toI_inj (by rw [id, em]; have := q.1; omega))
theorem v_X4_take_s1 (z : St) (P : Int32 → St → Prop) (ht : TX z) (tp : Nat → Int32) (L : Nat) (t : Nat × Nat) (hs : SX z tp L t) (tk : TK tp L t) (hk1 : isW 1 4 tp t → ∀ z2 : St, TX z2 → Same [3702, 3703] [] z z2 → SX z2 tp L (n1 tp L t) → P 1 z2) (hk0 : ¬ isW 1 4 tp t → P 0 z) : wp_X4_take_s1 z P := by
  have hs' := hs
  obtain ⟨h38, h1, h2, h3⟩ := hs'
  have k1 := tk.1
  have k2 := tk.2.1
  have f1 : 0 ≤ (gI z 3701).toInt ∧ (gI z 3701).toInt ≤ 300 := ht.1 3701
  have em : (4 : Int32).toInt = 4 := rfl
  have id : (gI z 3703 - gI z 3702).toInt = (t.2 : Int) - (t.1 : Int) := a_sub h3 h2 (by omega) (by omega)
  unfold wp_X4_take_s1
  refine ⟨fun c => ?_, fun c => hk0 (fun q => ?_)⟩
  · have c' := i_eq id em c
    intro K5 hK5
    have LL : ∀ (n : Nat) (v4 : Int32), 0 ≤ v4.toInt → v4.toInt ≤ 4 → (∀ k : Nat, (k : Int) < v4.toInt → tp (t.1 + k) = sch 1 (nI k)) → (4 - v4.toInt).toNat < n → K5 v4 := by
      intro n
      induction n with
      | zero => intro v4 _ _ _ q; omega
      | succ n ih =>
        intro v4 g0 g1 hw hm
        have cv4 := clampN g0
        refine hK5 v4 ⟨fun c5 => ?_, fun c5 => ?_⟩
        · have c5' := i_le em rfl c5
          exact v_X4_next z _ ht tp L t.2 h38 h1 h3 k2 (fun z9 t9 s9 x9 => hk1 ⟨by omega, fun k hk => hw k (by omega)⟩ z9 t9 s9 x9)
        · have c5' := i_nle em rfl c5
          have ia : (gI z 3702 + v4).toInt = (t.1 : Int) + v4.toInt := a_add h2 rfl (by omega) (by omega)
          have ca := clampN (x := gI z 3702 + v4) (by omega)
          have ea : (gI z 3702 + v4).toNatClampNeg = t.1 + v4.toNatClampNeg := by omega
          have ev := nI_cl g0
          refine ⟨vin ia (by omega) (by omega), vin rfl g0 (by omega), fun c6 => ?_, fun c6 => hk0 (fun q => c6 ?_)⟩
          · rw [h38, ea, ev] at c6
            intro x14 e14
            have i14 : x14.toInt = v4.toInt + 1 := by rw [e14]; exact a_add rfl rfl (by omega) (by omega)
            refine ih x14 (by omega) (by omega) (fun k hk => ?_) (by omega)
            by_cases e : k = v4.toNatClampNeg
            · rw [e]; rw [nI_clamp (by omega)] at c6; exact c6
            · exact hw k (by omega)
          · rw [h38, ea, ev, nI_clamp (by omega)]
            exact q.2 v4.toNatClampNeg (by omega)
    exact LL _ 0 (by decide) (by decide) (fun k hk => absurd hk (by have : (0 : Int32).toInt = 0 := rfl; omega)) (Nat.lt_succ_self _)
  · exact c (toI_inj (by rw [id, em]; have := q.1; omega))
theorem v_X4_take_s2 (z : St) (P : Int32 → St → Prop) (ht : TX z) (tp : Nat → Int32) (L : Nat) (t : Nat × Nat) (hs : SX z tp L t) (tk : TK tp L t) (hk1 : isW 2 3 tp t → ∀ z2 : St, TX z2 → Same [3702, 3703] [] z z2 → SX z2 tp L (n1 tp L t) → P 1 z2) (hk0 : ¬ isW 2 3 tp t → P 0 z) : wp_X4_take_s2 z P := by
  have hs' := hs
  obtain ⟨h38, h1, h2, h3⟩ := hs'
  have k1 := tk.1
  have k2 := tk.2.1
  have f1 : 0 ≤ (gI z 3701).toInt ∧ (gI z 3701).toInt ≤ 300 := ht.1 3701
  have em : (3 : Int32).toInt = 3 := rfl
  have id : (gI z 3703 - gI z 3702).toInt = (t.2 : Int) - (t.1 : Int) := a_sub h3 h2 (by omega) (by omega)
  unfold wp_X4_take_s2
  refine ⟨fun c => ?_, fun c => hk0 (fun q => ?_)⟩
  · have c' := i_eq id em c
    intro K5 hK5
    have LL : ∀ (n : Nat) (v4 : Int32), 0 ≤ v4.toInt → v4.toInt ≤ 3 → (∀ k : Nat, (k : Int) < v4.toInt → tp (t.1 + k) = sch 2 (nI k)) → (3 - v4.toInt).toNat < n → K5 v4 := by
      intro n
      induction n with
      | zero => intro v4 _ _ _ q; omega
      | succ n ih =>
        intro v4 g0 g1 hw hm
        have cv4 := clampN g0
        refine hK5 v4 ⟨fun c5 => ?_, fun c5 => ?_⟩
        · have c5' := i_le em rfl c5
          exact v_X4_next z _ ht tp L t.2 h38 h1 h3 k2 (fun z9 t9 s9 x9 => hk1 ⟨by omega, fun k hk => hw k (by omega)⟩ z9 t9 s9 x9)
        · have c5' := i_nle em rfl c5
          have ia : (gI z 3702 + v4).toInt = (t.1 : Int) + v4.toInt := a_add h2 rfl (by omega) (by omega)
          have ca := clampN (x := gI z 3702 + v4) (by omega)
          have ea : (gI z 3702 + v4).toNatClampNeg = t.1 + v4.toNatClampNeg := by omega
          have ev := nI_cl g0
          refine ⟨vin ia (by omega) (by omega), vin rfl g0 (by omega), fun c6 => ?_, fun c6 => hk0 (fun q => c6 ?_)⟩
          · rw [h38, ea, ev] at c6
            intro x14 e14
            have i14 : x14.toInt = v4.toInt + 1 := by rw [e14]; exact a_add rfl rfl (by omega) (by omega)
            refine ih x14 (by omega) (by omega) (fun k hk => ?_) (by omega)
            by_cases e : k = v4.toNatClampNeg
            · rw [e]; rw [nI_clamp (by omega)] at c6; exact c6
            · exact hw k (by omega)
          · rw [h38, ea, ev, nI_clamp (by omega)]
            exact q.2 v4.toNatClampNeg (by omega)
    exact LL _ 0 (by decide) (by decide) (fun k hk => absurd hk (by have : (0 : Int32).toInt = 0 := rfl; omega)) (Nat.lt_succ_self _)
  · exact c (toI_inj (by rw [id, em]; have := q.1; omega))
theorem v_X4_take_s3 (z : St) (P : Int32 → St → Prop) (ht : TX z) (tp : Nat → Int32) (L : Nat) (t : Nat × Nat) (hs : SX z tp L t) (tk : TK tp L t) (hk1 : isW 3 4 tp t → ∀ z2 : St, TX z2 → Same [3702, 3703] [] z z2 → SX z2 tp L (n1 tp L t) → P 1 z2) (hk0 : ¬ isW 3 4 tp t → P 0 z) : wp_X4_take_s3 z P := by
  have hs' := hs
  obtain ⟨h38, h1, h2, h3⟩ := hs'
  have k1 := tk.1
  have k2 := tk.2.1
  have f1 : 0 ≤ (gI z 3701).toInt ∧ (gI z 3701).toInt ≤ 300 := ht.1 3701
  have em : (4 : Int32).toInt = 4 := rfl
  have id : (gI z 3703 - gI z 3702).toInt = (t.2 : Int) - (t.1 : Int) := a_sub h3 h2 (by omega) (by omega)
  unfold wp_X4_take_s3
  refine ⟨fun c => ?_, fun c => hk0 (fun q => ?_)⟩
  · have c' := i_eq id em c
    intro K5 hK5
    have LL : ∀ (n : Nat) (v4 : Int32), 0 ≤ v4.toInt → v4.toInt ≤ 4 → (∀ k : Nat, (k : Int) < v4.toInt → tp (t.1 + k) = sch 3 (nI k)) → (4 - v4.toInt).toNat < n → K5 v4 := by
      intro n
      induction n with
      | zero => intro v4 _ _ _ q; omega
      | succ n ih =>
        intro v4 g0 g1 hw hm
        have cv4 := clampN g0
        refine hK5 v4 ⟨fun c5 => ?_, fun c5 => ?_⟩
        · have c5' := i_le em rfl c5
          exact v_X4_next z _ ht tp L t.2 h38 h1 h3 k2 (fun z9 t9 s9 x9 => hk1 ⟨by omega, fun k hk => hw k (by omega)⟩ z9 t9 s9 x9)
        · have c5' := i_nle em rfl c5
          have ia : (gI z 3702 + v4).toInt = (t.1 : Int) + v4.toInt := a_add h2 rfl (by omega) (by omega)
          have ca := clampN (x := gI z 3702 + v4) (by omega)
          have ea : (gI z 3702 + v4).toNatClampNeg = t.1 + v4.toNatClampNeg := by omega
          have ev := nI_cl g0
          refine ⟨vin ia (by omega) (by omega), vin rfl g0 (by omega), fun c6 => ?_, fun c6 => hk0 (fun q => c6 ?_)⟩
          · rw [h38, ea, ev] at c6
            intro x14 e14
            have i14 : x14.toInt = v4.toInt + 1 := by rw [e14]; exact a_add rfl rfl (by omega) (by omega)
            refine ih x14 (by omega) (by omega) (fun k hk => ?_) (by omega)
            by_cases e : k = v4.toNatClampNeg
            · rw [e]; rw [nI_clamp (by omega)] at c6; exact c6
            · exact hw k (by omega)
          · rw [h38, ea, ev, nI_clamp (by omega)]
            exact q.2 v4.toNatClampNeg (by omega)
    exact LL _ 0 (by decide) (by decide) (fun k hk => absurd hk (by have : (0 : Int32).toInt = 0 := rfl; omega)) (Nat.lt_succ_self _)
  · exact c (toI_inj (by rw [id, em]; have := q.1; omega))
theorem v_X4_take_s4 (z : St) (P : Int32 → St → Prop) (ht : TX z) (tp : Nat → Int32) (L : Nat) (t : Nat × Nat) (hs : SX z tp L t) (tk : TK tp L t) (hk1 : isW 4 2 tp t → ∀ z2 : St, TX z2 → Same [3702, 3703] [] z z2 → SX z2 tp L (n1 tp L t) → P 1 z2) (hk0 : ¬ isW 4 2 tp t → P 0 z) : wp_X4_take_s4 z P := by
  have hs' := hs
  obtain ⟨h38, h1, h2, h3⟩ := hs'
  have k1 := tk.1
  have k2 := tk.2.1
  have f1 : 0 ≤ (gI z 3701).toInt ∧ (gI z 3701).toInt ≤ 300 := ht.1 3701
  have em : (2 : Int32).toInt = 2 := rfl
  have id : (gI z 3703 - gI z 3702).toInt = (t.2 : Int) - (t.1 : Int) := a_sub h3 h2 (by omega) (by omega)
  unfold wp_X4_take_s4
  refine ⟨fun c => ?_, fun c => hk0 (fun q => ?_)⟩
  · have c' := i_eq id em c
    intro K5 hK5
    have LL : ∀ (n : Nat) (v4 : Int32), 0 ≤ v4.toInt → v4.toInt ≤ 2 → (∀ k : Nat, (k : Int) < v4.toInt → tp (t.1 + k) = sch 4 (nI k)) → (2 - v4.toInt).toNat < n → K5 v4 := by
      intro n
      induction n with
      | zero => intro v4 _ _ _ q; omega
      | succ n ih =>
        intro v4 g0 g1 hw hm
        have cv4 := clampN g0
        refine hK5 v4 ⟨fun c5 => ?_, fun c5 => ?_⟩
        · have c5' := i_le em rfl c5
          exact v_X4_next z _ ht tp L t.2 h38 h1 h3 k2 (fun z9 t9 s9 x9 => hk1 ⟨by omega, fun k hk => hw k (by omega)⟩ z9 t9 s9 x9)
        · have c5' := i_nle em rfl c5
          have ia : (gI z 3702 + v4).toInt = (t.1 : Int) + v4.toInt := a_add h2 rfl (by omega) (by omega)
          have ca := clampN (x := gI z 3702 + v4) (by omega)
          have ea : (gI z 3702 + v4).toNatClampNeg = t.1 + v4.toNatClampNeg := by omega
          have ev := nI_cl g0
          refine ⟨vin ia (by omega) (by omega), vin rfl g0 (by omega), fun c6 => ?_, fun c6 => hk0 (fun q => c6 ?_)⟩
          · rw [h38, ea, ev] at c6
            intro x14 e14
            have i14 : x14.toInt = v4.toInt + 1 := by rw [e14]; exact a_add rfl rfl (by omega) (by omega)
            refine ih x14 (by omega) (by omega) (fun k hk => ?_) (by omega)
            by_cases e : k = v4.toNatClampNeg
            · rw [e]; rw [nI_clamp (by omega)] at c6; exact c6
            · exact hw k (by omega)
          · rw [h38, ea, ev, nI_clamp (by omega)]
            exact q.2 v4.toNatClampNeg (by omega)
    exact LL _ 0 (by decide) (by decide) (fun k hk => absurd hk (by have : (0 : Int32).toInt = 0 := rfl; omega)) (Nat.lt_succ_self _)
  · exact c (toI_inj (by rw [id, em]; have := q.1; omega))
theorem v_X4_take_s5 (z : St) (P : Int32 → St → Prop) (ht : TX z) (tp : Nat → Int32) (L : Nat) (t : Nat × Nat) (hs : SX z tp L t) (tk : TK tp L t) (hk1 : isW 5 6 tp t → ∀ z2 : St, TX z2 → Same [3702, 3703] [] z z2 → SX z2 tp L (n1 tp L t) → P 1 z2) (hk0 : ¬ isW 5 6 tp t → P 0 z) : wp_X4_take_s5 z P := by
  have hs' := hs
  obtain ⟨h38, h1, h2, h3⟩ := hs'
  have k1 := tk.1
  have k2 := tk.2.1
  have f1 : 0 ≤ (gI z 3701).toInt ∧ (gI z 3701).toInt ≤ 300 := ht.1 3701
  have em : (6 : Int32).toInt = 6 := rfl
  have id : (gI z 3703 - gI z 3702).toInt = (t.2 : Int) - (t.1 : Int) := a_sub h3 h2 (by omega) (by omega)
  unfold wp_X4_take_s5
  refine ⟨fun c => ?_, fun c => hk0 (fun q => ?_)⟩
  · have c' := i_eq id em c
    intro K5 hK5
    have LL : ∀ (n : Nat) (v4 : Int32), 0 ≤ v4.toInt → v4.toInt ≤ 6 → (∀ k : Nat, (k : Int) < v4.toInt → tp (t.1 + k) = sch 5 (nI k)) → (6 - v4.toInt).toNat < n → K5 v4 := by
      intro n
      induction n with
      | zero => intro v4 _ _ _ q; omega
      | succ n ih =>
        intro v4 g0 g1 hw hm
        have cv4 := clampN g0
        refine hK5 v4 ⟨fun c5 => ?_, fun c5 => ?_⟩
        · have c5' := i_le em rfl c5
          exact v_X4_next z _ ht tp L t.2 h38 h1 h3 k2 (fun z9 t9 s9 x9 => hk1 ⟨by omega, fun k hk => hw k (by omega)⟩ z9 t9 s9 x9)
        · have c5' := i_nle em rfl c5
          have ia : (gI z 3702 + v4).toInt = (t.1 : Int) + v4.toInt := a_add h2 rfl (by omega) (by omega)
          have ca := clampN (x := gI z 3702 + v4) (by omega)
          have ea : (gI z 3702 + v4).toNatClampNeg = t.1 + v4.toNatClampNeg := by omega
          have ev := nI_cl g0
          refine ⟨vin ia (by omega) (by omega), vin rfl g0 (by omega), fun c6 => ?_, fun c6 => hk0 (fun q => c6 ?_)⟩
          · rw [h38, ea, ev] at c6
            intro x14 e14
            have i14 : x14.toInt = v4.toInt + 1 := by rw [e14]; exact a_add rfl rfl (by omega) (by omega)
            refine ih x14 (by omega) (by omega) (fun k hk => ?_) (by omega)
            by_cases e : k = v4.toNatClampNeg
            · rw [e]; rw [nI_clamp (by omega)] at c6; exact c6
            · exact hw k (by omega)
          · rw [h38, ea, ev, nI_clamp (by omega)]
            exact q.2 v4.toNatClampNeg (by omega)
    exact LL _ 0 (by decide) (by decide) (fun k hk => absurd hk (by have : (0 : Int32).toInt = 0 := rfl; omega)) (Nat.lt_succ_self _)
  · exact c (toI_inj (by rw [id, em]; have := q.1; omega))
theorem v_X4_take_s6 (z : St) (P : Int32 → St → Prop) (ht : TX z) (tp : Nat → Int32) (L : Nat) (t : Nat × Nat) (hs : SX z tp L t) (tk : TK tp L t) (hk1 : isW 6 1 tp t → ∀ z2 : St, TX z2 → Same [3702, 3703] [] z z2 → SX z2 tp L (n1 tp L t) → P 1 z2) (hk0 : ¬ isW 6 1 tp t → P 0 z) : wp_X4_take_s6 z P := by
  have hs' := hs
  obtain ⟨h38, h1, h2, h3⟩ := hs'
  have k1 := tk.1
  have k2 := tk.2.1
  have f1 : 0 ≤ (gI z 3701).toInt ∧ (gI z 3701).toInt ≤ 300 := ht.1 3701
  have em : (1 : Int32).toInt = 1 := rfl
  have id : (gI z 3703 - gI z 3702).toInt = (t.2 : Int) - (t.1 : Int) := a_sub h3 h2 (by omega) (by omega)
  unfold wp_X4_take_s6
  refine ⟨fun c => ?_, fun c => hk0 (fun q => ?_)⟩
  · have c' := i_eq id em c
    intro K5 hK5
    have LL : ∀ (n : Nat) (v4 : Int32), 0 ≤ v4.toInt → v4.toInt ≤ 1 → (∀ k : Nat, (k : Int) < v4.toInt → tp (t.1 + k) = sch 6 (nI k)) → (1 - v4.toInt).toNat < n → K5 v4 := by
      intro n
      induction n with
      | zero => intro v4 _ _ _ q; omega
      | succ n ih =>
        intro v4 g0 g1 hw hm
        have cv4 := clampN g0
        refine hK5 v4 ⟨fun c5 => ?_, fun c5 => ?_⟩
        · have c5' := i_le em rfl c5
          exact v_X4_next z _ ht tp L t.2 h38 h1 h3 k2 (fun z9 t9 s9 x9 => hk1 ⟨by omega, fun k hk => hw k (by omega)⟩ z9 t9 s9 x9)
        · have c5' := i_nle em rfl c5
          have ia : (gI z 3702 + v4).toInt = (t.1 : Int) + v4.toInt := a_add h2 rfl (by omega) (by omega)
          have ca := clampN (x := gI z 3702 + v4) (by omega)
          have ea : (gI z 3702 + v4).toNatClampNeg = t.1 + v4.toNatClampNeg := by omega
          have ev := nI_cl g0
          refine ⟨vin ia (by omega) (by omega), vin rfl g0 (by omega), fun c6 => ?_, fun c6 => hk0 (fun q => c6 ?_)⟩
          · rw [h38, ea, ev] at c6
            intro x14 e14
            have i14 : x14.toInt = v4.toInt + 1 := by rw [e14]; exact a_add rfl rfl (by omega) (by omega)
            refine ih x14 (by omega) (by omega) (fun k hk => ?_) (by omega)
            by_cases e : k = v4.toNatClampNeg
            · rw [e]; rw [nI_clamp (by omega)] at c6; exact c6
            · exact hw k (by omega)
          · rw [h38, ea, ev, nI_clamp (by omega)]
            exact q.2 v4.toNatClampNeg (by omega)
    exact LL _ 0 (by decide) (by decide) (fun k hk => absurd hk (by have : (0 : Int32).toInt = 0 := rfl; omega)) (Nat.lt_succ_self _)
  · exact c (toI_inj (by rw [id, em]; have := q.1; omega))
