-- rules() OF THE CLASS
theorem TX_sw {z : St} (h : TX z) : TX (swZ z) := by
  refine ⟨fun j => ?_, fun k i => ?_⟩
  · show okX j (if j = 3402 then z.1 5202 else if j = 3403 then z.1 5203 else if j = 5202 then z.1 3402 else if j = 5203 then z.1 3403 else z.1 j)
    by_cases e1 : j = 3402
    · subst e1; exact trivial
    by_cases e2 : j = 3403
    · subst e2; exact trivial
    by_cases e3 : j = 5202
    · subst e3; exact trivial
    by_cases e4 : j = 5203
    · subst e4; exact trivial
    rw [if_neg e1, if_neg e2, if_neg e3, if_neg e4]
    exact h.1 j
  · show okXF k i ((if k = 35 then z.2.1 53 else if k = 36 then z.2.1 54 else if k = 53 then z.2.1 35 else if k = 54 then z.2.1 36 else z.2.1 k) i)
    by_cases e1 : k = 35
    · subst e1; exact trivial
    by_cases e2 : k = 36
    · subst e2; exact trivial
    by_cases e3 : k = 53
    · subst e3; exact trivial
    by_cases e4 : k = 54
    · subst e4; exact trivial
    rw [if_neg e1, if_neg e2, if_neg e3, if_neg e4]
    exact h.2 k i
theorem Same_sw {I F : List Nat} {z z1 : St} (h : Same I F z z1) (h1 : 3402 ∈ I) (h2 : 3403 ∈ I) (h3 : 5202 ∈ I) (h4 : 5203 ∈ I) (g1 : 35 ∈ F) (g2 : 36 ∈ F) (g3 : 53 ∈ F) (g4 : 54 ∈ F) : Same I F z (swZ z1) := by
  refine ⟨fun j hj => ?_, fun k hk => ?_⟩
  · show (if j = 3402 then z1.1 5202 else if j = 3403 then z1.1 5203 else if j = 5202 then z1.1 3402 else if j = 5203 then z1.1 3403 else z1.1 j) = _
    rw [if_neg (show ¬ j = 3402 from fun e => hj (by rw [e]; exact h1)), if_neg (show ¬ j = 3403 from fun e => hj (by rw [e]; exact h2)), if_neg (show ¬ j = 5202 from fun e => hj (by rw [e]; exact h3)), if_neg (show ¬ j = 5203 from fun e => hj (by rw [e]; exact h4))]
    exact h.1 j hj
  · show (if k = 35 then z1.2.1 53 else if k = 36 then z1.2.1 54 else if k = 53 then z1.2.1 35 else if k = 54 then z1.2.1 36 else z1.2.1 k) = _
    rw [if_neg (show ¬ k = 35 from fun e => hk (by rw [e]; exact g1)), if_neg (show ¬ k = 36 from fun e => hk (by rw [e]; exact g2)), if_neg (show ¬ k = 53 from fun e => hk (by rw [e]; exact g3)), if_neg (show ¬ k = 54 from fun e => hk (by rw [e]; exact g4))]
    exact h.2 k hk
abbrev RUI : List Nat := [7, 8, 3402, 3403, 3701, 3702, 3703, 5202, 5203]
abbrev RUF : List Nat := [35, 36, 53, 54]
theorem s_X8_rules (a : Nat → Nat) (z : St) (P : Int32 → (Nat → Nat) × St → Prop) (ht : TX z) (hk : ∀ (r : Int32) (u : (Nat → Nat) × St), TX u.2 → Same RUI RUF z u.2 → u.1 0 = a 0 → (gI u.2 3701).toInt = 0 → P r u) : wp_X8_rules a z P := by
  unfold wp_X8_rules
  refine s_X4_read_52 z _ ht (fun r2 z1 t1 s1 _ => ?_)
  have s1' : Same RUI RUF z z1 := Same.tr (z1 := z) Same.rf s1 (by decide) (by decide)
  intro K4 hK4
  have h4 : ∀ s3 : Int32, K4 s3 := by
    intro s3
    refine hK4 s3 ?_
    intro z5 e5 z6 e6
    have t5 : TX z5 := by rw [e5]; exact Ty_wI t1 trivial
    have t6 : TX z6 := by rw [e6]; exact Ty_wI t5 (show 0 ≤ (0 : Int32).toInt ∧ (0 : Int32).toInt ≤ 300 by decide)
    have s6 : Same RUI RUF z z6 := (s1'.i (by decide) e5).i (by decide) e6
    have o6 : gI z6 3701 = 0 := by rw [e6]; rfl
    refine ⟨fun _ => ?_, fun _ => ?_⟩
    · refine s_X8_accept _ _ _ (TX_sw t6) (fun r9 z8 t8 s8 _ => ?_)
      refine hk r9 _ t8 ((Same_sw s6 (by decide) (by decide) (by decide) (by decide) (by decide) (by decide) (by decide) (by decide)).tr s8 (by decide) (by decide)) rfl ?_
      show (gI z8 3701).toInt = 0
      rw [s8.1 3701 (by decide)]
      show (gI z6 3701).toInt = 0
      rw [o6]; rfl
    · refine s_X8_refuse _ _ _ t6 (fun r9 z8 t8 s8 _ => ?_)
      refine hk r9 _ t8 (s6.tr s8 (by decide) (by decide)) rfl ?_
      show (gI z8 3701).toInt = 0
      rw [s8.1 3701 (by decide), o6]; rfl
  exact ⟨fun _ => h4 _, fun _ => h4 _⟩
