-- THE REFERENCE'S isWord, must, number
theorem l32 {x : Int64} {p : Int} (hx : x.toInt = p) (h1 : -2147483648 ≤ p) (h2 : p < 2147483648) : (Int64.toInt32 x).toInt = p := by
  subst hx
  rw [Int64.toInt_toInt32]; exact Int.bmod_eq_of_le (by omega) (by omega)
theorem v_X9_isWord0 (z : St) (P : Int32 → Prop) (tp : Nat → Int32) (L : Nat) (t : Nat × Nat) (hs : SM z tp L t) (tk : TK tp L t) (h1 : isW 0 5 tp t → P 1) (h0 : ¬ isW 0 5 tp t → P 0) : wp_X9_isWord 113 117 105 101 116 0 z P := by
  have hw := word_0 tk hs.2.2.2.2.2
  have hso := hs.2.2.2.2.1
  have w1 : (1 : Int32).toInt = 1 := rfl
  unfold wp_X9_isWord
  intro x1 e1
  subst e1
  intro K3 hK3
  refine ⟨fun _ => hK3 _ ?_, fun h => absurd h (by decide)⟩
  intro K5 hK5
  refine ⟨fun _ => hK5 _ ?_, fun h => absurd h (by decide)⟩
  intro K7 hK7
  refine ⟨fun _ => hK7 _ ?_, fun h => absurd h (by decide)⟩
  intro K9 hK9
  refine ⟨fun h => absurd rfl h, fun _ => hK9 _ ?_⟩
  refine ⟨fun c => h0 (fun q => c (toI_inj (by rw [hso, w1]; exact (hw.mpr q).1))), fun c => ⟨fun cl => h0 (fun q => cl (lgc0.mpr ((hw.mpr q).2.trans (by decide)))), fun cl => h1 (hw.mp ⟨?_, (lgc0.mp cl).trans (by decide)⟩)⟩⟩
  rw [← hso, c]; rfl
theorem v_X9_isWord1 (z : St) (P : Int32 → Prop) (tp : Nat → Int32) (L : Nat) (t : Nat × Nat) (hs : SM z tp L t) (tk : TK tp L t) (h1 : isW 1 4 tp t → P 1) (h0 : ¬ isW 1 4 tp t → P 0) : wp_X9_isWord 100 101 97 114 0 0 z P := by
  have hw := word_1 tk hs.2.2.2.2.2
  have hso := hs.2.2.2.2.1
  have w1 : (1 : Int32).toInt = 1 := rfl
  unfold wp_X9_isWord
  intro x1 e1
  subst e1
  intro K3 hK3
  refine ⟨fun _ => hK3 _ ?_, fun h => absurd h (by decide)⟩
  intro K5 hK5
  refine ⟨fun _ => hK5 _ ?_, fun h => absurd h (by decide)⟩
  intro K7 hK7
  refine ⟨fun h => absurd rfl h, fun _ => hK7 _ ?_⟩
  intro K9 hK9
  refine ⟨fun h => absurd rfl h, fun _ => hK9 _ ?_⟩
  refine ⟨fun c => h0 (fun q => c (toI_inj (by rw [hso, w1]; exact (hw.mpr q).1))), fun c => ⟨fun cl => h0 (fun q => cl (lgc0.mpr ((hw.mpr q).2.trans (by decide)))), fun cl => h1 (hw.mp ⟨?_, (lgc0.mp cl).trans (by decide)⟩)⟩⟩
  rw [← hso, c]; rfl
theorem v_X9_isWord2 (z : St) (P : Int32 → Prop) (tp : Nat → Int32) (L : Nat) (t : Nat × Nat) (hs : SM z tp L t) (tk : TK tp L t) (h1 : isW 2 3 tp t → P 1) (h0 : ¬ isW 2 3 tp t → P 0) : wp_X9_isWord 106 111 98 0 0 0 z P := by
  have hw := word_2 tk hs.2.2.2.2.2
  have hso := hs.2.2.2.2.1
  have w1 : (1 : Int32).toInt = 1 := rfl
  unfold wp_X9_isWord
  intro x1 e1
  subst e1
  intro K3 hK3
  refine ⟨fun _ => hK3 _ ?_, fun h => absurd h (by decide)⟩
  intro K5 hK5
  refine ⟨fun h => absurd rfl h, fun _ => hK5 _ ?_⟩
  intro K7 hK7
  refine ⟨fun h => absurd rfl h, fun _ => hK7 _ ?_⟩
  intro K9 hK9
  refine ⟨fun h => absurd rfl h, fun _ => hK9 _ ?_⟩
  refine ⟨fun c => h0 (fun q => c (toI_inj (by rw [hso, w1]; exact (hw.mpr q).1))), fun c => ⟨fun cl => h0 (fun q => cl (lgc0.mpr ((hw.mpr q).2.trans (by decide)))), fun cl => h1 (hw.mp ⟨?_, (lgc0.mp cl).trans (by decide)⟩)⟩⟩
  rw [← hso, c]; rfl
theorem v_X9_isWord3 (z : St) (P : Int32 → Prop) (tp : Nat → Int32) (L : Nat) (t : Nat × Nat) (hs : SM z tp L t) (tk : TK tp L t) (h1 : isW 3 4 tp t → P 1) (h0 : ¬ isW 3 4 tp t → P 0) : wp_X9_isWord 102 114 111 109 0 0 z P := by
  have hw := word_3 tk hs.2.2.2.2.2
  have hso := hs.2.2.2.2.1
  have w1 : (1 : Int32).toInt = 1 := rfl
  unfold wp_X9_isWord
  intro x1 e1
  subst e1
  intro K3 hK3
  refine ⟨fun _ => hK3 _ ?_, fun h => absurd h (by decide)⟩
  intro K5 hK5
  refine ⟨fun _ => hK5 _ ?_, fun h => absurd h (by decide)⟩
  intro K7 hK7
  refine ⟨fun h => absurd rfl h, fun _ => hK7 _ ?_⟩
  intro K9 hK9
  refine ⟨fun h => absurd rfl h, fun _ => hK9 _ ?_⟩
  refine ⟨fun c => h0 (fun q => c (toI_inj (by rw [hso, w1]; exact (hw.mpr q).1))), fun c => ⟨fun cl => h0 (fun q => cl (lgc0.mpr ((hw.mpr q).2.trans (by decide)))), fun cl => h1 (hw.mp ⟨?_, (lgc0.mp cl).trans (by decide)⟩)⟩⟩
  rw [← hso, c]; rfl
theorem v_X9_isWord4 (z : St) (P : Int32 → Prop) (tp : Nat → Int32) (L : Nat) (t : Nat × Nat) (hs : SM z tp L t) (tk : TK tp L t) (h1 : isW 4 2 tp t → P 1) (h0 : ¬ isW 4 2 tp t → P 0) : wp_X9_isWord 116 111 0 0 0 0 z P := by
  have hw := word_4 tk hs.2.2.2.2.2
  have hso := hs.2.2.2.2.1
  have w1 : (1 : Int32).toInt = 1 := rfl
  unfold wp_X9_isWord
  intro x1 e1
  subst e1
  intro K3 hK3
  refine ⟨fun h => absurd rfl h, fun _ => hK3 _ ?_⟩
  intro K5 hK5
  refine ⟨fun h => absurd rfl h, fun _ => hK5 _ ?_⟩
  intro K7 hK7
  refine ⟨fun h => absurd rfl h, fun _ => hK7 _ ?_⟩
  intro K9 hK9
  refine ⟨fun h => absurd rfl h, fun _ => hK9 _ ?_⟩
  refine ⟨fun c => h0 (fun q => c (toI_inj (by rw [hso, w1]; exact (hw.mpr q).1))), fun c => ⟨fun cl => h0 (fun q => cl (lgc0.mpr ((hw.mpr q).2.trans (by decide)))), fun cl => h1 (hw.mp ⟨?_, (lgc0.mp cl).trans (by decide)⟩)⟩⟩
  rw [← hso, c]; rfl
theorem v_X9_isWord5 (z : St) (P : Int32 → Prop) (tp : Nat → Int32) (L : Nat) (t : Nat × Nat) (hs : SM z tp L t) (tk : TK tp L t) (h1 : isW 5 6 tp t → P 1) (h0 : ¬ isW 5 6 tp t → P 0) : wp_X9_isWord 98 101 102 111 114 101 z P := by
  have hw := word_5 tk hs.2.2.2.2.2
  have hso := hs.2.2.2.2.1
  have w1 : (1 : Int32).toInt = 1 := rfl
  unfold wp_X9_isWord
  intro x1 e1
  subst e1
  intro K3 hK3
  refine ⟨fun _ => hK3 _ ?_, fun h => absurd h (by decide)⟩
  intro K5 hK5
  refine ⟨fun _ => hK5 _ ?_, fun h => absurd h (by decide)⟩
  intro K7 hK7
  refine ⟨fun _ => hK7 _ ?_, fun h => absurd h (by decide)⟩
  intro K9 hK9
  refine ⟨fun _ => hK9 _ ?_, fun h => absurd h (by decide)⟩
  refine ⟨fun c => h0 (fun q => c (toI_inj (by rw [hso, w1]; exact (hw.mpr q).1))), fun c => ⟨fun cl => h0 (fun q => cl (lgc0.mpr ((hw.mpr q).2.trans (by decide)))), fun cl => h1 (hw.mp ⟨?_, (lgc0.mp cl).trans (by decide)⟩)⟩⟩
  rw [← hso, c]; rfl
theorem mb_must (b1 : Int32) (z : St) (P : St → Prop) (hb : ¬ gI z 42 = 0) (hp : P z) : wp_X9_must b1 z P := by
  unfold wp_X9_must
  intro K1 hK1
  have h : K1 z := hK1 z ⟨fun _ => hp, fun c => absurd c hb⟩
  exact ⟨fun _ => h, fun c => absurd c hb⟩
theorem v_X9_must (b1 : Int32) (z : St) (P : St → Prop) (ht : TM z) (tp : Nat → Int32) (L : Nat) (t : Nat × Nat) (hs : SM z tp L t) (tk : TK tp L t) (hb : gI z 42 = 0) (h1 : b1 ≠ 0 → ∀ z2 : St, TM z2 → Same [37, 38, 39] [] z z2 → SM z2 tp L (n1 tp L t) → P z2) (h0 : b1 = 0 → ∀ z2 : St, TM z2 → Same [41, 42] [] z z2 → ¬ gI z2 42 = 0 → (gI z2 41).toInt = (t.1 : Int) → P z2) : wp_X9_must b1 z P := by
  unfold wp_X9_must
  intro K1 hK1
  refine ⟨fun c => absurd hb c, fun _ => ⟨fun c => hK1 z ⟨fun q => absurd hb q, fun _ => ?_⟩, fun c => ?_⟩⟩
  · exact v_X9_next z _ ht tp L t.2 hs.1 hs.2.1 hs.2.2.2.1 tk.2.1 (fun z4 t4 s4 x4 => h1 c z4 t4 s4 x4)
  · intro z8 e8 z9 e9
    have t8 : TM z8 := by rw [e8]; exact Ty_wI ht (show 0 ≤ (1 : Int32).toInt ∧ (1 : Int32).toInt ≤ 1 by decide)
    have t9 : TM z9 := by rw [e9]; exact Ty_wI t8 trivial
    have n9 : ¬ gI z9 42 = 0 := by rw [e9, e8]; show ¬ (1 : Int32) = 0; decide
    refine hK1 z9 ⟨fun _ => h0 c z9 t9 ((Same.rf.i (by decide) e8).i (by decide) e9) n9 ?_, fun q => absurd q n9⟩
    rw [e9, e8]; exact hs.2.2.1
theorem mb_number (b1 : Int64) (z : St) (P : Int32 → St → Prop) (hb : ¬ gI z 42 = 0) (hp : ∀ r, P r z) : wp_X9_number b1 z P := by
  unfold wp_X9_number
  intro x1 _ K3 hK3
  have h3 : ∀ s, K3 s := fun s => hK3 s (mb_must s z _ hb (hp _))
  intro K6 hK6
  exact ⟨fun _ => hK6 (h3 _), fun _ => ⟨fun _ => hK6 (h3 _), fun _ => h3 _⟩⟩
theorem v_X9_number (b1 : Int64) (z : St) (P : Int32 → St → Prop) (ht : TM z) (tp : Nat → Int32) (L : Nat) (t : Nat × Nat) (hs : SM z tp L t) (tk : TK tp L t) (hb : gI z 42 = 0) (m : Int) (hm : b1.toInt = m) (h9 : m ≤ 10000) (hz : 0 ≤ m) (h1 : okN tp L t m → ∀ (r : Int32) (z2 : St), r.toInt = nC tp L t → TM z2 → Same [37, 38, 39] [] z z2 → SM z2 tp L (n1 tp L t) → P r z2) (h0 : ¬ okN tp L t m → ∀ (r : Int32) (z2 : St), TM z2 → Same [41, 42] [] z z2 → ¬ gI z2 42 = 0 → (gI z2 41).toInt = (t.1 : Int) → P r z2) : wp_X9_number b1 z P := by
  have hw := num_ok tk hs.2.2.2.2.2 h9 hz
  have hso := hs.2.2.2.2.1
  have w2 : (2 : Int32).toInt = 2 := rfl
  unfold wp_X9_number
  intro x1 e1 K3 hK3
  have hbad : ¬ okN tp L t m → K3 0 := fun no => hK3 0 (v_X9_must _ z _ ht tp L t hs tk hb (fun q => absurd rfl q) (fun _ z2 t2 s2 n2 f2 => h0 no _ z2 t2 s2 n2 f2))
  intro K6 hK6
  refine ⟨fun c => hK6 (hbad (fun q => c (toI_inj (by rw [hso, w2]; exact (hw.1.mpr q).1)))), fun c => ⟨fun cl => hK6 (hbad (fun q => ?_)), fun cl => ?_⟩⟩
  · have := lgc_gt.mp cl
    have := (hw.1.mpr q).2
    omega
  · have cl' : ¬ b1.toInt < (gJ z 40).toInt := fun q => cl (lgc_gt.mpr q)
    have ok : okN tp L t m := hw.1.mp ⟨by rw [← hso, c]; rfl, by omega⟩
    have hn := hw.2 ok
    refine hK3 1 (v_X9_must _ z _ ht tp L t hs tk hb (fun _ z2 t2 s2 x2 => h1 ok _ z2 ?_ t2 s2 x2) (fun q => absurd q (by decide)))
    rw [e1]
    exact l32 hn (by unfold okN at ok; omega) (by unfold okN at ok; omega)
