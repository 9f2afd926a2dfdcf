-- FILLING: hour by hour, the first of the cheapest moves
def gO (M O I W fu ld l x : Int) : Prop := (-O ≤ x ∧ x ≤ I) ∧ (0 ≤ l + x ∧ l + x ≤ M) ∧ (x = 0 ∨ (0 < x ∧ ld + x * W ≤ fu) ∨ (x < 0 ∧ -(x * W) ≤ ld))
def af (Ls l : Int) : Int := if Ls ≤ l then l - Ls else 0
theorem af_in {Ls l M : Int} (h : 0 ≤ Ls) (h0 : 0 ≤ l ∧ l ≤ M) : 0 ≤ af Ls l ∧ af Ls l ≤ M := by
  unfold af
  by_cases c : Ls ≤ l
  · rw [if_pos c]; omega
  · rw [if_neg c]; omega
def FM (A : Int → Int → Prop) (c x : Int) : Prop := A x c ∧ ∀ x' c', A x' c' → c ≤ c' ∧ (x' < x → c < c')
theorem FM_uniq {A : Int → Int → Prop} {c x c' x' : Int} (h : FM A c x) (h' : FM A c' x') : c = c' ∧ x = x' := by
  have a := h.2 x' c' h'.1
  have b := h'.2 x c h.1
  have a1 := a.1
  have b1 := b.1
  have e : c = c' := by omega
  refine ⟨e, ?_⟩
  by_cases p : x' < x
  · have := a.2 p
    omega
  · by_cases q : x < x'
    · have := b.2 q
      omega
    · omega
def AV (G : Int → Int → Prop) (e Ls : Int) (V : Int → Int → Prop) (l x c : Int) : Prop := G l x ∧ ∃ v, V (af Ls (l + x)) v ∧ c = v + x * e
/-- the least cost with d hours to go -/
def VR (G : Nat → Int → Int → Prop) (e : Nat → Int) (Ls wish : Int) : Nat → Int → Int → Prop
  | 0 => fun l c => wish ≤ l ∧ c = 0
  | d + 1 => fun l c => ∃ x, FM (AV (G d) (e d) Ls (VR G e Ls wish d) l) c x
def CX (G : Nat → Int → Int → Prop) (e : Nat → Int) (Ls wish : Int) (d : Nat) (l x : Int) : Prop := ∃ c, FM (AV (G d) (e d) Ls (VR G e Ls wish d) l) c x
theorem VR_uniq {G : Nat → Int → Int → Prop} {e : Nat → Int} {Ls wish : Int} : ∀ (d : Nat) (l c c' : Int), VR G e Ls wish d l c → VR G e Ls wish d l c' → c = c' := by
  intro d
  cases d with
  | zero => intro l c c' h h'; exact h.2.trans h'.2.symm
  | succ d =>
    intro l c c' ⟨x, h⟩ ⟨x', h'⟩
    exact (FM_uniq h h').1
theorem CX_uniq {G : Nat → Int → Int → Prop} {e : Nat → Int} {Ls wish : Int} {d : Nat} {l x x' : Int} (h : CX G e Ls wish d l x) (h' : CX G e Ls wish d l x') : x = x' := by
  obtain ⟨c, h⟩ := h
  obtain ⟨c', h'⟩ := h'
  exact (FM_uniq h h').2
theorem AV_uniq {G : Int → Int → Prop} {e Ls : Int} {V : Int → Int → Prop} (hV : ∀ l c c', V l c → V l c' → c = c') {l x c c' : Int} (h : AV G e Ls V l x c) (h' : AV G e Ls V l x c') : c = c' := by
  obtain ⟨_, v, hv, e1⟩ := h
  obtain ⟨_, v', hv', e2⟩ := h'
  rw [e1, e2, hV _ _ _ hv hv']
theorem xe_bd {x e : Int} (hx : -10 ≤ x ∧ x ≤ 10) (he : -10000000 ≤ e ∧ e ≤ 10000000) : -100000000 ≤ x * e ∧ x * e ≤ 100000000 := by
  rcases (by omega : x = -10 ∨ x = -9 ∨ x = -8 ∨ x = -7 ∨ x = -6 ∨ x = -5 ∨ x = -4 ∨ x = -3 ∨ x = -2 ∨ x = -1 ∨ x = 0 ∨ x = 1 ∨ x = 2 ∨ x = 3 ∨ x = 4 ∨ x = 5 ∨ x = 6 ∨ x = 7 ∨ x = 8 ∨ x = 9 ∨ x = 10) with h | h | h | h | h | h | h | h | h | h | h | h | h | h | h | h | h | h | h | h | h <;> (rw [h]; omega)
theorem VR_bd {G : Nat → Int → Int → Prop} {e : Nat → Int} {Ls wish : Int} (hG : ∀ d l x, G d l x → -10 ≤ x ∧ x ≤ 10) (he : ∀ d, -10000000 ≤ e d ∧ e d ≤ 10000000) : ∀ (d : Nat) (l c : Int), VR G e Ls wish d l c → -100000000 * (d : Int) ≤ c ∧ c ≤ 100000000 * (d : Int) := by
  intro d
  induction d with
  | zero =>
    intro l c h
    have h2 : c = 0 := h.2
    omega
  | succ d ih =>
    intro l c ⟨x, h, _⟩
    obtain ⟨g, v, hv, ec⟩ := h
    have b := ih _ _ hv
    have k := xe_bd (hG d l x g) (he d)
    omega
def FP (A : Int → Int → Prop) (b c x : Int) : Prop := (A x c ∧ x < b) ∧ ∀ x' c', x' < b → A x' c' → c ≤ c' ∧ (x' < x → c < c')
def NP (A : Int → Int → Prop) (b : Int) : Prop := ∀ x c, x < b → ¬ A x c
theorem NP_skip {A : Int → Int → Prop} {b : Int} (h : NP A b) (n : ∀ c, ¬ A b c) : NP A (b + 1) := by
  intro x c hx
  by_cases e : x = b
  · rw [e]; exact n c
  · exact h x c (by omega)
theorem FP_skip {A : Int → Int → Prop} {b c x : Int} (h : FP A b c x) (n : ∀ c, ¬ A b c) : FP A (b + 1) c x := by
  refine ⟨⟨h.1.1, by have := h.1.2; omega⟩, fun x' c' hx ha => ?_⟩
  by_cases e : x' = b
  · rw [e] at ha; exact absurd ha (n c')
  · exact h.2 x' c' (by omega) ha
theorem NP_new {A : Int → Int → Prop} {b c : Int} (fn : ∀ x c c', A x c → A x c' → c = c') (h : NP A b) (ha : A b c) : FP A (b + 1) c b := by
  refine ⟨⟨ha, by omega⟩, fun x' c' hx ha' => ?_⟩
  by_cases e : x' = b
  · rw [e] at ha'
    have := fn b c c' ha ha'
    exact ⟨by omega, fun q => by omega⟩
  · exact absurd ha' (h x' c' (by omega))
theorem FP_new {A : Int → Int → Prop} {b c c2 x : Int} (fn : ∀ x c c', A x c → A x c' → c = c') (h : FP A b c x) (ha : A b c2) (hl : c2 < c) : FP A (b + 1) c2 b := by
  refine ⟨⟨ha, by omega⟩, fun x' c' hx ha' => ?_⟩
  by_cases e : x' = b
  · rw [e] at ha'
    have := fn b c2 c' ha ha'
    exact ⟨by omega, fun q => by omega⟩
  · have := (h.2 x' c' (by omega) ha').1
    exact ⟨by omega, fun _ => by omega⟩
theorem FP_keep {A : Int → Int → Prop} {b c c2 x : Int} (fn : ∀ x c c', A x c → A x c' → c = c') (h : FP A b c x) (ha : A b c2) (hl : ¬ c2 < c) : FP A (b + 1) c x := by
  have hx := h.1.2
  refine ⟨⟨h.1.1, by omega⟩, fun x' c' hx' ha' => ?_⟩
  by_cases e : x' = b
  · rw [e] at ha'
    have := fn b c2 c' ha ha'
    exact ⟨by omega, fun q => by omega⟩
  · exact h.2 x' c' (by omega) ha'
theorem FP_end {A : Int → Int → Prop} {b c x : Int} (h : FP A b c x) (hb : ∀ x c, A x c → x < b) : FM A c x := ⟨h.1.1, fun x' c' ha => h.2 x' c' (hb x' c' ha) ha⟩
theorem NP_end {A : Int → Int → Prop} {b : Int} (h : NP A b) (hb : ∀ x c, A x c → x < b) : ∀ x c, ¬ A x c := fun x c ha => h x c (hb x c ha) ha
/-- a filling: the moves, and the levels that they leave -/
def FWY (G : Nat → Int → Int → Prop) (e : Nat → Int) (Ls wish l0 : Int) (n : Nat) (mv lf : Nat → Int32) : Prop := ∀ i, i < n → CX G e Ls wish (n - 1 - i) (if i = 0 then l0 else (lf (i - 1)).toInt) (mv i).toInt ∧ (lf i).toInt = af Ls ((if i = 0 then l0 else (lf (i - 1)).toInt) + (mv i).toInt)
theorem FWY_uniq {G : Nat → Int → Int → Prop} {e : Nat → Int} {Ls wish l0 : Int} {n : Nat} {mv lf mv' lf' : Nat → Int32} (h : FWY G e Ls wish l0 n mv lf) (h' : FWY G e Ls wish l0 n mv' lf') : ∀ i, i < n → mv i = mv' i ∧ lf i = lf' i := by
  intro i
  induction i with
  | zero =>
    intro hi
    obtain ⟨a1, a2⟩ := h 0 hi
    obtain ⟨b1, b2⟩ := h' 0 hi
    rw [if_pos rfl] at a1 a2 b1 b2
    have e1 := CX_uniq a1 b1
    exact ⟨toI_inj e1, toI_inj (by rw [a2, b2, e1])⟩
  | succ i ih =>
    intro hi
    have p := ih (by omega)
    obtain ⟨a1, a2⟩ := h (i + 1) hi
    obtain ⟨b1, b2⟩ := h' (i + 1) hi
    rw [if_neg (Nat.succ_ne_zero i), Nat.add_sub_cancel] at a1 a2 b1 b2
    rw [p.2] at a1 a2
    have e1 := CX_uniq a1 b1
    exact ⟨toI_inj e1, toI_inj (by rw [a2, b2, e1])⟩
theorem mulle {a b w : Int} (h : a ≤ b) (hw : 0 ≤ w) : a * w ≤ b * w := Int.mul_le_mul_of_nonneg_right h hw
/-- how many moves a limit leaves -/
theorem v_X7_mostWithin (b1 b2 b3 : Int32) (z : St) (P : Int32 → Prop) (h2 : 0 ≤ b2.toInt ∧ b2.toInt ≤ 10) (h3 : 1 ≤ b3.toInt ∧ b3.toInt ≤ 1000) (hk : ∀ r : Int32, 0 ≤ r.toInt → r.toInt ≤ b2.toInt → (∀ x : Int, 1 ≤ x → x ≤ b2.toInt → (x ≤ r.toInt ↔ x * b3.toInt ≤ b1.toInt)) → P r) : wp_X7_mostWithin b1 b2 b3 z P := by
  have e1 : (1 : Int32).toInt = 1 := rfl
  unfold wp_X7_mostWithin
  intro K2 hK2
  have L : ∀ (n : Nat) (v1 : Int32), 0 ≤ v1.toInt → v1.toInt ≤ b2.toInt → (1 ≤ v1.toInt → v1.toInt * b3.toInt ≤ b1.toInt) → (10 - v1.toInt).toNat < n → K2 v1 := by
    intro n
    induction n with
    | zero => intro v1 _ _ _ q; omega
    | succ n ih =>
      intro v1 g0 g1 hv gm
      refine hK2 v1 ⟨fun c => hk v1 g0 g1 (fun x x1 x2 => ?_), fun c => ?_⟩
      · have c' := i_le rfl rfl c
        refine ⟨fun q => ?_, fun _ => by omega⟩
        have a := hv (by omega)
        have b := mulle q (w := b3.toInt) (by omega)
        omega
      · have c' := i_nle rfl rfl c
        have ia : (v1 + (1 : Int32)).toInt = v1.toInt + 1 := a_add rfl e1 (by omega) (by omega)
        have k1 := mulle (show v1.toInt + 1 ≤ 10 by omega) (w := b3.toInt) (by omega)
        have k0 := mulle (show 0 ≤ v1.toInt + 1 by omega) (w := b3.toInt) (by omega)
        have im : ((v1 + (1 : Int32)) * b3).toInt = (v1.toInt + 1) * b3.toInt := a_mul ia rfl (by omega) (by omega)
        refine ⟨fun c2 => hk v1 g0 g1 (fun x x1 x2 => ?_), fun c2 => ?_⟩
        · have c2' := i_lt rfl im c2
          refine ⟨fun q => ?_, fun q => ?_⟩
          · have a := hv (by omega)
            have b := mulle q (w := b3.toInt) (by omega)
            omega
          · by_cases p : x ≤ v1.toInt
            · exact p
            · have b := mulle (show v1.toInt + 1 ≤ x by omega) (w := b3.toInt) (by omega)
              omega
        · have c2' := i_nlt rfl im c2
          intro x5 e5
          have i5 : x5.toInt = v1.toInt + 1 := by rw [e5]; exact ia
          exact ih x5 (by omega) (by omega) (fun _ => by rw [i5]; exact c2') (by omega)
  exact L 11 0 (by decide) h2.1 (fun q => absurd q (by decide)) (by decide)
theorem gO_rng {M O I W fu ld l x rO rI : Int} (hO : 0 ≤ rO ∧ rO ≤ O) (hI : 0 ≤ rI ∧ rI ≤ I) (kO : ∀ x : Int, 1 ≤ x → x ≤ O → (x ≤ rO ↔ x * W ≤ ld)) (kI : ∀ x : Int, 1 ≤ x → x ≤ I → (x ≤ rI ↔ x * W ≤ fu - ld)) : gO M O I W fu ld l x ↔ ((-rO ≤ x ∧ -l ≤ x) ∧ (x ≤ rI ∧ x ≤ M - l)) := by
  have en : (-x) * W = -(x * W) := Int.neg_mul x W
  unfold gO
  constructor
  · intro ⟨a, b, c⟩
    rcases c with c | c | c
    · omega
    · have := (kI x (by omega) (by omega)).mpr (by omega)
      omega
    · have := (kO (-x) (by omega) (by omega)).mpr (by omega)
      omega
  · intro ⟨a, b⟩
    refine ⟨by omega, by omega, ?_⟩
    by_cases p : 0 < x
    · have := (kI x (by omega) (by omega)).mp b.1
      exact Or.inr (Or.inl ⟨p, by omega⟩)
    · by_cases q : x < 0
      · have := (kO (-x) (by omega) (by omega)).mp (by omega)
        exact Or.inr (Or.inr ⟨q, by omega⟩)
      · exact Or.inl (by omega)
