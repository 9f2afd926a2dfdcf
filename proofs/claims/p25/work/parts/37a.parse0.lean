-- TOKENS, as functions of the tape
def kd (x : Int32) : Nat := if 97 ≤ x.toInt ∧ x.toInt ≤ 122 then 1 else if 48 ≤ x.toInt ∧ x.toInt ≤ 57 then 2 else 0
theorem kd_1 {x : Int32} : kd x = 1 ↔ 97 ≤ x.toInt ∧ x.toInt ≤ 122 := by
  unfold kd
  constructor
  · intro h
    by_cases a : 97 ≤ x.toInt ∧ x.toInt ≤ 122
    · exact a
    · rw [if_neg a] at h
      by_cases b : 48 ≤ x.toInt ∧ x.toInt ≤ 57
      · rw [if_pos b] at h; omega
      · rw [if_neg b] at h; omega
  · intro h; rw [if_pos h]
theorem kd_2 {x : Int32} : kd x = 2 ↔ 48 ≤ x.toInt ∧ x.toInt ≤ 57 := by
  unfold kd
  constructor
  · intro h
    by_cases a : 97 ≤ x.toInt ∧ x.toInt ≤ 122
    · rw [if_pos a] at h; omega
    · rw [if_neg a] at h
      by_cases b : 48 ≤ x.toInt ∧ x.toInt ≤ 57
      · exact b
      · rw [if_neg b] at h; omega
  · intro h; rw [if_neg (by omega), if_pos h]
theorem kd_le (x : Int32) : kd x ≤ 2 := by
  unfold kd
  by_cases a : 97 ≤ x.toInt ∧ x.toInt ≤ 122
  · rw [if_pos a]; omega
  · rw [if_neg a]
    by_cases b : 48 ≤ x.toInt ∧ x.toInt ≤ 57
    · rw [if_pos b]; omega
    · rw [if_neg b]; omega
def sk (tp : Nat → Int32) : Nat → Nat → Nat
  | 0, p => p
  | n + 1, p => if tp p = 32 then sk tp n (p + 1) else p
def rn (tp : Nat → Int32) (k : Nat) : Nat → Nat → Nat
  | 0, q => q
  | n + 1, q => if kd (tp q) = k then rn tp k n (q + 1) else q
theorem sk_bd (tp : Nat → Int32) : ∀ n p, p ≤ sk tp n p ∧ sk tp n p ≤ p + n := by
  intro n
  induction n with
  | zero => intro p; exact ⟨Nat.le_refl _, Nat.le_refl _⟩
  | succ n ih =>
    intro p
    unfold sk
    by_cases h : tp p = 32
    · rw [if_pos h]; have := ih (p + 1); omega
    · rw [if_neg h]; omega
theorem rn_bd (tp : Nat → Int32) (k : Nat) : ∀ n q, q ≤ rn tp k n q ∧ rn tp k n q ≤ q + n ∧ ∀ j, q ≤ j → j < rn tp k n q → kd (tp j) = k := by
  intro n
  induction n with
  | zero => intro q; exact ⟨Nat.le_refl _, Nat.le_refl _, fun j h1 h2 => absurd (show j < q from h2) (by omega)⟩
  | succ n ih =>
    intro q
    unfold rn
    by_cases h : kd (tp q) = k
    · rw [if_pos h]
      have := ih (q + 1)
      refine ⟨by omega, by omega, fun j h1 h2 => ?_⟩
      by_cases e : j = q
      · rw [e]; exact h
      · exact this.2.2 j (by omega) h2
    · rw [if_neg h]; exact ⟨by omega, by omega, fun j h1 h2 => absurd h2 (by omega)⟩
def tS (tp : Nat → Int32) (L p : Nat) : Nat := sk tp (L - p) p
def tE (tp : Nat → Int32) (L s : Nat) : Nat := if L ≤ s then s else if kd (tp s) = 0 then s + 1 else rn tp (kd (tp s)) (L - (s + 1)) (s + 1)
def nx (tp : Nat → Int32) (L p : Nat) : Nat × Nat := (tS tp L p, tE tp L (tS tp L p))
def TK (tp : Nat → Int32) (L : Nat) (t : Nat × Nat) : Prop := t.1 ≤ L ∧ t.2 ≤ L ∧ (L ≤ t.1 → t.2 = t.1) ∧ (t.1 < L → t.1 < t.2 ∧ (kd (tp t.1) = 0 → t.2 = t.1 + 1) ∧ ∀ j, t.1 ≤ j → j < t.2 → kd (tp j) = kd (tp t.1))
theorem TK_nx (tp : Nat → Int32) (L p : Nat) (hp : p ≤ L) : TK tp L (nx tp L p) := by
  have h1 := sk_bd tp (L - p) p
  show TK tp L (tS tp L p, tE tp L (tS tp L p))
  have hs : tS tp L p ≤ L := by unfold tS; omega
  generalize tS tp L p = s at hs
  unfold TK tE
  by_cases a : L ≤ s
  · refine ⟨hs, ?_, fun _ => if_pos a, fun q => absurd q (by show ¬ s < L; omega)⟩
    show (if L ≤ s then s else _) ≤ L
    rw [if_pos a]; exact hs
  · by_cases b : kd (tp s) = 0
    · show s ≤ L ∧ (if L ≤ s then s else if kd (tp s) = 0 then s + 1 else _) ≤ L ∧ (L ≤ s → _) ∧ (s < L → s < (if L ≤ s then s else if kd (tp s) = 0 then s + 1 else _) ∧ (_ → (if L ≤ s then s else if kd (tp s) = 0 then s + 1 else _) = s + 1) ∧ ∀ j, s ≤ j → j < (if L ≤ s then s else if kd (tp s) = 0 then s + 1 else _) → kd (tp j) = kd (tp s))
      rw [if_neg a, if_pos b]
      refine ⟨hs, by omega, fun q => absurd q a, fun _ => ⟨by omega, fun _ => rfl, fun j h1 h2 => ?_⟩⟩
      rw [show j = s by omega]
    · have h2 := rn_bd tp (kd (tp s)) (L - (s + 1)) (s + 1)
      show s ≤ L ∧ (if L ≤ s then s else if kd (tp s) = 0 then s + 1 else rn tp (kd (tp s)) (L - (s + 1)) (s + 1)) ≤ L ∧ (L ≤ s → _) ∧ (s < L → s < (if L ≤ s then s else if kd (tp s) = 0 then s + 1 else rn tp (kd (tp s)) (L - (s + 1)) (s + 1)) ∧ (_ → (if L ≤ s then s else if kd (tp s) = 0 then s + 1 else rn tp (kd (tp s)) (L - (s + 1)) (s + 1)) = s + 1) ∧ ∀ j, s ≤ j → j < (if L ≤ s then s else if kd (tp s) = 0 then s + 1 else rn tp (kd (tp s)) (L - (s + 1)) (s + 1)) → kd (tp j) = kd (tp s))
      rw [if_neg a, if_neg b]
      refine ⟨hs, by omega, fun q => absurd q a, fun _ => ⟨by omega, fun q => absurd q b, fun j h3 h4 => ?_⟩⟩
      by_cases e : j = s
      · rw [e]
      · exact h2.2.2 j (by omega) h4
-- numbers and words
def cv (tp : Nat → Int32) (s : Nat) : Nat → Int
  | 0 => 0
  | n + 1 => if cv tp s n * 10 + (tp (s + n)).toInt - 48 < 100000 then cv tp s n * 10 + (tp (s + n)).toInt - 48 else 100000
def nv (tp : Nat → Int32) (s : Nat) : Nat → Int
  | 0 => 0
  | n + 1 => if nv tp s n ≤ 10000 then nv tp s n * 10 + (tp (s + n)).toInt - 48 else nv tp s n
def pk (tp : Nat → Int32) (s : Nat) : Nat → Int
  | 0 => 0
  | n + 1 => pk tp s n * 32 + (tp (s + n)).toInt - 96
def wv (tp : Nat → Int32) (s n : Nat) : Int := if n ≤ 7 then pk tp s n else -1
theorem cv_nv (tp : Nat → Int32) (s : Nat) : ∀ n, (∀ j, s ≤ j → j < s + n → 48 ≤ (tp j).toInt ∧ (tp j).toInt ≤ 57) → 0 ≤ nv tp s n ∧ nv tp s n ≤ 100009 ∧ 0 ≤ cv tp s n ∧ cv tp s n ≤ 100000 ∧ (nv tp s n ≤ 10000 → cv tp s n = nv tp s n) ∧ (10000 < nv tp s n → 10000 < cv tp s n) := by
  intro n
  induction n with
  | zero => intro _; unfold nv cv; omega
  | succ n ih =>
    intro h
    have q := ih (fun j h1 h2 => h j h1 (by omega))
    have d := h (s + n) (by omega) (by omega)
    unfold nv cv
    by_cases a : nv tp s n ≤ 10000
    · rw [if_pos a]
      by_cases b : cv tp s n * 10 + (tp (s + n)).toInt - 48 < 100000
      · rw [if_pos b]; omega
      · rw [if_neg b]; omega
    · rw [if_neg a]
      by_cases b : cv tp s n * 10 + (tp (s + n)).toInt - 48 < 100000
      · rw [if_pos b]; omega
      · rw [if_neg b]; omega
theorem pk_bd (tp : Nat → Int32) (s : Nat) : ∀ n, n ≤ 7 → (∀ j, s ≤ j → j < s + n → 97 ≤ (tp j).toInt ∧ (tp j).toInt ≤ 122) → 0 ≤ pk tp s n ∧ pk tp s n ≤ 34359738367 ∧ (n ≤ 6 → pk tp s n ≤ 1073741823) := by
  have h0 : ∀ n, (∀ j, s ≤ j → j < s + n → 97 ≤ (tp j).toInt ∧ (tp j).toInt ≤ 122) → 0 ≤ pk tp s n ∧ pk tp s n + 1 ≤ 32 ^ n := by
    intro n
    induction n with
    | zero => intro _; exact ⟨Int.le_refl _, show (0 : Int) + 1 ≤ 32 ^ 0 by decide⟩
    | succ n ih =>
      intro h
      have q := ih (fun j h1 h2 => h j h1 (by omega))
      have d := h (s + n) (by omega) (by omega)
      unfold pk
      rw [Int.pow_succ]
      omega
  intro n hn h
  have q := h0 n h
  rcases (show n = 0 ∨ n = 1 ∨ n = 2 ∨ n = 3 ∨ n = 4 ∨ n = 5 ∨ n = 6 ∨ n = 7 by omega) with r | r | r | r | r | r | r | r
  · subst r; have e : (32 : Int) ^ 0 = 1 := by decide
    omega
  · subst r; have e : (32 : Int) ^ 1 = 32 := by decide
    omega
  · subst r; have e : (32 : Int) ^ 2 = 1024 := by decide
    omega
  · subst r; have e : (32 : Int) ^ 3 = 32768 := by decide
    omega
  · subst r; have e : (32 : Int) ^ 4 = 1048576 := by decide
    omega
  · subst r; have e : (32 : Int) ^ 5 = 33554432 := by decide
    omega
  · subst r; have e : (32 : Int) ^ 6 = 1073741824 := by decide
    omega
  · subst r; have e : (32 : Int) ^ 7 = 34359738368 := by decide
    omega
def nC (tp : Nat → Int32) (L : Nat) (t : Nat × Nat) : Int := if t.1 < L ∧ kd (tp t.1) = 2 then cv tp t.1 (t.2 - t.1) else -1
def isW (i m : Nat) (tp : Nat → Int32) (t : Nat × Nat) : Prop := t.2 = t.1 + m ∧ ∀ k, k < m → tp (t.1 + k) = sch i (nI k)
def okN (tp : Nat → Int32) (L : Nat) (t : Nat × Nat) (most : Int) : Prop := 0 ≤ nC tp L t ∧ nC tp L t ≤ most
def n1 (tp : Nat → Int32) (L : Nat) (t : Nat × Nat) : Nat × Nat := nx tp L t.2
noncomputable def pIf {α : Type} (c : Prop) (a b : α) : α := @ite α c (Classical.propDecidable c) a b
theorem pIf_t {α : Type} {c : Prop} {a b : α} (h : c) : pIf c a b = a := @if_pos c (Classical.propDecidable c) h α a b
theorem pIf_f {α : Type} {c : Prop} {a b : α} (h : ¬ c) : pIf c a b = b := @if_neg c (Classical.propDecidable c) h α a b
abbrev RC : Type := Int × Int × Int × Int
noncomputable def pQ (tp : Nat → Int32) (L : Nat) (t : Nat × Nat) : Sum Nat ((Nat × Nat) × RC) :=
  pIf (okN tp L t 3)
    (pIf (isW 3 4 tp (n1 tp L t))
      (pIf (okN tp L (n1 tp L (n1 tp L t)) 23)
        (pIf (isW 4 2 tp (n1 tp L (n1 tp L (n1 tp L t))))
          (pIf (okN tp L (n1 tp L (n1 tp L (n1 tp L (n1 tp L t)))) 23)
            (Sum.inr (n1 tp L (n1 tp L (n1 tp L (n1 tp L (n1 tp L t)))), (0, nC tp L t, nC tp L (n1 tp L (n1 tp L t)), nC tp L (n1 tp L (n1 tp L (n1 tp L (n1 tp L t)))))))
            (Sum.inl (n1 tp L (n1 tp L (n1 tp L (n1 tp L t)))).1))
          (Sum.inl (n1 tp L (n1 tp L (n1 tp L t))).1))
        (Sum.inl (n1 tp L (n1 tp L t)).1))
      (Sum.inl (n1 tp L t).1))
    (Sum.inl t.1)
noncomputable def pD (tp : Nat → Int32) (L : Nat) (t : Nat × Nat) : Sum Nat ((Nat × Nat) × RC) :=
  pIf (okN tp L t 10000) (Sum.inr (n1 tp L t, (1, nC tp L t, 0, 0))) (Sum.inl t.1)
noncomputable def pB (tp : Nat → Int32) (L : Nat) (t : Nat × Nat) : Sum Nat ((Nat × Nat) × RC) :=
  pIf (okN tp L t 15)
    (pIf (isW 5 6 tp (n1 tp L t))
      (pIf (okN tp L (n1 tp L (n1 tp L t)) 15 ∧ nC tp L (n1 tp L (n1 tp L t)) ≠ nC tp L t)
        (Sum.inr (n1 tp L (n1 tp L (n1 tp L t)), (2, nC tp L t, nC tp L (n1 tp L (n1 tp L t)), 0)))
        (Sum.inl (n1 tp L (n1 tp L t)).1))
      (Sum.inl (n1 tp L t).1))
    (Sum.inl t.1)
noncomputable def pR (tp : Nat → Int32) (L : Nat) (t : Nat × Nat) : Sum Nat ((Nat × Nat) × RC) :=
  pIf (isW 0 5 tp t) (pQ tp L (n1 tp L t)) (pIf (isW 1 4 tp t) (pD tp L (n1 tp L t)) (pIf (isW 2 3 tp t) (pB tp L (n1 tp L t)) (Sum.inl t.1)))
def semi (tp : Nat → Int32) (t : Nat × Nat) : Prop := isW 6 1 tp t
noncomputable def pL (tp : Nat → Int32) (L : Nat) : Nat → Nat × Nat → Sum Nat (List RC)
  | 0, t => Sum.inl t.1
  | n + 1, t => match pR tp L t with
    | Sum.inl f => Sum.inl f
    | Sum.inr x => pIf (L ≤ x.1.1) (Sum.inr [x.2]) (pIf (semi tp x.1) (match pL tp L n (n1 tp L x.1) with
      | Sum.inl f => Sum.inl f
      | Sum.inr cs => Sum.inr (x.2 :: cs)) (Sum.inl x.1.1))
noncomputable def pA (tp : Nat → Int32) (L : Nat) : Sum Nat (List RC) := pIf (L ≤ (nx tp L 0).1) (Sum.inr []) (pL tp L 20 (nx tp L 0))
theorem pL_inl {tp : Nat → Int32} {L n f : Nat} {t : Nat × Nat} (h : pR tp L t = Sum.inl f) : pL tp L (n + 1) t = Sum.inl f := by
  unfold pL; rw [h]
theorem pL_end {tp : Nat → Int32} {L n : Nat} {t : Nat × Nat} {x : (Nat × Nat) × RC} (h : pR tp L t = Sum.inr x) (he : L ≤ x.1.1) : pL tp L (n + 1) t = Sum.inr [x.2] := by
  unfold pL; rw [h]; exact pIf_t he
theorem pL_bad {tp : Nat → Int32} {L n : Nat} {t : Nat × Nat} {x : (Nat × Nat) × RC} (h : pR tp L t = Sum.inr x) (he : ¬ L ≤ x.1.1) (hs : ¬ semi tp x.1) : pL tp L (n + 1) t = Sum.inl x.1.1 := by
  unfold pL; rw [h]; exact (pIf_f he).trans (pIf_f hs)
theorem pL_next {tp : Nat → Int32} {L n : Nat} {t : Nat × Nat} {x : (Nat × Nat) × RC} (h : pR tp L t = Sum.inr x) (he : ¬ L ≤ x.1.1) (hs : semi tp x.1) : pL tp L (n + 1) t = match pL tp L n (n1 tp L x.1) with
      | Sum.inl f => Sum.inl f
      | Sum.inr cs => Sum.inr (x.2 :: cs) := by
  show (match pR tp L t with
    | Sum.inl f => Sum.inl f
    | Sum.inr x => pIf (L ≤ x.1.1) (Sum.inr [x.2]) (pIf (semi tp x.1) (match pL tp L n (n1 tp L x.1) with
      | Sum.inl f => Sum.inl f
      | Sum.inr cs => Sum.inr (x.2 :: cs)) (Sum.inl x.1.1))) = _
  rw [h]; exact (pIf_f he).trans (pIf_t hs)
/-- where the reading stands: v rules read, token t at hand -/
def REL (tp : Nat → Int32) (L v : Nat) (o : Sum Nat (List RC)) : Prop := match o with
  | Sum.inl f => pA tp L = Sum.inl f
  | Sum.inr cs => ∃ pre : List RC, pre.length = v ∧ pA tp L = Sum.inr (pre ++ cs)
theorem REL_next {tp : Nat → Int32} {L n v : Nat} {t : Nat × Nat} {x : (Nat × Nat) × RC} (h : pR tp L t = Sum.inr x) (he : ¬ L ≤ x.1.1) (hs : semi tp x.1) (r : REL tp L v (pL tp L (n + 1) t)) : REL tp L (v + 1) (pL tp L n (n1 tp L x.1)) := by
  rw [pL_next h he hs] at r
  rcases hq : pL tp L n (n1 tp L x.1) with f | cs
  · rw [hq] at r; exact r
  · rw [hq] at r
    obtain ⟨pre, h1, h2⟩ := r
    refine ⟨pre ++ [x.2], ?_, ?_⟩
    · rw [List.length_append, h1]; rfl
    · rw [h2, List.append_assoc]; rfl
