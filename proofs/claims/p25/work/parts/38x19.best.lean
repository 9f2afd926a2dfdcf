-- THE CHEAPEST CHOICE, and the first of the cheapest
def pS (st : Nat → Int32) (oj : Nat → Nat) : Nat → Nat → Int32
  | 0 => st
  | i + 1 => upd (pS st oj i) (oj i) 1
def pG (bg : Nat → Int32) (oj : Nat → Nat) (c : Nat → Int32) : Nat → Nat → Int32
  | 0 => bg
  | i + 1 => upd (pG bg oj c i) (oj i) (c i)
theorem pG_co {bg : Nat → Int32} {oj : Nat → Nat} {c c' : Nat → Int32} : ∀ i, (∀ l, l < i → c' l = c l) → pG bg oj c' i = pG bg oj c i := by
  intro i
  induction i with
  | zero => intro _; rfl
  | succ i ih =>
    intro h
    show upd (pG bg oj c' i) (oj i) (c' i) = upd (pG bg oj c i) (oj i) (c i)
    rw [ih (fun l hl => h l (by omega)), h i (by omega)]
/-- the places of the jobs rise -/
def Rise (oj : Nat → Nat) (n : Nat) : Prop := ∀ k k', k < k' → k' < n → oj k < oj k'
theorem pS_out {st : Nat → Int32} {oj : Nat → Nat} {j : Nat} : ∀ i, (∀ l, l < i → oj l ≠ j) → pS st oj i j = st j := by
  intro i
  induction i with
  | zero => intro _; rfl
  | succ i ih =>
    intro h
    show upd (pS st oj i) (oj i) 1 j = _
    rw [upd_ne (fun e => h i (by omega) e.symm), ih (fun l hl => h l (by omega))]
theorem pG_out {bg : Nat → Int32} {oj : Nat → Nat} {c : Nat → Int32} {j : Nat} : ∀ i, (∀ l, l < i → oj l ≠ j) → pG bg oj c i j = bg j := by
  intro i
  induction i with
  | zero => intro _; rfl
  | succ i ih =>
    intro h
    show upd (pG bg oj c i) (oj i) (c i) j = _
    rw [upd_ne (fun e => h i (by omega) e.symm), ih (fun l hl => h l (by omega))]
theorem pS_in {st : Nat → Int32} {oj : Nat → Nat} {n l : Nat} (hr : Rise oj n) : ∀ i, i ≤ n → l < i → pS st oj i (oj l) = 1 := by
  intro i
  induction i with
  | zero => intro _ h; omega
  | succ i ih =>
    intro hn hl
    show upd (pS st oj i) (oj i) 1 (oj l) = 1
    by_cases e : l = i
    · rw [e, upd_at]
    · have := hr l i (by omega) (by omega)
      rw [upd_ne (by omega)]; exact ih (by omega) (by omega)
theorem pG_in {bg : Nat → Int32} {oj : Nat → Nat} {c : Nat → Int32} {n l : Nat} (hr : Rise oj n) : ∀ i, i ≤ n → l < i → pG bg oj c i (oj l) = c l := by
  intro i
  induction i with
  | zero => intro _ h; omega
  | succ i ih =>
    intro hn hl
    show upd (pG bg oj c i) (oj i) (c i) (oj l) = c l
    by_cases e : l = i
    · rw [e, upd_at]
    · have := hr l i (by omega) (by omega)
      rw [upd_ne (by omega)]; exact ih (by omega) (by omega)
def FeP (z : St) (st bg : Nat → Int32) (oj : Nat → Nat) (i : Nat) (c : Nat → Int32) : Prop := ∀ k, k < i → MBg z (pS st oj k) (pG bg oj c k) (oj k) (c k).toInt
def coF (z : St) (oj : Nat → Nat) (c : Nat → Int32) : Nat → Int
  | 0 => 0
  | i + 1 => coF z oj c i + (ctM z (oj i) (c i).toNatClampNeg).toInt
theorem coF_co {z : St} {oj : Nat → Nat} {c c' : Nat → Int32} : ∀ i, (∀ l, l < i → c' l = c l) → coF z oj c' i = coF z oj c i := by
  intro i
  induction i with
  | zero => intro _; rfl
  | succ i ih =>
    intro h
    show coF z oj c' i + _ = coF z oj c i + _
    rw [ih (fun l hl => h l (by omega)), h i (by omega)]
theorem FeP_co {z : St} {st bg : Nat → Int32} {oj : Nat → Nat} {i : Nat} {c c' : Nat → Int32} (h : ∀ l, l < i → c' l = c l) (hf : FeP z st bg oj i c) : FeP z st bg oj i c' := by
  intro k hk
  rw [pG_co k (fun l hl => h l (by omega)), h k hk]
  exact hf k hk
def lx (n : Nat) (c c' : Nat → Int32) : Prop := ∃ k, k < n ∧ (∀ l, l < k → c l = c' l) ∧ (c k).toInt < (c' k).toInt
def Best (z : St) (st bg : Nat → Int32) (oj : Nat → Nat) (n : Nat) (c : Nat → Int32) : Prop := FeP z st bg oj n c ∧ ∀ c', FeP z st bg oj n c' → (lx n c' c → coF z oj c n < coF z oj c' n) ∧ (¬ lx n c' c → coF z oj c n ≤ coF z oj c' n)
theorem lx_or {c c' : Nat → Int32} : ∀ n, (∀ l, l < n → c l = c' l) ∨ lx n c c' ∨ lx n c' c := by
  intro n
  induction n with
  | zero => left; intro l hl; omega
  | succ n ih =>
    rcases ih with h | h | h
    · by_cases e : c n = c' n
      · left
        intro l hl
        by_cases e2 : l = n
        · rw [e2]; exact e
        · exact h l (by omega)
      · right
        have hne : (c n).toInt ≠ (c' n).toInt := fun q => e (toI_inj q)
        by_cases hl : (c n).toInt < (c' n).toInt
        · left; exact ⟨n, by omega, h, hl⟩
        · right; exact ⟨n, by omega, fun l hl => (h l hl).symm, by omega⟩
    · right; left
      obtain ⟨k, a, b, d⟩ := h
      exact ⟨k, by omega, b, d⟩
    · right; right
      obtain ⟨k, a, b, d⟩ := h
      exact ⟨k, by omega, b, d⟩
theorem Best_uniq {z : St} {st bg : Nat → Int32} {oj : Nat → Nat} {n : Nat} {c c' : Nat → Int32} (h : Best z st bg oj n c) (h' : Best z st bg oj n c') : ∀ l, l < n → c l = c' l := by
  rcases lx_or (c := c) (c' := c') n with q | q | q
  · exact q
  · have a := (h'.2 c h.1).1 q
    by_cases r : lx n c' c
    · have := (h.2 c' h'.1).1 r; omega
    · have := (h.2 c' h'.1).2 r; omega
  · have a := (h.2 c' h'.1).1 q
    by_cases r : lx n c c'
    · have := (h'.2 c h.1).1 r; omega
    · have := (h'.2 c h.1).2 r; omega
-- where a depth-first walk stands: prefix d of length i, hour h
def Bf (i : Nat) (d : Nat → Int32) (h : Int) (c : Nat → Int32) : Prop := (∃ k, k < i ∧ (∀ l, l < k → c l = d l) ∧ (c k).toInt < (d k).toInt) ∨ ((∀ l, l < i → c l = d l) ∧ (c i).toInt < h)
/-- what was found so far: an (1: something), lo its cost, b itself; all before the place is accounted for -/
def Fnd (z : St) (st bg : Nat → Int32) (oj : Nat → Nat) (n : Nat) (an : Int32) (lo : Int) (b : Nat → Int32) (A : (Nat → Int32) → Prop) : Prop := (an = 1 → FeP z st bg oj n b ∧ coF z oj b n = lo ∧ ∀ c, FeP z st bg oj n c → lx n c b → lo < coF z oj c n) ∧ ∀ c, FeP z st bg oj n c → A c → an = 1 ∧ lo ≤ coF z oj c n
theorem Fnd_end {z : St} {st bg : Nat → Int32} {oj : Nat → Nat} {n : Nat} {an : Int32} {lo : Int} {b : Nat → Int32} (h : Fnd z st bg oj n an lo b (fun _ => True)) (h1 : an = 1) : Best z st bg oj n b ∧ coF z oj b n = lo := by
  obtain ⟨a, e, f⟩ := h.1 h1
  refine ⟨⟨a, fun c hc => ⟨fun q => by rw [e]; exact f c hc q, fun _ => by rw [e]; exact (h.2 c hc trivial).2⟩⟩, e⟩
theorem Fnd_w {z : St} {st bg : Nat → Int32} {oj : Nat → Nat} {n : Nat} {an : Int32} {lo : Int} {b : Nat → Int32} {A A' : (Nat → Int32) → Prop} (h : Fnd z st bg oj n an lo b A) (hA : ∀ c, FeP z st bg oj n c → A' c → A c ∨ (an = 1 ∧ lo ≤ coF z oj c n)) : Fnd z st bg oj n an lo b A' := by
  refine ⟨h.1, fun c hc ha => ?_⟩
  rcases hA c hc ha with q | q
  · exact h.2 c hc q
  · exact q
/-- an hour that can't be begun, or costs too much, is passed over -/
theorem Fnd_skip {z : St} {st bg : Nat → Int32} {oj : Nat → Nat} {n i : Nat} {an : Int32} {lo : Int} {b d : Nat → Int32} {h : Int} (hi : i < n) (hF : Fnd z st bg oj n an lo b (Bf i d h)) (hs : ¬ MBg z (pS st oj i) (pG bg oj d i) (oj i) h ∨ (an = 1 ∧ ∀ c, FeP z st bg oj n c → (∀ l, l < i → c l = d l) → (c i).toInt = h → lo ≤ coF z oj c n)) : Fnd z st bg oj n an lo b (Bf i d (h + 1)) := by
  refine Fnd_w hF (fun c hc ha => ?_)
  rcases ha with q | ⟨q1, q2⟩
  · exact Or.inl (Or.inl q)
  · by_cases e : (c i).toInt < h
    · exact Or.inl (Or.inr ⟨q1, e⟩)
    · have e2 : (c i).toInt = h := by omega
      rcases hs with s | ⟨s1, s2⟩
      · have := hc i hi
        rw [pG_co i q1, e2] at this
        exact absurd this s
      · exact Or.inr ⟨s1, s2 c hc q1 e2⟩
theorem Fnd_deep {z : St} {st bg : Nat → Int32} {oj : Nat → Nat} {n i : Nat} {an : Int32} {lo : Int} {b d d' : Nat → Int32} {h h' : Int} (hi : i + 1 < n) (hF : Fnd z st bg oj n an lo b (Bf i d h)) (hd : ∀ l, l < i → d' l = d l) (hi' : (d' i).toInt = h) (hf : h' = (gF z 7 (oj (i + 1))).toInt) : Fnd z st bg oj n an lo b (Bf (i + 1) d' h') := by
  refine Fnd_w hF (fun c hc ha => Or.inl ?_)
  rcases ha with ⟨k, k1, k2, k3⟩ | ⟨q1, q2⟩
  · by_cases e : k = i
    · subst e
      exact Or.inr ⟨fun l hl => (k2 l hl).trans (hd l hl), by omega⟩
    · exact Or.inl ⟨k, by omega, fun l hl => (k2 l hl).trans (hd l (by omega)), by rw [← hd k (by omega)]; exact k3⟩
  · have := (hc (i + 1) hi).2.1
    omega
theorem Fnd_back {z : St} {st bg : Nat → Int32} {oj : Nat → Nat} {n i : Nat} {an : Int32} {lo : Int} {b d : Nat → Int32} {h : Int} (hi : i + 1 < n) (hF : Fnd z st bg oj n an lo b (Bf (i + 1) d h)) (hl : (gF z 8 (oj (i + 1))).toInt < h) : Fnd z st bg oj n an lo b (Bf i d ((d i).toInt + 1)) := by
  refine Fnd_w hF (fun c hc ha => Or.inl ?_)
  rcases ha with ⟨k, k1, k2, k3⟩ | ⟨q1, q2⟩
  · exact Or.inl ⟨k, by omega, k2, k3⟩
  · by_cases e : (c i).toInt < (d i).toInt
    · exact Or.inl ⟨i, by omega, q1, e⟩
    · have e2 : c i = d i := toI_inj (by omega)
      have hc1 := (hc (i + 1) hi).2.2.1
      refine Or.inr ⟨fun l hl => ?_, by omega⟩
      by_cases e3 : l = i
      · rw [e3]; exact e2
      · exact q1 l (by omega)
theorem Fnd_out {z : St} {st bg : Nat → Int32} {oj : Nat → Nat} {n : Nat} {an : Int32} {lo : Int} {b d : Nat → Int32} {h : Int} (hi : 0 < n) (hF : Fnd z st bg oj n an lo b (Bf 0 d h)) (hl : (gF z 8 (oj 0)).toInt < h) : Fnd z st bg oj n an lo b (fun _ => True) := by
  refine Fnd_w hF (fun c hc _ => Or.inl (Or.inr ⟨fun l hl => by omega, ?_⟩))
  have := (hc 0 hi).2.2.1
  omega
/-- a whole choice, cheaper than all before it -/
theorem Fnd_leaf {z : St} {st bg : Nat → Int32} {oj : Nat → Nat} {n i : Nat} {an : Int32} {lo lo' : Int} {b b' d : Nat → Int32} {h : Int} (hi : i + 1 = n) (hF : Fnd z st bg oj n an lo b (Bf i d h)) (hb : ∀ l, l < i → b' l = d l) (hbi : (b' i).toInt = h) (hf : FeP z st bg oj n b') (hc' : coF z oj b' n = lo') (hlt : an = 1 → lo' < lo) : Fnd z st bg oj n 1 lo' b' (Bf i d (h + 1)) := by
  have hle : ∀ c, FeP z st bg oj n c → Bf i d h c → lo' < coF z oj c n := by
    intro c hc q
    have := hF.2 c hc q
    have := hlt this.1
    omega
  refine ⟨fun _ => ⟨hf, hc', fun c hc q => hle c hc ?_⟩, fun c hc q => ⟨rfl, ?_⟩⟩
  · obtain ⟨k, k1, k2, k3⟩ := q
    by_cases e : k = i
    · subst e
      exact Or.inr ⟨fun l hl => (k2 l hl).trans (hb l hl), by omega⟩
    · exact Or.inl ⟨k, by omega, fun l hl => (k2 l hl).trans (hb l (by omega)), by rw [← hb k (by omega)]; exact k3⟩
  · rcases q with q | ⟨q1, q2⟩
    · have := hle c hc (Or.inl q); omega
    · by_cases e : (c i).toInt < h
      · have := hle c hc (Or.inr ⟨q1, e⟩); omega
      · have e2 : c i = b' i := toI_inj (by omega)
        have : coF z oj c n = coF z oj b' n := coF_co n (fun l hl => by
          by_cases e3 : l = i
          · rw [e3]; exact e2
          · rw [q1 l (by omega), hb l (by omega)])
        omega
