-- WORDS: the same on both sides
theorem so_1 {tp : Nat → Int32} {L : Nat} {t : Nat × Nat} (h : so tp L t = 1) : t.1 < L ∧ kd (tp t.1) = 1 := by
  unfold so at h
  by_cases a : L ≤ t.1
  · rw [if_pos a] at h; omega
  · rw [if_neg a] at h
    by_cases b : kd (tp t.1) = 1
    · exact ⟨by omega, b⟩
    · rw [if_neg b] at h
      by_cases c : kd (tp t.1) = 2
      · rw [if_pos c] at h; omega
      · rw [if_neg c] at h; omega
theorem so_2 {tp : Nat → Int32} {L : Nat} {t : Nat × Nat} : so tp L t = 2 ↔ t.1 < L ∧ kd (tp t.1) = 2 := by
  unfold so
  by_cases a : L ≤ t.1
  · rw [if_pos a]; omega
  · rw [if_neg a]
    by_cases b : kd (tp t.1) = 1
    · rw [if_pos b]; omega
    · rw [if_neg b]
      by_cases c : kd (tp t.1) = 2
      · rw [if_pos c]; omega
      · rw [if_neg c]; omega
theorem so_3 {tp : Nat → Int32} {L : Nat} {t : Nat × Nat} : so tp L t = 3 ↔ t.1 < L ∧ kd (tp t.1) = 0 := by
  unfold so
  have hk := kd_le (tp t.1)
  by_cases a : L ≤ t.1
  · rw [if_pos a]; omega
  · rw [if_neg a]
    by_cases b : kd (tp t.1) = 1
    · rw [if_pos b]; omega
    · rw [if_neg b]
      by_cases c : kd (tp t.1) = 2
      · rw [if_pos c]; omega
      · rw [if_neg c]; omega
theorem so_0 {tp : Nat → Int32} {L : Nat} {t : Nat × Nat} : so tp L t = 0 ↔ L ≤ t.1 := by
  unfold so
  by_cases a : L ≤ t.1
  · rw [if_pos a]; omega
  · rw [if_neg a]
    by_cases b : kd (tp t.1) = 1
    · rw [if_pos b]; omega
    · rw [if_neg b]
      by_cases c : kd (tp t.1) = 2
      · rw [if_pos c]; omega
      · rw [if_neg c]; omega
theorem so_is1 {tp : Nat → Int32} {L : Nat} {t : Nat × Nat} (a : t.1 < L) (b : kd (tp t.1) = 1) : so tp L t = 1 := by
  unfold so
  rw [if_neg (by omega), if_pos b]
theorem lgc0 {x y : Int64} : lg_cmp x y = 0 ↔ x.toInt = y.toInt := by
  constructor
  · intro h
    have a : ¬ x.toInt < y.toInt := fun q => absurd (lgc_lt.mpr q) (by rw [h]; decide)
    have b : ¬ y.toInt < x.toInt := fun q => absurd (lgc_gt.mpr q) (by rw [h]; decide)
    omega
  · intro h; exact lgc_of (Int64.toInt_inj.mp h)
theorem word_0 {tp : Nat → Int32} {L : Nat} {t : Nat × Nat} {w : Int64} (tk : TK tp L t) (hw : WO tp L t w) : (so tp L t = 1 ∧ w.toInt = 18523316) ↔ isW 0 5 tp t := by
  obtain ⟨s, e⟩ := t
  have c0 : (sch 0 (nI 0)).toInt = 113 := by decide
  have c1 : (sch 0 (nI 1)).toInt = 117 := by decide
  have c2 : (sch 0 (nI 2)).toInt = 105 := by decide
  have c3 : (sch 0 (nI 3)).toInt = 101 := by decide
  have c4 : (sch 0 (nI 4)).toInt = 116 := by decide
  have p1 : pk tp s 1 = 0 * 32 + (tp (s + 0)).toInt - 96 := rfl
  have p2 : pk tp s 2 = pk tp s 1 * 32 + (tp (s + 1)).toInt - 96 := rfl
  have p3 : pk tp s 3 = pk tp s 2 * 32 + (tp (s + 2)).toInt - 96 := rfl
  have p4 : pk tp s 4 = pk tp s 3 * 32 + (tp (s + 3)).toInt - 96 := rfl
  have p5 : pk tp s 5 = pk tp s 4 * 32 + (tp (s + 4)).toInt - 96 := rfl
  have p6 : pk tp s 6 = pk tp s 5 * 32 + (tp (s + 5)).toInt - 96 := rfl
  have p7 : pk tp s 7 = pk tp s 6 * 32 + (tp (s + 6)).toInt - 96 := rfl
  constructor
  · rintro ⟨h1, h2⟩
    obtain ⟨a, b⟩ := so_1 h1
    have a' : s < L := a
    have b' : kd (tp s) = 1 := b
    have q := tk.2.2.2 a
    have hlt : s < e := q.1
    have hall : ∀ j, s ≤ j → j < e → 97 ≤ (tp j).toInt ∧ (tp j).toInt ≤ 122 := fun j g1 g2 => kd_1.mp ((q.2.2 j g1 g2).trans b)
    have hv : w.toInt = wv tp s (e - s) := (hw a).2.1 b
    unfold wv at hv
    by_cases n7 : e - s ≤ 7
    · rw [if_pos n7] at hv
      have d0 := hall (s + 0) (by omega) (by omega)
      rcases (show e = s + 1 ∨ e = s + 2 ∨ e = s + 3 ∨ e = s + 4 ∨ e = s + 5 ∨ e = s + 6 ∨ e = s + 7 by omega) with r | r | r | r | r | r | r
      · rw [show e - s = 1 by omega] at hv
        omega
      · rw [show e - s = 2 by omega] at hv
        have d1 := hall (s + 1) (by omega) (by omega)
        omega
      · rw [show e - s = 3 by omega] at hv
        have d1 := hall (s + 1) (by omega) (by omega)
        have d2 := hall (s + 2) (by omega) (by omega)
        omega
      · rw [show e - s = 4 by omega] at hv
        have d1 := hall (s + 1) (by omega) (by omega)
        have d2 := hall (s + 2) (by omega) (by omega)
        have d3 := hall (s + 3) (by omega) (by omega)
        omega
      · rw [show e - s = 5 by omega] at hv
        have d1 := hall (s + 1) (by omega) (by omega)
        have d2 := hall (s + 2) (by omega) (by omega)
        have d3 := hall (s + 3) (by omega) (by omega)
        have d4 := hall (s + 4) (by omega) (by omega)
        refine ⟨r, fun k hk => ?_⟩
        rcases (show k = 0 ∨ k = 1 ∨ k = 2 ∨ k = 3 ∨ k = 4 by omega) with r2 | r2 | r2 | r2 | r2
        · subst r2; exact toI_inj (by show (tp (s + 0)).toInt = _; omega)
        · subst r2; exact toI_inj (by show (tp (s + 1)).toInt = _; omega)
        · subst r2; exact toI_inj (by show (tp (s + 2)).toInt = _; omega)
        · subst r2; exact toI_inj (by show (tp (s + 3)).toInt = _; omega)
        · subst r2; exact toI_inj (by show (tp (s + 4)).toInt = _; omega)
      · rw [show e - s = 6 by omega] at hv
        have d1 := hall (s + 1) (by omega) (by omega)
        have d2 := hall (s + 2) (by omega) (by omega)
        have d3 := hall (s + 3) (by omega) (by omega)
        have d4 := hall (s + 4) (by omega) (by omega)
        have d5 := hall (s + 5) (by omega) (by omega)
        omega
      · rw [show e - s = 7 by omega] at hv
        have d1 := hall (s + 1) (by omega) (by omega)
        have d2 := hall (s + 2) (by omega) (by omega)
        have d3 := hall (s + 3) (by omega) (by omega)
        have d4 := hall (s + 4) (by omega) (by omega)
        have d5 := hall (s + 5) (by omega) (by omega)
        have d6 := hall (s + 6) (by omega) (by omega)
        omega
    · rw [if_neg n7] at hv; omega
  · rintro ⟨h1, h2⟩
    have h1' : e = s + 5 := h1
    have k2 : e ≤ L := tk.2.1
    have d0 : (tp (s + 0)).toInt = 113 := by have q : tp (s + 0) = sch 0 (nI 0) := h2 0 (by omega); rw [q]; exact c0
    have d1 : (tp (s + 1)).toInt = 117 := by have q : tp (s + 1) = sch 0 (nI 1) := h2 1 (by omega); rw [q]; exact c1
    have d2 : (tp (s + 2)).toInt = 105 := by have q : tp (s + 2) = sch 0 (nI 2) := h2 2 (by omega); rw [q]; exact c2
    have d3 : (tp (s + 3)).toInt = 101 := by have q : tp (s + 3) = sch 0 (nI 3) := h2 3 (by omega); rw [q]; exact c3
    have d4 : (tp (s + 4)).toInt = 116 := by have q : tp (s + 4) = sch 0 (nI 4) := h2 4 (by omega); rw [q]; exact c4
    have a : s < L := by omega
    have b : kd (tp s) = 1 := kd_1.mpr (by have : (tp s).toInt = 113 := d0; omega)
    refine ⟨so_is1 (t := (s, e)) a b, ?_⟩
    have hv : w.toInt = wv tp s (e - s) := (hw a).2.1 b
    rw [show e - s = 5 by omega] at hv
    have hv2 : wv tp s 5 = pk tp s 5 := if_pos (by decide)
    omega
theorem word_1 {tp : Nat → Int32} {L : Nat} {t : Nat × Nat} {w : Int64} (tk : TK tp L t) (hw : WO tp L t w) : (so tp L t = 1 ∧ w.toInt = 136242) ↔ isW 1 4 tp t := by
  obtain ⟨s, e⟩ := t
  have c0 : (sch 1 (nI 0)).toInt = 100 := by decide
  have c1 : (sch 1 (nI 1)).toInt = 101 := by decide
  have c2 : (sch 1 (nI 2)).toInt = 97 := by decide
  have c3 : (sch 1 (nI 3)).toInt = 114 := by decide
  have p1 : pk tp s 1 = 0 * 32 + (tp (s + 0)).toInt - 96 := rfl
  have p2 : pk tp s 2 = pk tp s 1 * 32 + (tp (s + 1)).toInt - 96 := rfl
  have p3 : pk tp s 3 = pk tp s 2 * 32 + (tp (s + 2)).toInt - 96 := rfl
  have p4 : pk tp s 4 = pk tp s 3 * 32 + (tp (s + 3)).toInt - 96 := rfl
  have p5 : pk tp s 5 = pk tp s 4 * 32 + (tp (s + 4)).toInt - 96 := rfl
  have p6 : pk tp s 6 = pk tp s 5 * 32 + (tp (s + 5)).toInt - 96 := rfl
  have p7 : pk tp s 7 = pk tp s 6 * 32 + (tp (s + 6)).toInt - 96 := rfl
  constructor
  · rintro ⟨h1, h2⟩
    obtain ⟨a, b⟩ := so_1 h1
    have a' : s < L := a
    have b' : kd (tp s) = 1 := b
    have q := tk.2.2.2 a
    have hlt : s < e := q.1
    have hall : ∀ j, s ≤ j → j < e → 97 ≤ (tp j).toInt ∧ (tp j).toInt ≤ 122 := fun j g1 g2 => kd_1.mp ((q.2.2 j g1 g2).trans b)
    have hv : w.toInt = wv tp s (e - s) := (hw a).2.1 b
    unfold wv at hv
    by_cases n7 : e - s ≤ 7
    · rw [if_pos n7] at hv
      have d0 := hall (s + 0) (by omega) (by omega)
      rcases (show e = s + 1 ∨ e = s + 2 ∨ e = s + 3 ∨ e = s + 4 ∨ e = s + 5 ∨ e = s + 6 ∨ e = s + 7 by omega) with r | r | r | r | r | r | r
      · rw [show e - s = 1 by omega] at hv
        omega
      · rw [show e - s = 2 by omega] at hv
        have d1 := hall (s + 1) (by omega) (by omega)
        omega
      · rw [show e - s = 3 by omega] at hv
        have d1 := hall (s + 1) (by omega) (by omega)
        have d2 := hall (s + 2) (by omega) (by omega)
        omega
      · rw [show e - s = 4 by omega] at hv
        have d1 := hall (s + 1) (by omega) (by omega)
        have d2 := hall (s + 2) (by omega) (by omega)
        have d3 := hall (s + 3) (by omega) (by omega)
        refine ⟨r, fun k hk => ?_⟩
        rcases (show k = 0 ∨ k = 1 ∨ k = 2 ∨ k = 3 by omega) with r2 | r2 | r2 | r2
        · subst r2; exact toI_inj (by show (tp (s + 0)).toInt = _; omega)
        · subst r2; exact toI_inj (by show (tp (s + 1)).toInt = _; omega)
        · subst r2; exact toI_inj (by show (tp (s + 2)).toInt = _; omega)
        · subst r2; exact toI_inj (by show (tp (s + 3)).toInt = _; omega)
      · rw [show e - s = 5 by omega] at hv
        have d1 := hall (s + 1) (by omega) (by omega)
        have d2 := hall (s + 2) (by omega) (by omega)
        have d3 := hall (s + 3) (by omega) (by omega)
        have d4 := hall (s + 4) (by omega) (by omega)
        omega
      · rw [show e - s = 6 by omega] at hv
        have d1 := hall (s + 1) (by omega) (by omega)
        have d2 := hall (s + 2) (by omega) (by omega)
        have d3 := hall (s + 3) (by omega) (by omega)
        have d4 := hall (s + 4) (by omega) (by omega)
        have d5 := hall (s + 5) (by omega) (by omega)
        omega
      · rw [show e - s = 7 by omega] at hv
        have d1 := hall (s + 1) (by omega) (by omega)
        have d2 := hall (s + 2) (by omega) (by omega)
        have d3 := hall (s + 3) (by omega) (by omega)
        have d4 := hall (s + 4) (by omega) (by omega)
        have d5 := hall (s + 5) (by omega) (by omega)
        have d6 := hall (s + 6) (by omega) (by omega)
        omega
    · rw [if_neg n7] at hv; omega
  · rintro ⟨h1, h2⟩
    have h1' : e = s + 4 := h1
    have k2 : e ≤ L := tk.2.1
    have d0 : (tp (s + 0)).toInt = 100 := by have q : tp (s + 0) = sch 1 (nI 0) := h2 0 (by omega); rw [q]; exact c0
    have d1 : (tp (s + 1)).toInt = 101 := by have q : tp (s + 1) = sch 1 (nI 1) := h2 1 (by omega); rw [q]; exact c1
    have d2 : (tp (s + 2)).toInt = 97 := by have q : tp (s + 2) = sch 1 (nI 2) := h2 2 (by omega); rw [q]; exact c2
    have d3 : (tp (s + 3)).toInt = 114 := by have q : tp (s + 3) = sch 1 (nI 3) := h2 3 (by omega); rw [q]; exact c3
    have a : s < L := by omega
    have b : kd (tp s) = 1 := kd_1.mpr (by have : (tp s).toInt = 100 := d0; omega)
    refine ⟨so_is1 (t := (s, e)) a b, ?_⟩
    have hv : w.toInt = wv tp s (e - s) := (hw a).2.1 b
    rw [show e - s = 4 by omega] at hv
    have hv2 : wv tp s 4 = pk tp s 4 := if_pos (by decide)
    omega
theorem word_2 {tp : Nat → Int32} {L : Nat} {t : Nat × Nat} {w : Int64} (tk : TK tp L t) (hw : WO tp L t w) : (so tp L t = 1 ∧ w.toInt = 10722) ↔ isW 2 3 tp t := by
  obtain ⟨s, e⟩ := t
  have c0 : (sch 2 (nI 0)).toInt = 106 := by decide
  have c1 : (sch 2 (nI 1)).toInt = 111 := by decide
  have c2 : (sch 2 (nI 2)).toInt = 98 := by decide
  have p1 : pk tp s 1 = 0 * 32 + (tp (s + 0)).toInt - 96 := rfl
  have p2 : pk tp s 2 = pk tp s 1 * 32 + (tp (s + 1)).toInt - 96 := rfl
  have p3 : pk tp s 3 = pk tp s 2 * 32 + (tp (s + 2)).toInt - 96 := rfl
  have p4 : pk tp s 4 = pk tp s 3 * 32 + (tp (s + 3)).toInt - 96 := rfl
  have p5 : pk tp s 5 = pk tp s 4 * 32 + (tp (s + 4)).toInt - 96 := rfl
  have p6 : pk tp s 6 = pk tp s 5 * 32 + (tp (s + 5)).toInt - 96 := rfl
  have p7 : pk tp s 7 = pk tp s 6 * 32 + (tp (s + 6)).toInt - 96 := rfl
  constructor
  · rintro ⟨h1, h2⟩
    obtain ⟨a, b⟩ := so_1 h1
    have a' : s < L := a
    have b' : kd (tp s) = 1 := b
    have q := tk.2.2.2 a
    have hlt : s < e := q.1
    have hall : ∀ j, s ≤ j → j < e → 97 ≤ (tp j).toInt ∧ (tp j).toInt ≤ 122 := fun j g1 g2 => kd_1.mp ((q.2.2 j g1 g2).trans b)
    have hv : w.toInt = wv tp s (e - s) := (hw a).2.1 b
    unfold wv at hv
    by_cases n7 : e - s ≤ 7
    · rw [if_pos n7] at hv
      have d0 := hall (s + 0) (by omega) (by omega)
      rcases (show e = s + 1 ∨ e = s + 2 ∨ e = s + 3 ∨ e = s + 4 ∨ e = s + 5 ∨ e = s + 6 ∨ e = s + 7 by omega) with r | r | r | r | r | r | r
      · rw [show e - s = 1 by omega] at hv
        omega
      · rw [show e - s = 2 by omega] at hv
        have d1 := hall (s + 1) (by omega) (by omega)
        omega
      · rw [show e - s = 3 by omega] at hv
        have d1 := hall (s + 1) (by omega) (by omega)
        have d2 := hall (s + 2) (by omega) (by omega)
        refine ⟨r, fun k hk => ?_⟩
        rcases (show k = 0 ∨ k = 1 ∨ k = 2 by omega) with r2 | r2 | r2
        · subst r2; exact toI_inj (by show (tp (s + 0)).toInt = _; omega)
        · subst r2; exact toI_inj (by show (tp (s + 1)).toInt = _; omega)
        · subst r2; exact toI_inj (by show (tp (s + 2)).toInt = _; omega)
      · rw [show e - s = 4 by omega] at hv
        have d1 := hall (s + 1) (by omega) (by omega)
        have d2 := hall (s + 2) (by omega) (by omega)
        have d3 := hall (s + 3) (by omega) (by omega)
        omega
      · rw [show e - s = 5 by omega] at hv
        have d1 := hall (s + 1) (by omega) (by omega)
        have d2 := hall (s + 2) (by omega) (by omega)
        have d3 := hall (s + 3) (by omega) (by omega)
        have d4 := hall (s + 4) (by omega) (by omega)
        omega
      · rw [show e - s = 6 by omega] at hv
        have d1 := hall (s + 1) (by omega) (by omega)
        have d2 := hall (s + 2) (by omega) (by omega)
        have d3 := hall (s + 3) (by omega) (by omega)
        have d4 := hall (s + 4) (by omega) (by omega)
        have d5 := hall (s + 5) (by omega) (by omega)
        omega
      · rw [show e - s = 7 by omega] at hv
        have d1 := hall (s + 1) (by omega) (by omega)
        have d2 := hall (s + 2) (by omega) (by omega)
        have d3 := hall (s + 3) (by omega) (by omega)
        have d4 := hall (s + 4) (by omega) (by omega)
        have d5 := hall (s + 5) (by omega) (by omega)
        have d6 := hall (s + 6) (by omega) (by omega)
        omega
    · rw [if_neg n7] at hv; omega
  · rintro ⟨h1, h2⟩
    have h1' : e = s + 3 := h1
    have k2 : e ≤ L := tk.2.1
    have d0 : (tp (s + 0)).toInt = 106 := by have q : tp (s + 0) = sch 2 (nI 0) := h2 0 (by omega); rw [q]; exact c0
    have d1 : (tp (s + 1)).toInt = 111 := by have q : tp (s + 1) = sch 2 (nI 1) := h2 1 (by omega); rw [q]; exact c1
    have d2 : (tp (s + 2)).toInt = 98 := by have q : tp (s + 2) = sch 2 (nI 2) := h2 2 (by omega); rw [q]; exact c2
    have a : s < L := by omega
    have b : kd (tp s) = 1 := kd_1.mpr (by have : (tp s).toInt = 106 := d0; omega)
    refine ⟨so_is1 (t := (s, e)) a b, ?_⟩
    have hv : w.toInt = wv tp s (e - s) := (hw a).2.1 b
    rw [show e - s = 3 by omega] at hv
    have hv2 : wv tp s 3 = pk tp s 3 := if_pos (by decide)
    omega
theorem word_3 {tp : Nat → Int32} {L : Nat} {t : Nat × Nat} {w : Int64} (tk : TK tp L t) (hw : WO tp L t w) : (so tp L t = 1 ∧ w.toInt = 215533) ↔ isW 3 4 tp t := by
  obtain ⟨s, e⟩ := t
  have c0 : (sch 3 (nI 0)).toInt = 102 := by decide
  have c1 : (sch 3 (nI 1)).toInt = 114 := by decide
  have c2 : (sch 3 (nI 2)).toInt = 111 := by decide
  have c3 : (sch 3 (nI 3)).toInt = 109 := by decide
  have p1 : pk tp s 1 = 0 * 32 + (tp (s + 0)).toInt - 96 := rfl
  have p2 : pk tp s 2 = pk tp s 1 * 32 + (tp (s + 1)).toInt - 96 := rfl
  have p3 : pk tp s 3 = pk tp s 2 * 32 + (tp (s + 2)).toInt - 96 := rfl
  have p4 : pk tp s 4 = pk tp s 3 * 32 + (tp (s + 3)).toInt - 96 := rfl
  have p5 : pk tp s 5 = pk tp s 4 * 32 + (tp (s + 4)).toInt - 96 := rfl
  have p6 : pk tp s 6 = pk tp s 5 * 32 + (tp (s + 5)).toInt - 96 := rfl
  have p7 : pk tp s 7 = pk tp s 6 * 32 + (tp (s + 6)).toInt - 96 := rfl
  constructor
  · rintro ⟨h1, h2⟩
    obtain ⟨a, b⟩ := so_1 h1
    have a' : s < L := a
    have b' : kd (tp s) = 1 := b
    have q := tk.2.2.2 a
    have hlt : s < e := q.1
    have hall : ∀ j, s ≤ j → j < e → 97 ≤ (tp j).toInt ∧ (tp j).toInt ≤ 122 := fun j g1 g2 => kd_1.mp ((q.2.2 j g1 g2).trans b)
    have hv : w.toInt = wv tp s (e - s) := (hw a).2.1 b
    unfold wv at hv
    by_cases n7 : e - s ≤ 7
    · rw [if_pos n7] at hv
      have d0 := hall (s + 0) (by omega) (by omega)
      rcases (show e = s + 1 ∨ e = s + 2 ∨ e = s + 3 ∨ e = s + 4 ∨ e = s + 5 ∨ e = s + 6 ∨ e = s + 7 by omega) with r | r | r | r | r | r | r
      · rw [show e - s = 1 by omega] at hv
        omega
      · rw [show e - s = 2 by omega] at hv
        have d1 := hall (s + 1) (by omega) (by omega)
        omega
      · rw [show e - s = 3 by omega] at hv
        have d1 := hall (s + 1) (by omega) (by omega)
        have d2 := hall (s + 2) (by omega) (by omega)
        omega
      · rw [show e - s = 4 by omega] at hv
        have d1 := hall (s + 1) (by omega) (by omega)
        have d2 := hall (s + 2) (by omega) (by omega)
        have d3 := hall (s + 3) (by omega) (by omega)
        refine ⟨r, fun k hk => ?_⟩
        rcases (show k = 0 ∨ k = 1 ∨ k = 2 ∨ k = 3 by omega) with r2 | r2 | r2 | r2
        · subst r2; exact toI_inj (by show (tp (s + 0)).toInt = _; omega)
        · subst r2; exact toI_inj (by show (tp (s + 1)).toInt = _; omega)
        · subst r2; exact toI_inj (by show (tp (s + 2)).toInt = _; omega)
        · subst r2; exact toI_inj (by show (tp (s + 3)).toInt = _; omega)
      · rw [show e - s = 5 by omega] at hv
        have d1 := hall (s + 1) (by omega) (by omega)
        have d2 := hall (s + 2) (by omega) (by omega)
        have d3 := hall (s + 3) (by omega) (by omega)
        have d4 := hall (s + 4) (by omega) (by omega)
        omega
      · rw [show e - s = 6 by omega] at hv
        have d1 := hall (s + 1) (by omega) (by omega)
        have d2 := hall (s + 2) (by omega) (by omega)
        have d3 := hall (s + 3) (by omega) (by omega)
        have d4 := hall (s + 4) (by omega) (by omega)
        have d5 := hall (s + 5) (by omega) (by omega)
        omega
      · rw [show e - s = 7 by omega] at hv
        have d1 := hall (s + 1) (by omega) (by omega)
        have d2 := hall (s + 2) (by omega) (by omega)
        have d3 := hall (s + 3) (by omega) (by omega)
        have d4 := hall (s + 4) (by omega) (by omega)
        have d5 := hall (s + 5) (by omega) (by omega)
        have d6 := hall (s + 6) (by omega) (by omega)
        omega
    · rw [if_neg n7] at hv; omega
  · rintro ⟨h1, h2⟩
    have h1' : e = s + 4 := h1
    have k2 : e ≤ L := tk.2.1
    have d0 : (tp (s + 0)).toInt = 102 := by have q : tp (s + 0) = sch 3 (nI 0) := h2 0 (by omega); rw [q]; exact c0
    have d1 : (tp (s + 1)).toInt = 114 := by have q : tp (s + 1) = sch 3 (nI 1) := h2 1 (by omega); rw [q]; exact c1
    have d2 : (tp (s + 2)).toInt = 111 := by have q : tp (s + 2) = sch 3 (nI 2) := h2 2 (by omega); rw [q]; exact c2
    have d3 : (tp (s + 3)).toInt = 109 := by have q : tp (s + 3) = sch 3 (nI 3) := h2 3 (by omega); rw [q]; exact c3
    have a : s < L := by omega
    have b : kd (tp s) = 1 := kd_1.mpr (by have : (tp s).toInt = 102 := d0; omega)
    refine ⟨so_is1 (t := (s, e)) a b, ?_⟩
    have hv : w.toInt = wv tp s (e - s) := (hw a).2.1 b
    rw [show e - s = 4 by omega] at hv
    have hv2 : wv tp s 4 = pk tp s 4 := if_pos (by decide)
    omega
theorem word_4 {tp : Nat → Int32} {L : Nat} {t : Nat × Nat} {w : Int64} (tk : TK tp L t) (hw : WO tp L t w) : (so tp L t = 1 ∧ w.toInt = 655) ↔ isW 4 2 tp t := by
  obtain ⟨s, e⟩ := t
  have c0 : (sch 4 (nI 0)).toInt = 116 := by decide
  have c1 : (sch 4 (nI 1)).toInt = 111 := by decide
  have p1 : pk tp s 1 = 0 * 32 + (tp (s + 0)).toInt - 96 := rfl
  have p2 : pk tp s 2 = pk tp s 1 * 32 + (tp (s + 1)).toInt - 96 := rfl
  have p3 : pk tp s 3 = pk tp s 2 * 32 + (tp (s + 2)).toInt - 96 := rfl
  have p4 : pk tp s 4 = pk tp s 3 * 32 + (tp (s + 3)).toInt - 96 := rfl
  have p5 : pk tp s 5 = pk tp s 4 * 32 + (tp (s + 4)).toInt - 96 := rfl
  have p6 : pk tp s 6 = pk tp s 5 * 32 + (tp (s + 5)).toInt - 96 := rfl
  have p7 : pk tp s 7 = pk tp s 6 * 32 + (tp (s + 6)).toInt - 96 := rfl
  constructor
  · rintro ⟨h1, h2⟩
    obtain ⟨a, b⟩ := so_1 h1
    have a' : s < L := a
    have b' : kd (tp s) = 1 := b
    have q := tk.2.2.2 a
    have hlt : s < e := q.1
    have hall : ∀ j, s ≤ j → j < e → 97 ≤ (tp j).toInt ∧ (tp j).toInt ≤ 122 := fun j g1 g2 => kd_1.mp ((q.2.2 j g1 g2).trans b)
    have hv : w.toInt = wv tp s (e - s) := (hw a).2.1 b
    unfold wv at hv
    by_cases n7 : e - s ≤ 7
    · rw [if_pos n7] at hv
      have d0 := hall (s + 0) (by omega) (by omega)
      rcases (show e = s + 1 ∨ e = s + 2 ∨ e = s + 3 ∨ e = s + 4 ∨ e = s + 5 ∨ e = s + 6 ∨ e = s + 7 by omega) with r | r | r | r | r | r | r
      · rw [show e - s = 1 by omega] at hv
        omega
      · rw [show e - s = 2 by omega] at hv
        have d1 := hall (s + 1) (by omega) (by omega)
        refine ⟨r, fun k hk => ?_⟩
        rcases (show k = 0 ∨ k = 1 by omega) with r2 | r2
        · subst r2; exact toI_inj (by show (tp (s + 0)).toInt = _; omega)
        · subst r2; exact toI_inj (by show (tp (s + 1)).toInt = _; omega)
      · rw [show e - s = 3 by omega] at hv
        have d1 := hall (s + 1) (by omega) (by omega)
        have d2 := hall (s + 2) (by omega) (by omega)
        omega
      · rw [show e - s = 4 by omega] at hv
        have d1 := hall (s + 1) (by omega) (by omega)
        have d2 := hall (s + 2) (by omega) (by omega)
        have d3 := hall (s + 3) (by omega) (by omega)
        omega
      · rw [show e - s = 5 by omega] at hv
        have d1 := hall (s + 1) (by omega) (by omega)
        have d2 := hall (s + 2) (by omega) (by omega)
        have d3 := hall (s + 3) (by omega) (by omega)
        have d4 := hall (s + 4) (by omega) (by omega)
        omega
      · rw [show e - s = 6 by omega] at hv
        have d1 := hall (s + 1) (by omega) (by omega)
        have d2 := hall (s + 2) (by omega) (by omega)
        have d3 := hall (s + 3) (by omega) (by omega)
        have d4 := hall (s + 4) (by omega) (by omega)
        have d5 := hall (s + 5) (by omega) (by omega)
        omega
      · rw [show e - s = 7 by omega] at hv
        have d1 := hall (s + 1) (by omega) (by omega)
        have d2 := hall (s + 2) (by omega) (by omega)
        have d3 := hall (s + 3) (by omega) (by omega)
        have d4 := hall (s + 4) (by omega) (by omega)
        have d5 := hall (s + 5) (by omega) (by omega)
        have d6 := hall (s + 6) (by omega) (by omega)
        omega
    · rw [if_neg n7] at hv; omega
  · rintro ⟨h1, h2⟩
    have h1' : e = s + 2 := h1
    have k2 : e ≤ L := tk.2.1
    have d0 : (tp (s + 0)).toInt = 116 := by have q : tp (s + 0) = sch 4 (nI 0) := h2 0 (by omega); rw [q]; exact c0
    have d1 : (tp (s + 1)).toInt = 111 := by have q : tp (s + 1) = sch 4 (nI 1) := h2 1 (by omega); rw [q]; exact c1
    have a : s < L := by omega
    have b : kd (tp s) = 1 := kd_1.mpr (by have : (tp s).toInt = 116 := d0; omega)
    refine ⟨so_is1 (t := (s, e)) a b, ?_⟩
    have hv : w.toInt = wv tp s (e - s) := (hw a).2.1 b
    rw [show e - s = 2 by omega] at hv
    have hv2 : wv tp s 2 = pk tp s 2 := if_pos (by decide)
    omega
theorem word_5 {tp : Nat → Int32} {L : Nat} {t : Nat × Nat} {w : Int64} (tk : TK tp L t) (hw : WO tp L t w) : (so tp L t = 1 ∧ w.toInt = 72564293) ↔ isW 5 6 tp t := by
  obtain ⟨s, e⟩ := t
  have c0 : (sch 5 (nI 0)).toInt = 98 := by decide
  have c1 : (sch 5 (nI 1)).toInt = 101 := by decide
  have c2 : (sch 5 (nI 2)).toInt = 102 := by decide
  have c3 : (sch 5 (nI 3)).toInt = 111 := by decide
  have c4 : (sch 5 (nI 4)).toInt = 114 := by decide
  have c5 : (sch 5 (nI 5)).toInt = 101 := by decide
  have p1 : pk tp s 1 = 0 * 32 + (tp (s + 0)).toInt - 96 := rfl
  have p2 : pk tp s 2 = pk tp s 1 * 32 + (tp (s + 1)).toInt - 96 := rfl
  have p3 : pk tp s 3 = pk tp s 2 * 32 + (tp (s + 2)).toInt - 96 := rfl
  have p4 : pk tp s 4 = pk tp s 3 * 32 + (tp (s + 3)).toInt - 96 := rfl
  have p5 : pk tp s 5 = pk tp s 4 * 32 + (tp (s + 4)).toInt - 96 := rfl
  have p6 : pk tp s 6 = pk tp s 5 * 32 + (tp (s + 5)).toInt - 96 := rfl
  have p7 : pk tp s 7 = pk tp s 6 * 32 + (tp (s + 6)).toInt - 96 := rfl
  constructor
  · rintro ⟨h1, h2⟩
    obtain ⟨a, b⟩ := so_1 h1
    have a' : s < L := a
    have b' : kd (tp s) = 1 := b
    have q := tk.2.2.2 a
    have hlt : s < e := q.1
    have hall : ∀ j, s ≤ j → j < e → 97 ≤ (tp j).toInt ∧ (tp j).toInt ≤ 122 := fun j g1 g2 => kd_1.mp ((q.2.2 j g1 g2).trans b)
    have hv : w.toInt = wv tp s (e - s) := (hw a).2.1 b
    unfold wv at hv
    by_cases n7 : e - s ≤ 7
    · rw [if_pos n7] at hv
      have d0 := hall (s + 0) (by omega) (by omega)
      rcases (show e = s + 1 ∨ e = s + 2 ∨ e = s + 3 ∨ e = s + 4 ∨ e = s + 5 ∨ e = s + 6 ∨ e = s + 7 by omega) with r | r | r | r | r | r | r
      · rw [show e - s = 1 by omega] at hv
        omega
      · rw [show e - s = 2 by omega] at hv
        have d1 := hall (s + 1) (by omega) (by omega)
        omega
      · rw [show e - s = 3 by omega] at hv
        have d1 := hall (s + 1) (by omega) (by omega)
        have d2 := hall (s + 2) (by omega) (by omega)
        omega
      · rw [show e - s = 4 by omega] at hv
        have d1 := hall (s + 1) (by omega) (by omega)
        have d2 := hall (s + 2) (by omega) (by omega)
        have d3 := hall (s + 3) (by omega) (by omega)
        omega
      · rw [show e - s = 5 by omega] at hv
        have d1 := hall (s + 1) (by omega) (by omega)
        have d2 := hall (s + 2) (by omega) (by omega)
        have d3 := hall (s + 3) (by omega) (by omega)
        have d4 := hall (s + 4) (by omega) (by omega)
        omega
      · rw [show e - s = 6 by omega] at hv
        have d1 := hall (s + 1) (by omega) (by omega)
        have d2 := hall (s + 2) (by omega) (by omega)
        have d3 := hall (s + 3) (by omega) (by omega)
        have d4 := hall (s + 4) (by omega) (by omega)
        have d5 := hall (s + 5) (by omega) (by omega)
        refine ⟨r, fun k hk => ?_⟩
        rcases (show k = 0 ∨ k = 1 ∨ k = 2 ∨ k = 3 ∨ k = 4 ∨ k = 5 by omega) with r2 | r2 | r2 | r2 | r2 | r2
        · subst r2; exact toI_inj (by show (tp (s + 0)).toInt = _; omega)
        · subst r2; exact toI_inj (by show (tp (s + 1)).toInt = _; omega)
        · subst r2; exact toI_inj (by show (tp (s + 2)).toInt = _; omega)
        · subst r2; exact toI_inj (by show (tp (s + 3)).toInt = _; omega)
        · subst r2; exact toI_inj (by show (tp (s + 4)).toInt = _; omega)
        · subst r2; exact toI_inj (by show (tp (s + 5)).toInt = _; omega)
      · rw [show e - s = 7 by omega] at hv
        have d1 := hall (s + 1) (by omega) (by omega)
        have d2 := hall (s + 2) (by omega) (by omega)
        have d3 := hall (s + 3) (by omega) (by omega)
        have d4 := hall (s + 4) (by omega) (by omega)
        have d5 := hall (s + 5) (by omega) (by omega)
        have d6 := hall (s + 6) (by omega) (by omega)
        omega
    · rw [if_neg n7] at hv; omega
  · rintro ⟨h1, h2⟩
    have h1' : e = s + 6 := h1
    have k2 : e ≤ L := tk.2.1
    have d0 : (tp (s + 0)).toInt = 98 := by have q : tp (s + 0) = sch 5 (nI 0) := h2 0 (by omega); rw [q]; exact c0
    have d1 : (tp (s + 1)).toInt = 101 := by have q : tp (s + 1) = sch 5 (nI 1) := h2 1 (by omega); rw [q]; exact c1
    have d2 : (tp (s + 2)).toInt = 102 := by have q : tp (s + 2) = sch 5 (nI 2) := h2 2 (by omega); rw [q]; exact c2
    have d3 : (tp (s + 3)).toInt = 111 := by have q : tp (s + 3) = sch 5 (nI 3) := h2 3 (by omega); rw [q]; exact c3
    have d4 : (tp (s + 4)).toInt = 114 := by have q : tp (s + 4) = sch 5 (nI 4) := h2 4 (by omega); rw [q]; exact c4
    have d5 : (tp (s + 5)).toInt = 101 := by have q : tp (s + 5) = sch 5 (nI 5) := h2 5 (by omega); rw [q]; exact c5
    have a : s < L := by omega
    have b : kd (tp s) = 1 := kd_1.mpr (by have : (tp s).toInt = 98 := d0; omega)
    refine ⟨so_is1 (t := (s, e)) a b, ?_⟩
    have hv : w.toInt = wv tp s (e - s) := (hw a).2.1 b
    rw [show e - s = 6 by omega] at hv
    have hv2 : wv tp s 6 = pk tp s 6 := if_pos (by decide)
    omega
theorem sign_6 {tp : Nat → Int32} {L : Nat} {t : Nat × Nat} {w : Int64} (tk : TK tp L t) (hw : WO tp L t w) : (so tp L t = 3 ∧ w.toInt = 59) ↔ semi tp t := by
  have c0 : (sch 6 (nI 0)).toInt = 59 := by decide
  constructor
  · rintro ⟨h1, h2⟩
    obtain ⟨a, b⟩ := so_3.mp h1
    have e := (hw a).1 b
    have q := tk.2.2.2 a
    refine ⟨q.2.1 b, fun k hk => ?_⟩
    have k0 : k = 0 := by omega
    subst k0
    refine toI_inj ?_
    rw [e, show (Int32.toInt64 (tp t.1)).toInt = (tp t.1).toInt from a_wide rfl] at h2
    rw [c0]; exact h2
  · rintro ⟨h1, h2⟩
    have q : tp (t.1 + 0) = sch 6 (nI 0) := h2 0 (by omega)
    have d0 : (tp t.1).toInt = 59 := by have : tp t.1 = sch 6 (nI 0) := q; rw [this]; exact c0
    have k2 := tk.2.1
    have a : t.1 < L := by omega
    have b : kd (tp t.1) = 0 := by
      have n1' : ¬ kd (tp t.1) = 1 := fun e => by have := kd_1.mp e; omega
      have n2' : ¬ kd (tp t.1) = 2 := fun e => by have := kd_2.mp e; omega
      have := kd_le (tp t.1)
      omega
    refine ⟨so_3.mpr ⟨a, b⟩, ?_⟩
    rw [(hw a).1 b, show (Int32.toInt64 (tp t.1)).toInt = (tp t.1).toInt from a_wide rfl]; exact d0
theorem num_ok {tp : Nat → Int32} {L : Nat} {t : Nat × Nat} {w : Int64} {m : Int} (tk : TK tp L t) (hw : WO tp L t w) (hm : m ≤ 10000) (h0 : 0 ≤ m) : ((so tp L t = 2 ∧ w.toInt ≤ m) ↔ okN tp L t m) ∧ (okN tp L t m → w.toInt = nC tp L t) := by
  have hA : so tp L t = 2 → t.1 < L ∧ kd (tp t.1) = 2 := so_2.mp
  have hB : t.1 < L ∧ kd (tp t.1) = 2 → w.toInt = nv tp t.1 (t.2 - t.1) ∧ nC tp L t = cv tp t.1 (t.2 - t.1) ∧ (0 ≤ nv tp t.1 (t.2 - t.1) ∧ nv tp t.1 (t.2 - t.1) ≤ 100009 ∧ 0 ≤ cv tp t.1 (t.2 - t.1) ∧ cv tp t.1 (t.2 - t.1) ≤ 100000 ∧ (nv tp t.1 (t.2 - t.1) ≤ 10000 → cv tp t.1 (t.2 - t.1) = nv tp t.1 (t.2 - t.1)) ∧ (10000 < nv tp t.1 (t.2 - t.1) → 10000 < cv tp t.1 (t.2 - t.1))) := by
    intro q
    have q2 := tk.2.2.2 q.1
    refine ⟨(hw q.1).2.2 q.2, by unfold nC; rw [if_pos q], cv_nv tp t.1 (t.2 - t.1) (fun j g1 g2 => kd_2.mp ((q2.2.2 j g1 (by omega)).trans q.2))⟩
  have hC : okN tp L t m → t.1 < L ∧ kd (tp t.1) = 2 := by
    intro h
    by_cases q : t.1 < L ∧ kd (tp t.1) = 2
    · exact q
    · unfold okN nC at h; rw [if_neg q] at h; omega
  refine ⟨⟨fun h => ?_, fun h => ?_⟩, fun h => ?_⟩
  · have := hB (hA h.1)
    unfold okN; omega
  · have q := hC h
    have := hB q
    unfold okN at h
    exact ⟨so_2.mpr q, by omega⟩
  · have := hB (hC h)
    unfold okN at h
    omega
