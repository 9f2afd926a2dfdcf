-- WHEN A JOB MAY JOIN THOSE THAT WERE PLACED BEFORE IT
def AB (zm : St) (st bg : Nat → Int32) (jl ji : Nat) (bl bi : Int) : Prop := ∀ t : Nat, bl ≤ (t : Int) → bi ≤ (t : Int) → (t : Int) < bl + (gF zm 9 jl).toInt → (t : Int) < bi + (gF zm 9 ji).toInt → (As zm st bg t).toInt + ((gF zm 10 (4 * jl + ((t : Int) - bl).toNat)).toInt + (gF zm 10 (4 * ji + ((t : Int) - bi).toNat)).toInt) ≤ (gI zm 11).toInt ∧ (gF zm 6 jl = gF zm 6 ji → (Hs zm st bg (gF zm 6 ji).toNatClampNeg t).toInt + ((gF zm 10 (4 * jl + ((t : Int) - bl).toNat)).toInt + (gF zm 10 (4 * ji + ((t : Int) - bi).toNat)).toInt) ≤ (gF zm 4 (gF zm 6 ji).toNatClampNeg).toInt)
def CMP (zm : St) (st bg : Nat → Int32) (jl ji : Nat) (bl bi : Int) : Prop := (Bm zm jl ji → bl + (gF zm 9 jl).toInt ≤ bi) ∧ (Bm zm ji jl → bi + (gF zm 9 ji).toInt ≤ bl) ∧ (bl + (gF zm 9 jl).toInt ≤ bi ∨ bi + (gF zm 9 ji).toInt ≤ bl ∨ AB zm st bg jl ji bl bi)
/-- the loads of a plan bear job j from hour h on -/
def BOs (zm : St) (st bg : Nat → Int32) (j : Nat) (h : Int) : Prop := ∀ k : Nat, (k : Int) < (gF zm 9 j).toInt → (Hs zm st bg (gF zm 6 j).toNatClampNeg (h.toNat + k)).toInt + (gF zm 10 (4 * j + k)).toInt ≤ (gF zm 4 (gF zm 6 j).toNatClampNeg).toInt ∧ (As zm st bg (h.toNat + k)).toInt + (gF zm 10 (4 * j + k)).toInt ≤ (gI zm 11).toInt
theorem MBg_bo {zm : St} {st bg : Nat → Int32} {j : Nat} {h : Int} (tm : TM zm) (bb : BB zm) (hh : ∀ j : Nat, (j : Int) < (gI zm 12).toInt → (gF zm 6 j).toInt < (gI zm 8).toInt) (pb : PLB zm st bg) (hj : (j : Int) < (gI zm 12).toInt) (hs : st j = 0) : MBg zm st bg j h ↔ ((gI zm 2).toInt ≤ h ∧ (gF zm 7 j).toInt ≤ h ∧ h ≤ (gF zm 8 j).toInt ∧ h + (gF zm 9 j).toInt ≤ 168 ∧ ∀ k : Nat, (k : Int) < (gF zm 9 j).toInt → ¬ Qm zm (gF zm 6 j) ((h.toNat + k) % 24) ∧ ¬ Dm zm (h.toNat + k)) ∧ BOs zm st bg j h ∧ TUg zm st bg j h := by
  have f7 : 0 ≤ (gF zm 7 j).toInt ∧ (gF zm 7 j).toInt ≤ 167 := tm.2 7 _
  have key : ∀ k : Nat, 0 ≤ h → h + (gF zm 9 j).toInt ≤ 168 → (k : Int) < (gF zm 9 j).toInt → ((Fg zm st bg j (h.toNat + k) + gF zm 10 (4 * j + k) ≤ gF zm 4 (gF zm 6 j).toNatClampNeg ∧ Ag zm st bg j (h.toNat + k) + gF zm 10 (4 * j + k) ≤ gI zm 11) ↔ ((Hs zm st bg (gF zm 6 j).toNatClampNeg (h.toNat + k)).toInt + (gF zm 10 (4 * j + k)).toInt ≤ (gF zm 4 (gF zm 6 j).toNatClampNeg).toInt ∧ (As zm st bg (h.toNat + k)).toInt + (gF zm 10 (4 * j + k)).toInt ≤ (gI zm 11).toInt)) := by
    intro k h0 h1 h2
    have b1 := (Hs_int (h := (gF zm 6 j).toNatClampNeg) tm bb pb (show h.toNat + k < 168 by omega)).2
    have b2 := (As_int tm bb pb (show h.toNat + k < 168 by omega)).2
    have b3 := bb.2.1 j k hj h2
    rw [Fg_s tm hj hs (by omega), Ag_s tm hh hj hs (by omega), Int32.le_iff_toInt_le, Int32.le_iff_toInt_le, a_add rfl rfl (by omega) (by omega), a_add rfl rfl (by omega) (by omega)]
  unfold MBg MBp
  constructor
  · rintro ⟨a, b, c, d, e, f⟩
    exact ⟨⟨a, b, c, d, fun k hk => (e k hk).1⟩, fun k hk => (key k (by omega) d hk).mp (e k hk).2, f⟩
  · rintro ⟨⟨a, b, c, d, e⟩, g, f⟩
    exact ⟨a, b, c, d, fun k hk => ⟨e k hk, (key k (by omega) d hk).mpr (g k hk)⟩, f⟩
theorem As_one {zm : St} {st bg : Nat → Int32} {j t : Nat} {b : Int32} (tm : TM zm) (hj : (j : Int) < (gI zm 12).toInt) (hs : st j = 0) (hb : 0 ≤ b.toInt ∧ b.toInt ≤ 167) (ht : t < 168) : As zm (upd st j 1) (upd bg j b) t = As zm st bg t + dq (gF zm 9 j).toInt (fun k => gF zm 10 (4 * j + k)) b.toInt t := by
  have f12 : 0 ≤ (gI zm 12).toInt ∧ (gI zm 12).toInt ≤ 16 := tm.1 12
  have c12 := clampN f12.1
  unfold As
  rw [Int32.add_assoc]
  congr 1
  refine sm_upd (k := j) (by omega) (fun i hi hne => drV_co (by omega) (upd_ne hne) (fun _ => upd_ne hne)) ?_
  rw [drV_0 (by omega) hs, Int32.zero_add, drV_dq (by omega) ht (by rw [upd_at]; decide) (by rw [upd_at]; exact hb) (tm.2 9 _), upd_at]
theorem Hs_one {zm : St} {st bg : Nat → Int32} {j t : Nat} {b : Int32} (tm : TM zm) (hj : (j : Int) < (gI zm 12).toInt) (hs : st j = 0) (hb : 0 ≤ b.toInt ∧ b.toInt ≤ 167) (ht : t < 168) : Hs zm (upd st j 1) (upd bg j b) (gF zm 6 j).toNatClampNeg t = Hs zm st bg (gF zm 6 j).toNatClampNeg t + dq (gF zm 9 j).toInt (fun k => gF zm 10 (4 * j + k)) b.toInt t := by
  have f12 : 0 ≤ (gI zm 12).toInt ∧ (gI zm 12).toInt ≤ 16 := tm.1 12
  have c12 := clampN f12.1
  have f6 : 0 ≤ (gF zm 6 j).toInt ∧ (gF zm 6 j).toInt ≤ 3 := tm.2 6 _
  unfold Hs
  rw [Int32.add_assoc]
  congr 1
  refine sm_upd (k := j) (by omega) (fun i hi hne => ?_) ?_
  · unfold tH
    rw [drV_co (by omega) (upd_ne hne) (fun _ => upd_ne hne)]
  · unfold tH
    rw [if_pos (nI_cl f6.1), if_pos (nI_cl f6.1), drV_0 (by omega) hs, Int32.zero_add, drV_dq (by omega) ht (by rw [upd_at]; decide) (by rw [upd_at]; exact hb) (tm.2 9 _), upd_at]
theorem pre_pl {zm : St} {st bg : Nat → Int32} {oj : Nat → Nat} {n i : Nat} {c : Nat → Int32} (tm : TM zm) (pb : PLB zm st bg) (hr : Rise oj n) (hi : i ≤ n) (hf : FeP zm st bg oj i c) : PLB zm (pS st oj i) (pG bg oj c i) := by
  intro o ho hs
  by_cases e : ∃ l, l < i ∧ oj l = o
  · obtain ⟨l, h1, h2⟩ := e
    rw [← h2, pG_in hr i hi h1]
    have f := hf l h1
    have a1 := f.2.1
    have a2 := f.2.2.1
    have f7 : 0 ≤ (gF zm 7 (oj l)).toInt ∧ (gF zm 7 (oj l)).toInt ≤ 167 := tm.2 7 _
    have f8 : 0 ≤ (gF zm 8 (oj l)).toInt ∧ (gF zm 8 (oj l)).toInt ≤ 167 := tm.2 8 _
    omega
  · have hne : ∀ l, l < i → oj l ≠ o := fun l hl q => e ⟨l, hl, q⟩
    rw [pS_out i hne] at hs
    rw [pG_out i hne]
    exact pb o ho hs
theorem feas {zm : St} {st bg : Nat → Int32} {oj : Nat → Nat} {n i : Nat} {c : Nat → Int32} {h : Int} (tm : TM zm) (bb : BB zm) (hh : ∀ j : Nat, (j : Int) < (gI zm 12).toInt → (gF zm 6 j).toInt < (gI zm 8).toInt) (pb : PLB zm st bg) (hr : Rise oj n) (hi : i < n) (ho : ∀ k, k < n → ((oj k : Nat) : Int) < (gI zm 12).toInt ∧ st (oj k) = 0) (hf : FeP zm st bg oj i c) : MBg zm (pS st oj i) (pG bg oj c i) (oj i) h ↔ MBg zm st bg (oj i) h ∧ (∀ l, l < i → CMP zm st bg (oj l) (oj i) (c l).toInt h) ∧ BOs zm (pS st oj i) (pG bg oj c i) (oj i) h := by
  have hpb := pre_pl tm pb hr (by omega : i ≤ n) hf
  have hji := (ho i hi).1
  have hne : ∀ l, l < i → oj l ≠ oj i := fun l hl q => by have := hr l i hl hi; omega
  have hs' : pS st oj i (oj i) = 0 := by rw [pS_out i hne]; exact (ho i hi).2
  have sub0 : Sub zm st bg (pS st oj i) (pG bg oj c i) := by
    intro o hoo hso
    have hn : ∀ l, l < i → oj l ≠ o := fun l hl q => hso (by rw [← q]; exact (ho l (by omega)).2)
    rw [pS_out i hn, pG_out i hn]
    exact ⟨hso, rfl⟩
  have f12 : 0 ≤ (gI zm 12).toInt ∧ (gI zm 12).toInt ≤ 16 := tm.1 12
  have c12 := clampN f12.1
  have f7 : 0 ≤ (gF zm 7 (oj i)).toInt ∧ (gF zm 7 (oj i)).toInt ≤ 167 := tm.2 7 _
  rw [MBg_bo tm bb hh hpb hji hs', MBg_bo tm bb hh pb hji (ho i hi).2]
  constructor
  · rintro ⟨w, bo, tu⟩
    refine ⟨⟨w, fun k hk => ?_, fun o hoo hso => ?_⟩, fun l hl => ?_, bo⟩
    · have a := bo k hk
      have b1 := Hs_le (h := (gF zm 6 (oj i)).toNatClampNeg) tm bb pb hpb sub0 (show h.toNat + k < 168 by omega)
      have b2 := As_le tm bb pb hpb sub0 (show h.toNat + k < 168 by omega)
      omega
    · have q := sub0 o (by omega) hso
      have := tu o hoo q.1
      rw [q.2] at this
      exact this
    · have hjl := (ho l (by omega)).1
      have fl := hf l hl
      have l7 : 0 ≤ (gF zm 7 (oj l)).toInt ∧ (gF zm 7 (oj l)).toInt ≤ 167 := tm.2 7 _
      have l8 : 0 ≤ (gF zm 8 (oj l)).toInt ∧ (gF zm 8 (oj l)).toInt ≤ 167 := tm.2 8 _
      have fl1 := fl.2.1
      have fl2 := fl.2.2.1
      have fl3 := fl.2.2.2.1
      have tl := tu (oj l) (by omega) (by rw [pS_in hr i (by omega) hl]; decide)
      rw [pG_in hr i (by omega) hl] at tl
      refine ⟨tl.2, tl.1, ?_⟩
      by_cases e1 : (c l).toInt + (gF zm 9 (oj l)).toInt ≤ h
      · exact Or.inl e1
      by_cases e2 : h + (gF zm 9 (oj i)).toInt ≤ (c l).toInt
      · exact Or.inr (Or.inl e2)
      refine Or.inr (Or.inr (fun t h1 h2 h3 h4 => ?_))
      have sub1 : Sub zm (upd st (oj l) 1) (upd bg (oj l) (c l)) (pS st oj i) (pG bg oj c i) := by
        intro o hoo hso
        by_cases e : o = oj l
        · rw [e, upd_at, pS_in hr i (by omega) hl, pG_in hr i (by omega) hl]
          exact ⟨by decide, rfl⟩
        · rw [upd_ne e] at hso ⊢
          exact sub0 o hoo hso
      have pb1 : PLB zm (upd st (oj l) 1) (upd bg (oj l) (c l)) := by
        intro o hoo hso
        by_cases e : o = oj l
        · rw [e, upd_at]; omega
        · rw [upd_ne e] at hso ⊢
          exact pb o hoo hso
      have ht : t < 168 := by omega
      have hd : dq (gF zm 9 (oj l)).toInt (fun k => gF zm 10 (4 * oj l + k)) (c l).toInt t = gF zm 10 (4 * oj l + ((t : Int) - (c l).toInt).toNat) := by
        unfold dq
        rw [if_pos ⟨h1, h3⟩]
      have bk := bo ((t : Int) - h).toNat (by omega)
      have et : h.toNat + ((t : Int) - h).toNat = t := by omega
      rw [et] at bk
      have nl := bb.2.1 (oj l) ((t : Int) - (c l).toInt).toNat hjl (by omega)
      have m2 := As_le tm bb pb1 hpb sub1 ht
      rw [As_one tm hjl (ho l (by omega)).2 (by omega) ht, hd, a_add rfl rfl (by have := (As_int tm bb pb ht).2; omega) (by have := (As_int tm bb pb ht).2; omega)] at m2
      refine ⟨by omega, fun he => ?_⟩
      have m1 := Hs_le (h := (gF zm 6 (oj l)).toNatClampNeg) tm bb pb1 hpb sub1 ht
      rw [Hs_one tm hjl (ho l (by omega)).2 (by omega) ht, hd, a_add rfl rfl (by have := (Hs_int (h := (gF zm 6 (oj l)).toNatClampNeg) tm bb pb ht).2; omega) (by have := (Hs_int (h := (gF zm 6 (oj l)).toNatClampNeg) tm bb pb ht).2; omega), he] at m1
      omega
  · rintro ⟨⟨w, _, tu⟩, cmp, bo⟩
    refine ⟨w, bo, fun o hoo hso => ?_⟩
    by_cases e : ∃ l, l < i ∧ oj l = o
    · obtain ⟨l, h1, h2⟩ := e
      rw [← h2, pG_in hr i (by omega) h1]
      exact ⟨(cmp l h1).2.1, (cmp l h1).1⟩
    · have hn : ∀ l, l < i → oj l ≠ o := fun l hl q => e ⟨l, hl, q⟩
      rw [pS_out i hn] at hso
      rw [pG_out i hn]
      exact tu o hoo hso
