-- THE CLASS'S READER, as functions of the tape
theorem v_X4_kindOf (b1 : Int32) (z : St) (P : Int32 → Prop) (ht : TX z) (hk : ∀ r : Int32, r.toInt = (kd b1 : Int) → P r) : wp_X4_kindOf b1 z P := by
  refine s_X4_kindOf b1 z P ht (fun r hr => hk r ?_)
  rcases hr with ⟨q, h1, h2⟩ | ⟨q, h1, h2⟩ | ⟨q, h1, h2⟩
  · rw [q, kd_1.mpr ⟨h1, h2⟩]; rfl
  · rw [q, kd_2.mpr ⟨h1, h2⟩]; rfl
  · have a : ¬ kd b1 = 1 := fun e => by have := kd_1.mp e; omega
    have b : ¬ kd b1 = 2 := fun e => by have := kd_2.mp e; omega
    have c := kd_le b1
    rw [q, show kd b1 = 0 by omega]; rfl
def SX (z : St) (tp : Nat → Int32) (L : Nat) (t : Nat × Nat) : Prop := gF z 38 = tp ∧ (gI z 3701).toInt = (L : Int) ∧ (gI z 3702).toInt = (t.1 : Int) ∧ (gI z 3703).toInt = (t.2 : Int)
theorem v_X4_next (z : St) (P : St → Prop) (ht : TX z) (tp : Nat → Int32) (L p : Nat) (htp : gF z 38 = tp) (hL : (gI z 3701).toInt = (L : Int)) (hp : (gI z 3703).toInt = (p : Int)) (hpl : p ≤ L) (hk : ∀ z2 : St, TX z2 → Same [3702, 3703] [] z z2 → SX z2 tp L (nx tp L p) → P z2) : wp_X4_next z P := by
  have f1 : 0 ≤ (gI z 3701).toInt ∧ (gI z 3701).toInt ≤ 300 := ht.1 3701
  have e1 : (1 : Int32).toInt = 1 := rfl
  unfold wp_X4_next
  intro K1 hK1
  have L1 : ∀ (n q : Nat) (z2 : St), TX z2 → Same [3702, 3703] [] z z2 → (gI z2 3702).toInt = (q : Int) → q ≤ L → sk tp (L - q) q = tS tp L p → L - q < n → K1 z2 := by
    intro n
    induction n with
    | zero => intro q z2 _ _ _ _ _ hm; omega
    | succ n ih =>
      intro q z2 t2 s2 hq hqL hsk hm
      have g1 : (gI z2 3701).toInt = (L : Int) := (s2.fi 3701 (by decide)).trans hL
      have g38 : gF z2 38 = tp := (s2.2 38 (by decide)).trans htp
      have cq := clampN (x := gI z2 3702) (by omega)
      have eq : (gI z2 3702).toNatClampNeg = q := by omega
      refine hK1 z2 ?_
      intro K3 hK3
      have k3 : tS tp L p = q → K3 := by
        intro hS
        refine hK3 ?_
        intro z4 e4
        have t4 : TX z4 := by rw [e4]; exact Ty_wI t2 (t2.1 3702)
        have s4 : Same [3702, 3703] [] z z4 := s2.i (by decide) e4
        have a2 : (gI z4 3702).toInt = (q : Int) := by rw [e4]; exact hq
        have a3 : (gI z4 3703).toInt = (q : Int) := by rw [e4]; exact hq
        have a1 : (gI z4 3701).toInt = (L : Int) := (s4.fi 3701 (by decide)).trans hL
        have g384 : gF z4 38 = tp := (s4.2 38 (by decide)).trans htp
        refine ⟨fun c => ?_, fun c => ?_⟩
        · have c1 := i_lt rfl rfl c
          have c4 := clampN (x := gI z4 3702) (by omega)
          have e4' : (gI z4 3702).toNatClampNeg = q := by omega
          refine ⟨vin rfl (by omega) (by omega), ?_⟩
          refine v_X4_kindOf _ z4 _ t4 (fun r7 hr => ?_)
          rw [g384, e4'] at hr
          intro K8 hK8
          have hE : tE tp L q = if kd (tp q) = 0 then q + 1 else rn tp (kd (tp q)) (L - (q + 1)) (q + 1) := by unfold tE; rw [if_neg (by omega)]
          have out : ∀ (e : Nat) (z9 : St), TX z9 → Same [3702, 3703] [] z z9 → (gI z9 3702).toInt = (q : Int) → (gI z9 3703).toInt = (e : Int) → e = tE tp L q → P z9 := by
            intro e z9 t9 s9 h2 h3 he
            refine hk z9 t9 s9 ⟨(s9.2 38 (by decide)).trans htp, (s9.fi 3701 (by decide)).trans hL, ?_, ?_⟩
            · show _ = ((tS tp L p : Nat) : Int); rw [hS]; exact h2
            · show _ = ((tE tp L (tS tp L p) : Nat) : Int); rw [hS, ← he]; exact h3
          have L8 : ∀ (n e : Nat) (z9 : St), TX z9 → Same [3702, 3703] [] z z9 → (gI z9 3702).toInt = (q : Int) → (gI z9 3703).toInt = (e : Int) → q < e → e ≤ L → (kd (tp q) = 0 → e = q + 1) → (kd (tp q) ≠ 0 → rn tp (kd (tp q)) (L - e) e = tE tp L q) → L - e < n → K8 z9 := by
            intro n
            induction n with
            | zero => intro e z9 _ _ _ _ _ _ _ _ hm; omega
            | succ n ih8 =>
              intro e z9 t9 s9 h2 h3 he1 he2 hz hn hm
              have b1 : (gI z9 3701).toInt = (L : Int) := (s9.fi 3701 (by decide)).trans hL
              have g389 : gF z9 38 = tp := (s9.2 38 (by decide)).trans htp
              refine hK8 z9 ⟨fun c7 => ?_, fun c7 => ?_⟩
              · have k0 : kd (tp q) = 0 := by rw [c7] at hr; have : (0 : Int) = (kd (tp q) : Int) := hr; omega
                refine out e z9 t9 s9 h2 h3 ?_
                rw [hE, if_pos k0]; exact hz k0
              · have k0 : kd (tp q) ≠ 0 := fun k => c7 (toI_inj (by rw [hr, k]; rfl))
                refine ⟨fun c8 => ?_, fun c8 => ?_⟩
                · have c8' := i_le rfl rfl c8
                  refine out e z9 t9 s9 h2 h3 ?_
                  rw [← hn k0, show L - e = 0 by omega]; rfl
                · have c8' := i_nle rfl rfl c8
                  have hv : vp_in (gI z9 3703) 300 := vin rfl (by omega) (by omega)
                  have c9 := clampI hv
                  have e9 : (gI z9 3703).toNatClampNeg = e := by omega
                  refine ⟨hv, ?_⟩
                  refine v_X4_kindOf _ z9 _ t9 (fun r13 hr13 => ?_)
                  rw [g389, e9] at hr13
                  have hst : rn tp (kd (tp q)) (L - e) e = if kd (tp e) = kd (tp q) then rn tp (kd (tp q)) (L - (e + 1)) (e + 1) else e := by
                    rw [show L - e = (L - (e + 1)) + 1 by omega]; rfl
                  refine ⟨fun cr => ?_, fun cr => ?_⟩
                  · have k13 : ¬ kd (tp e) = kd (tp q) := fun k => cr (toI_inj (by rw [hr13, hr, k]))
                    refine out e z9 t9 s9 h2 h3 ?_
                    rw [← hn k0, hst, if_neg k13]
                  · have k13 : kd (tp e) = kd (tp q) := by rw [cr, hr] at hr13; omega
                    intro z15 e15
                    have i15 : (gI z9 3703 + (1 : Int32)).toInt = (e : Int) + 1 := a_add h3 e1 (by omega) (by omega)
                    refine ih8 (e + 1) z15 (by rw [e15]; exact Ty_wI t9 (show 0 ≤ (gI z9 3703 + (1 : Int32)).toInt ∧ (gI z9 3703 + (1 : Int32)).toInt ≤ 300 by omega)) (s9.i (by decide) e15) (by rw [e15]; exact h2) (by rw [e15]; exact i15) (by omega) (by omega) (fun k => absurd k k0) (fun _ => ?_) (by omega)
                    rw [← hn k0, hst, if_pos k13]
          intro z16 e16
          have i16 : (gI z4 3703 + (1 : Int32)).toInt = (q : Int) + 1 := a_add a3 e1 (by omega) (by omega)
          refine L8 _ (q + 1) z16 (by rw [e16]; exact Ty_wI t4 (show 0 ≤ (gI z4 3703 + (1 : Int32)).toInt ∧ (gI z4 3703 + (1 : Int32)).toInt ≤ 300 by omega)) (s4.i (by decide) e16) (by rw [e16]; exact a2) (by rw [e16]; exact i16) (by omega) (by omega) (fun _ => rfl) (fun k => ?_) (Nat.lt_succ_self _)
          rw [hE, if_neg k]
        · have c1 := i_nlt rfl rfl c
          refine hk z4 t4 s4 ⟨g384, a1, ?_, ?_⟩
          · show _ = ((tS tp L p : Nat) : Int); rw [hS]; exact a2
          · show _ = ((tE tp L (tS tp L p) : Nat) : Int); rw [hS]; unfold tE; rw [if_pos (by omega)]; exact a3
      refine ⟨fun c => k3 ?_, fun c => ?_⟩
      · have c1 := i_le rfl rfl c
        rw [← hsk, show L - q = 0 by omega]; rfl
      · have c1 := i_nle rfl rfl c
        have hst : sk tp (L - q) q = if tp q = 32 then sk tp (L - (q + 1)) (q + 1) else q := by
          rw [show L - q = (L - (q + 1)) + 1 by omega]; rfl
        refine ⟨vin rfl (by omega) (by omega), fun c2 => k3 ?_, fun c2 => ?_⟩
        · rw [g38, eq] at c2
          rw [← hsk, hst, if_neg c2]
        · rw [g38, eq] at c2
          intro z19 e19
          have i19 : (gI z2 3702 + (1 : Int32)).toInt = (q : Int) + 1 := a_add hq e1 (by omega) (by omega)
          refine ih (q + 1) z19 (by rw [e19]; exact Ty_wI t2 (show 0 ≤ (gI z2 3702 + (1 : Int32)).toInt ∧ (gI z2 3702 + (1 : Int32)).toInt ≤ 300 by omega)) (s2.i (by decide) e19) (by rw [e19]; exact i19) (by omega) ?_ (by omega)
          rw [← hsk, hst, if_pos c2]
  intro z20 e20
  have f3 : 0 ≤ (gI z 3703).toInt ∧ (gI z 3703).toInt ≤ 300 := ht.1 3703
  exact L1 _ p z20 (by rw [e20]; exact Ty_wI ht f3) (Same.rf.i (by decide) e20) (by rw [e20]; exact hp) hpl rfl (Nat.lt_succ_self _)
theorem v_X4_number (z : St) (P : Int32 → Prop) (ht : TX z) (tp : Nat → Int32) (L : Nat) (t : Nat × Nat) (hs : SX z tp L t) (tk : TK tp L t) (hk : ∀ r : Int32, r.toInt = nC tp L t → P r) : wp_X4_number z P := by
  obtain ⟨h38, h1, h2, h3⟩ := hs
  obtain ⟨k1, k2, k3, k4⟩ := tk
  have f1 : 0 ≤ (gI z 3701).toInt ∧ (gI z 3701).toInt ≤ 300 := ht.1 3701
  have e100 : (100000 : Int32).toInt = 100000 := rfl
  unfold wp_X4_number
  refine ⟨fun c => hk _ ?_, fun c => ?_⟩
  · have c1 := i_le rfl rfl c
    unfold nC; rw [if_neg (by omega)]; rfl
  · have c1 := i_nle rfl rfl c
    have c2 := clampN (x := gI z 3702) (by omega)
    have e2 : (gI z 3702).toNatClampNeg = t.1 := by omega
    refine ⟨vin rfl (by omega) (by omega), ?_⟩
    refine v_X4_kindOf _ z _ ht (fun r3 hr => ?_)
    rw [h38, e2] at hr
    refine ⟨fun c3 => ?_, fun c3 => hk _ ?_⟩
    · have kq : kd (tp t.1) = 2 := by rw [c3] at hr; have : (2 : Int) = (kd (tp t.1) : Int) := hr; omega
      have hall := (k4 (by omega)).2.2
      have hlt := (k4 (by omega)).1
      intro K7 hK7
      have LL : ∀ (n m : Nat) (v5 v6 : Int32), t.1 + m ≤ t.2 → v5.toInt = cv tp t.1 m → v6.toInt = ((t.1 + m : Nat) : Int) → t.2 - (t.1 + m) < n → K7 v5 v6 := by
        intro n
        induction n with
        | zero => intro m v5 v6 _ _ _ q; omega
        | succ n ih =>
          intro m v5 v6 hm h5 h6 hn
          have bd := cv_nv tp t.1 m (fun j g1 g2 => by have := kd_2.mp ((hall j g1 (by omega)).trans kq); exact this)
          have c6 := clampN (x := v6) (by omega)
          have e6 : v6.toNatClampNeg = t.1 + m := by omega
          refine hK7 v5 v6 ⟨fun cc => hk _ ?_, fun cc => ⟨vin rfl (by omega) (by have := i_nle rfl rfl cc; omega), ?_⟩⟩
          · have cc' := i_le rfl rfl cc
            unfold nC; rw [if_pos ⟨by omega, kq⟩, h5, show t.2 - t.1 = m by omega]
          · have cc' := i_nle rfl rfl cc
            have dg := kd_2.mp ((hall (t.1 + m) (by omega) (by omega)).trans kq)
            intro x9 e9 x10 e10
            rw [h38, e6] at e9
            have i9 : (v5 * (10 : Int32) + tp (t.1 + m) - (48 : Int32)).toInt = cv tp t.1 m * 10 + (tp (t.1 + m)).toInt - 48 := a_sub (a_add (a_mul h5 (show (10 : Int32).toInt = 10 from rfl) (by omega) (by omega)) rfl (by omega) (by omega)) (show (48 : Int32).toInt = 48 from rfl) (by omega) (by omega)
            have i10 : x10.toInt = v6.toInt + 1 := by rw [e10]; exact a_add rfl rfl (by omega) (by omega)
            refine ih (m + 1) x9 x10 (by omega) ?_ (by omega) (by omega)
            rw [e9]
            unfold cv
            by_cases b : cv tp t.1 m * 10 + (tp (t.1 + m)).toInt - 48 < 100000
            · rw [if_pos b, if_pos (Int32.lt_iff_toInt_lt.mpr (by rw [i9, e100]; exact b))]; exact i9
            · rw [if_neg b, if_neg (fun q => b (by have := Int32.lt_iff_toInt_lt.mp q; rw [i9, e100] at this; exact this))]; exact e100
      intro x11 e11
      exact LL _ 0 _ x11 (by omega) rfl (by rw [e11]; exact h2) (Nat.lt_succ_self _)
    · unfold nC
      rw [if_neg (fun q => c3 (toI_inj (by rw [hr, q.2]; rfl)))]; rfl
theorem v_X4_takeNumber (b1 : Int32) (z : St) (P : Int32 → St → Prop) (ht : TX z) (tp : Nat → Int32) (L : Nat) (t : Nat × Nat) (hs : SX z tp L t) (tk : TK tp L t) (m : Int) (hm : b1.toInt = m) (hk1 : okN tp L t m → ∀ (r : Int32) (z2 : St), r.toInt = nC tp L t → TX z2 → Same [3702, 3703] [] z z2 → SX z2 tp L (n1 tp L t) → P r z2) (hk0 : ¬ okN tp L t m → P (-1) z) : wp_X4_takeNumber b1 z P := by
  unfold wp_X4_takeNumber
  have hge : -1 ≤ nC tp L t := by
    unfold nC
    by_cases q : t.1 < L ∧ kd (tp t.1) = 2
    · rw [if_pos q]
      have hall := (tk.2.2.2 q.1).2.2
      have := cv_nv tp t.1 (t.2 - t.1) (fun j g1 g2 => kd_2.mp ((hall j g1 (by omega)).trans q.2))
      omega
    · rw [if_neg q]; omega
  refine v_X4_number z _ ht tp L t hs tk (fun r2 hr => ?_)
  have em : (-1 : Int32).toInt = -1 := rfl
  refine ⟨fun c => hk0 ?_, fun c => ⟨fun c2 => ?_, fun c2 => hk0 ?_⟩⟩
  · intro q; unfold okN at q; rw [c, em] at hr; omega
  · have c' := i_ne rfl em c
    have c2' := i_le rfl rfl c2
    have ok : okN tp L t m := ⟨by omega, by omega⟩
    exact v_X4_next z _ ht tp L t.2 hs.1 hs.2.1 hs.2.2.2 tk.2.1 (fun z5 t5 s5 x5 => hk1 ok r2 z5 hr t5 s5 x5)
  · have c2' := i_nle rfl rfl c2
    intro q; unfold okN at q; omega
