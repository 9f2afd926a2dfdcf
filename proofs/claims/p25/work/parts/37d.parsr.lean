-- THE CLASS'S RULES, as functions of the tape
theorem SX_same {I F : List Nat} {z z1 : St} {tp : Nat → Int32} {L : Nat} {t : Nat × Nat} (h : SX z tp L t) (s : Same I F z z1) (h1 : 3701 ∉ I) (h2 : 3702 ∉ I) (h3 : 3703 ∉ I) (h38 : 38 ∉ F) : SX z1 tp L t := by
  unfold SX
  rw [s.1 3701 h1, s.1 3702 h2, s.1 3703 h3, s.2 38 h38]
  exact h
def OUX (tp : Nat → Int32) (L : Nat) (o : Sum Nat ((Nat × Nat) × RC)) (r : Int32) (z2 : St) : Prop := match o with
  | Sum.inl f => r = 0 ∧ (gI z2 3702).toInt = (f : Int)
  | Sum.inr x => r = 1 ∧ SX z2 tp L x.1 ∧ TK tp L x.1
abbrev RRI : List Nat := [3702, 3703, 5202]
abbrev RRF : List Nat := [53, 54]
theorem TK_n1 {tp : Nat → Int32} {L : Nat} {t : Nat × Nat} (tk : TK tp L t) : TK tp L (n1 tp L t) := TK_nx tp L t.2 tk.2.1
theorem m1_ne {r : Int32} {x : Int} (hr : r.toInt = x) (h : 0 ≤ x) : ¬ r = (-1 : Int32) := fun e => by
  rw [e] at hr
  have : (-1 : Int32).toInt = -1 := rfl
  omega
theorem nC_hi {tp : Nat → Int32} {L : Nat} {t : Nat × Nat} {m : Int} (h : okN tp L t m) : 0 ≤ nC tp L t ∧ nC tp L t ≤ m := h
theorem v_X4_readQuiet (z : St) (P : Int32 → St → Prop) (ht : TX z) (tp : Nat → Int32) (L : Nat) (t : Nat × Nat) (hs : SX z tp L t) (tk : TK tp L t) (hk : ∀ (r : Int32) (z2 : St), TX z2 → Same RRI RRF z z2 → (r = 0 ∨ r = 1) → OUX tp L (pQ tp L t) r z2 → P r z2) : wp_X4_readQuiet_52 z P := by
  unfold wp_X4_readQuiet_52
  refine v_X4_takeNumber _ z _ ht tp L t hs tk 3 rfl (fun ok1 r2 z1 hr2 t1 s1 x1 => ?_) (fun no1 => ?_)
  · have ok1 : okN tp L t 3 := ok1
    have s1' : Same RRI RRF z z1 := Same.tr (z1 := z) Same.rf s1 (by decide) (by decide)
    have k1 := TK_n1 tk
    refine ⟨fun c => absurd c (m1_ne hr2 ok1.1), fun _ => ?_⟩
    refine v_X4_take_s3 z1 _ t1 tp L _ x1 k1 (fun w3 z4 t4 s4 x4 => ?_) (fun w3 => ?_)
    · have s4' : Same RRI RRF z z4 := s1'.tr s4 (by decide) (by decide)
      have k4 := TK_n1 k1
      refine ⟨fun _ => ?_, fun c => absurd c (by decide)⟩
      refine v_X4_takeNumber _ z4 _ t4 tp L _ x4 k4 23 rfl (fun ok2 r8 z7 hr8 t7 s7 x7 => ?_) (fun no2 => ?_)
      · have ok2 : okN tp L (n1 tp L (n1 tp L t)) 23 := ok2
        have s7' : Same RRI RRF z z7 := s4'.tr s7 (by decide) (by decide)
        have k7 := TK_n1 k4
        refine ⟨fun c => absurd c (m1_ne hr8 ok2.1), fun _ => ?_⟩
        refine v_X4_take_s4 z7 _ t7 tp L _ x7 k7 (fun w4 z10 t10 s10 x10 => ?_) (fun w4 => ?_)
        · have s10' : Same RRI RRF z z10 := s7'.tr s10 (by decide) (by decide)
          have k10 := TK_n1 k7
          refine ⟨fun _ => ?_, fun c => absurd c (by decide)⟩
          refine v_X4_takeNumber _ z10 _ t10 tp L _ x10 k10 23 rfl (fun ok3 r14 z13 hr14 t13 s13 x13 => ?_) (fun no3 => ?_)
          · have ok3 : okN tp L (n1 tp L (n1 tp L (n1 tp L (n1 tp L t)))) 23 := ok3
            have s13' : Same RRI RRF z z13 := s10'.tr s13 (by decide) (by decide)
            refine ⟨fun _ => ?_, fun c => absurd c (m1_ne hr14 ok3.1)⟩
            refine s_X5_addQuiet_c52 _ _ _ _ _ t13 (by have := nC_hi ok1; omega) (fun z16 t16 s16 _ => ?_)
            refine hk 1 z16 t16 (s13'.tr s16 (by decide) (by decide)) (Or.inr rfl) ?_
            unfold pQ
            rw [pIf_t ok1, pIf_t w3, pIf_t ok2, pIf_t w4, pIf_t ok3]
            exact ⟨rfl, SX_same x13 s16 (by decide) (by decide) (by decide) (by decide), TK_n1 k10⟩
          · refine ⟨fun c => absurd rfl c, fun _ => hk 0 z10 t10 s10' (Or.inl rfl) ?_⟩
            unfold pQ
            rw [pIf_t ok1, pIf_t w3, pIf_t ok2, pIf_t w4, pIf_f no3]
            exact ⟨rfl, x10.2.2.1⟩
        · refine ⟨fun c => absurd rfl c, fun _ => hk 0 z7 t7 s7' (Or.inl rfl) ?_⟩
          unfold pQ
          rw [pIf_t ok1, pIf_t w3, pIf_t ok2, pIf_f w4]
          exact ⟨rfl, x7.2.2.1⟩
      · refine ⟨fun _ => hk 0 z4 t4 s4' (Or.inl rfl) ?_, fun c => absurd rfl c⟩
        unfold pQ
        rw [pIf_t ok1, pIf_t w3, pIf_f no2]
        exact ⟨rfl, x4.2.2.1⟩
    · refine ⟨fun c => absurd rfl c, fun _ => hk 0 z1 t1 s1' (Or.inl rfl) ?_⟩
      unfold pQ
      rw [pIf_t ok1, pIf_f w3]
      exact ⟨rfl, x1.2.2.1⟩
  · refine ⟨fun _ => hk 0 z ht Same.rf (Or.inl rfl) ?_, fun c => absurd rfl c⟩
    unfold pQ
    rw [pIf_f no1]
    exact ⟨rfl, hs.2.2.1⟩
theorem v_X4_readDear (z : St) (P : Int32 → St → Prop) (ht : TX z) (tp : Nat → Int32) (L : Nat) (t : Nat × Nat) (hs : SX z tp L t) (tk : TK tp L t) (hk : ∀ (r : Int32) (z2 : St), TX z2 → Same RRI RRF z z2 → (r = 0 ∨ r = 1) → OUX tp L (pD tp L t) r z2 → P r z2) : wp_X4_readDear_52 z P := by
  unfold wp_X4_readDear_52
  refine v_X4_takeNumber _ z _ ht tp L t hs tk 10000 rfl (fun ok1 r2 z1 hr2 t1 s1 x1 => ?_) (fun no1 => ?_)
  · have ok1 : okN tp L t 10000 := ok1
    have s1' : Same RRI RRF z z1 := Same.tr (z1 := z) Same.rf s1 (by decide) (by decide)
    refine ⟨fun _ => ?_, fun c => absurd c (m1_ne hr2 ok1.1)⟩
    intro z4 e4
    refine hk 1 z4 (by rw [e4]; exact Ty_wI t1 trivial) (s1'.i (by decide) e4) (Or.inr rfl) ?_
    unfold pD
    rw [pIf_t ok1]
    exact ⟨rfl, SX_same x1 (Same.rf.i (I := [5202]) (F := []) (by decide) e4) (by decide) (by decide) (by decide) (by decide), TK_n1 tk⟩
  · refine ⟨fun c => absurd rfl c, fun _ => hk 0 z ht Same.rf (Or.inl rfl) ?_⟩
    unfold pD
    rw [pIf_f no1]
    exact ⟨rfl, hs.2.2.1⟩
theorem v_X4_readBefore (z : St) (P : Int32 → St → Prop) (ht : TX z) (tp : Nat → Int32) (L : Nat) (t : Nat × Nat) (hs : SX z tp L t) (tk : TK tp L t) (hk : ∀ (r : Int32) (z2 : St), TX z2 → Same RRI RRF z z2 → (r = 0 ∨ r = 1) → OUX tp L (pB tp L t) r z2 → P r z2) : wp_X4_readBefore_52 z P := by
  unfold wp_X4_readBefore_52
  refine v_X4_takeNumber _ z _ ht tp L t hs tk 15 rfl (fun ok1 r2 z1 hr2 t1 s1 x1 => ?_) (fun no1 => ?_)
  · have ok1 : okN tp L t 15 := ok1
    have s1' : Same RRI RRF z z1 := Same.tr (z1 := z) Same.rf s1 (by decide) (by decide)
    have k1 := TK_n1 tk
    refine ⟨fun c => absurd c (m1_ne hr2 ok1.1), fun _ => ?_⟩
    refine v_X4_take_s5 z1 _ t1 tp L _ x1 k1 (fun w5 z4 t4 s4 x4 => ?_) (fun w5 => ?_)
    · have s4' : Same RRI RRF z z4 := s1'.tr s4 (by decide) (by decide)
      have k4 := TK_n1 k1
      refine ⟨fun c => absurd c (by decide), fun _ => ?_⟩
      refine v_X4_number z4 _ t4 tp L _ x4 k4 (fun r8 hr8 => ?_)
      refine ⟨fun c8 => ?_, fun c8 => ?_⟩
      · have hne : nC tp L (n1 tp L (n1 tp L t)) ≠ nC tp L t := fun e => c8 (toI_inj (by rw [hr8, hr2, e]))
        refine v_X4_takeNumber _ z4 _ t4 tp L _ x4 k4 15 rfl (fun ok2 r11 z10 hr11 t10 s10 x10 => ?_) (fun no2 => ?_)
        · have ok2 : okN tp L (n1 tp L (n1 tp L t)) 15 := ok2
          have hv : vp_in r2 16 := vin hr2 ok1.1 (by have := nC_hi ok1; omega)
          refine ⟨fun _ => ⟨hv, hv, ?_⟩, fun c => absurd c (m1_ne hr11 ok2.1)⟩
          intro z13 e13
          refine hk 1 z13 (by rw [e13]; exact Ty_wR t10 trivial) ((s4'.tr s10 (by decide) (by decide)).r (by decide) e13) (Or.inr rfl) ?_
          unfold pB
          rw [pIf_t ok1, pIf_t w5, pIf_t ⟨ok2, hne⟩]
          exact ⟨rfl, SX_same x10 (Same.rf.r (I := []) (F := [54]) (by decide) e13) (by decide) (by decide) (by decide) (by decide), TK_n1 k4⟩
        · refine ⟨fun c => absurd rfl c, fun _ => hk 0 z4 t4 s4' (Or.inl rfl) ?_⟩
          unfold pB
          rw [pIf_t ok1, pIf_t w5, pIf_f (fun q => no2 q.1)]
          exact ⟨rfl, x4.2.2.1⟩
      · refine hk 0 z4 t4 s4' (Or.inl rfl) ?_
        unfold pB
        rw [pIf_t ok1, pIf_t w5, pIf_f (fun q => q.2 (by rw [← hr8, ← hr2, c8]))]
        exact ⟨rfl, x4.2.2.1⟩
    · refine ⟨fun _ => hk 0 z1 t1 s1' (Or.inl rfl) ?_, fun c => absurd rfl c⟩
      unfold pB
      rw [pIf_t ok1, pIf_f w5]
      exact ⟨rfl, x1.2.2.1⟩
  · refine ⟨fun _ => hk 0 z ht Same.rf (Or.inl rfl) ?_, fun c => absurd rfl c⟩
    unfold pB
    rw [pIf_f no1]
    exact ⟨rfl, hs.2.2.1⟩
theorem v_X4_readRule (z : St) (P : Int32 → St → Prop) (ht : TX z) (tp : Nat → Int32) (L : Nat) (t : Nat × Nat) (hs : SX z tp L t) (tk : TK tp L t) (hk : ∀ (r : Int32) (z2 : St), TX z2 → Same RRI RRF z z2 → OUX tp L (pR tp L t) r z2 → P r z2) : wp_X4_readRule_52 z P := by
  have k1 := TK_n1 tk
  unfold wp_X4_readRule_52
  refine v_X4_take_s0 z _ ht tp L t hs tk (fun w0 z1 t1 s1 x1 => ?_) (fun w0 => ?_)
  · refine ⟨fun c => absurd c (by decide), fun _ => ?_⟩
    refine v_X4_readQuiet z1 _ t1 tp L _ x1 k1 (fun r z2 t2 s2 h01 o2 => ⟨h01, ?_⟩)
    refine hk r z2 t2 ((Same.tr (z1 := z) Same.rf s1 (by decide) (by decide)).tr s2 (by decide) (by decide)) ?_
    unfold pR
    rw [pIf_t w0]; exact o2
  · refine ⟨fun _ => ?_, fun c => absurd rfl c⟩
    refine v_X4_take_s1 z _ ht tp L t hs tk (fun w1 z1 t1 s1 x1 => ?_) (fun w1 => ?_)
    · refine ⟨fun c => absurd c (by decide), fun _ => ?_⟩
      refine v_X4_readDear z1 _ t1 tp L _ x1 k1 (fun r z2 t2 s2 h01 o2 => ⟨h01, ?_⟩)
      refine hk r z2 t2 ((Same.tr (z1 := z) Same.rf s1 (by decide) (by decide)).tr s2 (by decide) (by decide)) ?_
      unfold pR
      rw [pIf_f w0, pIf_t w1]; exact o2
    · refine ⟨fun _ => ?_, fun c => absurd rfl c⟩
      refine v_X4_take_s2 z _ ht tp L t hs tk (fun w2 z1 t1 s1 x1 => ?_) (fun w2 => ?_)
      · refine ⟨fun c => absurd c (by decide), fun _ => ?_⟩
        refine v_X4_readBefore z1 _ t1 tp L _ x1 k1 (fun r z2 t2 s2 h01 o2 => ?_)
        have s2' : Same RRI RRF z z2 := (Same.tr (z1 := z) Same.rf s1 (by decide) (by decide)).tr s2 (by decide) (by decide)
        have hR : pR tp L t = pB tp L (n1 tp L t) := by unfold pR; rw [pIf_f w0, pIf_f w1, pIf_t w2]
        refine ⟨fun c => ?_, fun c => ?_⟩
        · refine hk 0 z2 t2 s2' ?_
          rw [hR]; rw [c] at o2; exact o2
        · refine hk 1 z2 t2 s2' ?_
          rw [hR]
          rcases h01 with q | q
          · exact absurd q c
          · rw [q] at o2; exact o2
      · refine ⟨fun _ => hk 0 z ht Same.rf ?_, fun c => absurd rfl c⟩
        unfold pR
        rw [pIf_f w0, pIf_f w1, pIf_f w2]
        exact ⟨rfl, hs.2.2.1⟩
def OU2 (o : Sum Nat (List RC)) (r : Int32) (z2 : St) : Prop := match o with
  | Sum.inl f => r = 0 ∧ (gI z2 3702).toInt = (f : Int)
  | Sum.inr cs => r = 1 ∧ (gI z2 5203).toInt = (cs.length : Int)
abbrev RDI : List Nat := [3702, 3703, 5202, 5203]
theorem v_X4_read (z : St) (P : Int32 → St → Prop) (ht : TX z) (tp : Nat → Int32) (L : Nat) (h38 : gF z 38 = tp) (hL : (gI z 3701).toInt = (L : Int)) (hk : ∀ (r : Int32) (z2 : St), TX z2 → Same RDI RRF z z2 → OU2 (pA tp L) r z2 → P r z2) : wp_X4_read_52 z P := by
  have f1 : 0 ≤ (gI z 3701).toInt ∧ (gI z 3701).toInt ≤ 300 := ht.1 3701
  have e20 : (20 : Int32).toInt = 20 := rfl
  have e01 : (1 : Int32).toInt = 1 := rfl
  unfold wp_X4_read_52 wp_X5_wipe_c52
  refine s_J7_fill_53178_53 _ _ _ ht (fun za ta sa _ => ?_)
  refine s_J7_fill_53178_54 _ _ _ ta (fun zb tb sb _ => ?_)
  intro zc ec zd ed
  have td : TX zd := by rw [ed]; exact Ty_wI (by rw [ec]; exact Ty_wI tb trivial) trivial
  have sd : Same RDI RRF z zd := (((Same.tr (z1 := z) Same.rf sa (by decide) (by decide)).tr sb (by decide) (by decide)).i (by decide) ec).i (by decide) ed
  have n0 : (gI zd 5203).toInt = 0 := by rw [ed]; rfl
  intro z3 e3
  have t3 : TX z3 := by rw [e3]; exact Ty_wI td (show 0 ≤ (0 : Int32).toInt ∧ (0 : Int32).toInt ≤ 300 by decide)
  have s3 : Same RDI RRF z z3 := sd.i (by decide) e3
  have n3 : (gI z3 5203).toInt = 0 := by rw [e3]; exact n0
  refine v_X4_next z3 _ t3 tp L 0 ((s3.2 38 (by decide)).trans h38) ((s3.fi 3701 (by decide)).trans hL) (by rw [e3]; rfl) (Nat.zero_le _) (fun z4 t4 s4 x4 => ?_)
  have s4' : Same RDI RRF z z4 := s3.tr s4 (by decide) (by decide)
  have n4 : (gI z4 5203).toInt = 0 := (s4.fi 5203 (by decide)).trans n3
  have k4 := TK_nx tp L 0 (Nat.zero_le _)
  have x4' := x4
  obtain ⟨_, y1, y2, _⟩ := x4'
  refine ⟨fun c => ?_, fun c => ?_⟩
  · have c' := i_lt rfl rfl c
    have hA : pA tp L = pL tp L 20 (nx tp L 0) := by unfold pA; rw [pIf_f (by omega)]
    intro K8 hK8
    have LL : ∀ (n : Nat) (v7 : Int32) (z9 : St) (t : Nat × Nat), TX z9 → Same RDI RRF z z9 → SX z9 tp L t → TK tp L t → v7.toInt + n = 20 → (gI z9 5203).toInt = v7.toInt → 0 ≤ v7.toInt → REL tp L v7.toNatClampNeg (pL tp L n t) → K8 v7 z9 := by
      intro n
      induction n with
      | zero =>
        intro v7 z9 t t9 s9 x9 k9 hn h5 g0 hr
        refine hK8 v7 z9 ⟨fun _ => ?_, fun cc => absurd (i_nle e20 rfl cc) (by omega)⟩
        refine hk 0 z9 t9 s9 ?_
        have hr : pA tp L = Sum.inl t.1 := hr
        rw [hr]; exact ⟨rfl, x9.2.2.1⟩
      | succ n ih =>
        intro v7 z9 t t9 s9 x9 k9 hn h5 g0 hr
        have cv := clampN g0
        refine hK8 v7 z9 ⟨fun cc => absurd (i_le e20 rfl cc) (by omega), fun _ => ?_⟩
        refine v_X4_readRule z9 _ t9 tp L t x9 k9 (fun r12 z11 t11 s11 o11 => ?_)
        have s11' : Same RDI RRF z z11 := s9.tr s11 (by decide) (by decide)
        have h511 : (gI z11 5203).toInt = v7.toInt := (s11.fi 5203 (by decide)).trans h5
        rcases hp : pR tp L t with f | x
        · rw [hp] at o11
          have o11 : r12 = 0 ∧ (gI z11 3702).toInt = (f : Int) := o11
          rw [pL_inl hp] at hr
          have hr : pA tp L = Sum.inl f := hr
          refine ⟨fun q => absurd o11.1 q, fun _ => hk 0 z11 t11 s11' ?_⟩
          rw [hr]; exact ⟨rfl, o11.2⟩
        · rw [hp] at o11
          have o11 : r12 = 1 ∧ SX z11 tp L x.1 ∧ TK tp L x.1 := o11
          obtain ⟨o1, x11, k11⟩ := o11
          refine ⟨fun _ => ?_, fun q => absurd q (by rw [o1]; decide)⟩
          intro z14 e14
          have i14 : (gI z11 5203 + (1 : Int32)).toInt = v7.toInt + 1 := a_add h511 e01 (by omega) (by omega)
          have t14 : TX z14 := by rw [e14]; exact Ty_wI t11 trivial
          have s14 : Same RDI RRF z z14 := s11'.i (by decide) e14
          have x14 : SX z14 tp L x.1 := SX_same x11 (Same.rf.i (I := [5203]) (F := []) (by decide) e14) (by decide) (by decide) (by decide) (by decide)
          have h514 : (gI z14 5203).toInt = v7.toInt + 1 := by rw [e14]; exact i14
          have x14' := x14
          obtain ⟨_, w1, w2, _⟩ := x14'
          refine ⟨fun c5 => ?_, fun c5 => ?_⟩
          · have c5' := i_lt rfl rfl c5
            refine v_X4_take_s6 z14 _ t14 tp L _ x14 k11 (fun w6 z16 t16 s16 x16 => ?_) (fun w6 => ?_)
            · refine ⟨fun _ => ?_, fun q => absurd q (by decide)⟩
              intro x19 e19
              have i19 : x19.toInt = v7.toInt + 1 := by rw [e19]; exact a_add rfl e01 (by omega) (by omega)
              have c19 := clampN (x := x19) (by omega)
              refine ih x19 z16 (n1 tp L x.1) t16 (s14.tr s16 (by decide) (by decide)) x16 (TK_n1 k11) (by omega) ?_ (by omega) ?_
              · rw [s16.fi 5203 (by decide), h514]; omega
              · rw [show x19.toNatClampNeg = v7.toNatClampNeg + 1 by omega]
                exact REL_next hp (by omega) w6 hr
            · refine ⟨fun q => absurd rfl q, fun _ => hk 0 z14 t14 s14 ?_⟩
              rw [pL_bad hp (by omega) w6] at hr
              have hr : pA tp L = Sum.inl x.1.1 := hr
              rw [hr]; exact ⟨rfl, w2⟩
          · have c5' := i_nlt rfl rfl c5
            refine hk 1 z14 t14 s14 ?_
            rw [pL_end hp (by omega)] at hr
            obtain ⟨pre, g1, g2⟩ := hr
            rw [g2]
            refine ⟨rfl, ?_⟩
            rw [h514, List.length_append, g1]
            show v7.toInt + 1 = ((v7.toNatClampNeg + 1 : Nat) : Int)
            omega
    refine LL 20 0 z4 (nx tp L 0) t4 s4' x4 k4 (by decide) (by rw [n4]; rfl) (by decide) ?_
    rw [← hA]
    rcases hq : pA tp L with f | cs
    · exact hq
    · exact ⟨[], rfl, hq⟩
  · have c' := i_nlt rfl rfl c
    refine hk 1 z4 t4 s4' ?_
    have hA : pA tp L = Sum.inr [] := by unfold pA; rw [pIf_t (by omega)]
    rw [hA]
    exact ⟨rfl, n4⟩
