-- WHAT THE RULES SAY, as a list, and the class's bits of it
def qIn (b c t : Int) : Prop := (c < b ∧ (b ≤ t ∨ t ≤ c)) ∨ (¬ c < b ∧ (b ≤ t ∧ t ≤ c))
def QC (cs : List RC) (h t : Nat) : Prop := ∃ c, c ∈ cs ∧ (c.1 = 0 ∧ c.2.1 = (h : Int) ∧ qIn c.2.2.1 c.2.2.2 (t : Int))
def DC (cs : List RC) (x : Int) : Prop := ∃ c, c ∈ cs ∧ (c.1 = 1 ∧ c.2.1 < x)
def BC (cs : List RC) (i j : Nat) : Prop := ∃ c, c ∈ cs ∧ (c.1 = 2 ∧ c.2.1 = (i : Int) ∧ c.2.2.1 = (j : Int))
def NS (cs : List RC) : Prop := ∀ c, c ∈ cs → c.1 = 2 → c.2.1 ≠ c.2.2.1
theorem ex_app {cs : List RC} {c : RC} {p : RC → Prop} : (∃ x, x ∈ cs ++ [c] ∧ p x) ↔ (∃ x, x ∈ cs ∧ p x) ∨ p c := by
  constructor
  · intro ⟨x, hx, hp⟩
    rcases List.mem_append.mp hx with h | h
    · exact Or.inl ⟨x, h, hp⟩
    · rw [List.mem_singleton.mp h] at hp; exact Or.inr hp
  · intro h
    rcases h with ⟨x, hx, hp⟩ | hp
    · exact ⟨x, List.mem_append.mpr (Or.inl hx), hp⟩
    · exact ⟨c, List.mem_append.mpr (Or.inr (List.mem_singleton.mpr rfl)), hp⟩
theorem NS_app {cs : List RC} {c : RC} (h : NS cs) (hc : c.1 = 2 → c.2.1 ≠ c.2.2.1) : NS (cs ++ [c]) := by
  intro x hx
  rcases List.mem_append.mp hx with q | q
  · exact h x q
  · rw [List.mem_singleton.mp q]; exact hc
/-- rows of quiet bits, of before bits, and the dear price: what the list says -/
def RB (qr br : Nat → Int32) (d : Int32) (cs : List RC) : Prop := (∀ h t : Nat, h < 4 → t < 24 → (bt (qr h) (nI t) ↔ QC cs h t)) ∧ (∀ x : Int, x ≤ 10000 → (d.toInt < x ↔ DC cs x)) ∧ (∀ i j : Nat, i < 16 → j < 16 → (bt (br i) (nI j) ↔ BC cs i j)) ∧ NS cs
abbrev RBz (z : St) (cs : List RC) : Prop := RB (gF z 53) (gF z 54) (gI z 5202) cs
theorem RBz_same {I F : List Nat} {z z1 : St} {cs : List RC} (h : RBz z cs) (s : Same I F z z1) (h1 : 5202 ∉ I) (h2 : 53 ∉ F) (h3 : 54 ∉ F) : RBz z1 cs := by
  unfold RBz
  rw [s.1 5202 h1, s.2 53 h2, s.2 54 h3]
  exact h
theorem v_X5_addQuiet (b1 b2 b3 : Int32) (z : St) (P : St → Prop) (h : Nat) (ht : TX z) (hb : b1.toInt = (h : Int)) (h4 : h < 4) (hk : ∀ z2 : St, TX z2 → Same [] [53] z z2 → (∀ k, k ≠ h → gF z2 53 k = gF z 53 k) → (∀ t : Nat, t < 24 → (bt (gF z2 53 h) (nI t) ↔ bt (gF z 53 h) (nI t) ∨ qIn b2.toInt b3.toInt (t : Int))) → P z2) : wp_X5_addQuiet_c52 b1 b2 b3 z P := by
  have c1 : b1.toNatClampNeg = h := by
    have := clampN (x := b1) (by omega)
    omega
  have hv : vp_in b1 4 := vin hb (by omega) (by omega)
  have e24 : (24 : Int32).toInt = 24 := rfl
  unfold wp_X5_addQuiet_c52
  rw [c1]
  intro K2 hK2
  have L : ∀ (n : Nat) (v1 : Int32) (z3 : St), TX z3 → Same [] [53] z z3 → (∀ k, k ≠ h → gF z3 53 k = gF z 53 k) → 0 ≤ v1.toInt → v1.toInt ≤ 24 → (∀ t : Nat, t < 24 → (bt (gF z3 53 h) (nI t) ↔ bt (gF z 53 h) (nI t) ∨ ((t : Int) < v1.toInt ∧ qIn b2.toInt b3.toInt (t : Int)))) → (24 - v1.toInt).toNat < n → K2 v1 z3 := by
    intro n
    induction n with
    | zero => intro v1 z3 _ _ _ _ _ _ q; omega
    | succ n ih =>
      intro v1 z3 t3 s3 o3 g0 g1 hb3 gm
      have cv := clampN g0
      refine hK2 v1 z3 ⟨fun c => ?_, fun c => ?_⟩
      · have c' := i_le e24 rfl c
        refine hk z3 t3 s3 o3 (fun t h24 => ?_)
        rw [hb3 t h24]
        exact ⟨fun q => q.elim Or.inl (fun q => Or.inr q.2), fun q => q.elim Or.inl (fun q => Or.inr ⟨by omega, q⟩)⟩
      · have c' := i_nle e24 rfl c
        intro K6 hK6
        have h6 : ∀ s5 : Int32, ((s5 = 1 ∧ b2.toInt ≤ v1.toInt) ∨ (s5 = 0 ∧ v1.toInt < b2.toInt)) → K6 s5 := by
          intro s5 h5
          refine hK6 s5 ?_
          intro K8 hK8
          have h8 : ∀ s7 : Int32, ((s7 = 1 ∧ v1.toInt ≤ b3.toInt) ∨ (s7 = 0 ∧ b3.toInt < v1.toInt)) → K8 s7 := by
            intro s7 h7
            refine hK8 s7 ?_
            intro K9 hK9
            have next : ∀ z10 : St, TX z10 → Same [] [53] z z10 → (∀ k, k ≠ h → gF z10 53 k = gF z 53 k) → (∀ t : Nat, t < 24 → (bt (gF z10 53 h) (nI t) ↔ bt (gF z 53 h) (nI t) ∨ ((t : Int) < v1.toInt + 1 ∧ qIn b2.toInt b3.toInt (t : Int)))) → K9 z10 := by
              intro z10 t10 s10 o10 hb10
              refine hK9 z10 (fun x11 e11 => ?_)
              have i11 : x11.toInt = v1.toInt + 1 := by rw [e11]; exact a_add rfl rfl (by omega) (by omega)
              exact ih x11 z10 t10 s10 o10 (by omega) (by omega) (by rw [i11]; exact hb10) (by omega)
            have keep : ¬ qIn b2.toInt b3.toInt v1.toInt → K9 z3 := by
              intro nq
              refine next z3 t3 s3 o3 (fun t h24 => ?_)
              rw [hb3 t h24]
              refine ⟨fun q => q.elim Or.inl (fun q => Or.inr ⟨by omega, q.2⟩), fun q => q.elim Or.inl (fun q => Or.inr ⟨?_, q.2⟩)⟩
              by_cases e : (t : Int) = v1.toInt
              · rw [e] at q; exact absurd q.2 nq
              · omega
            intro K12 hK12
            have set : qIn b2.toInt b3.toInt v1.toInt → K12 := by
              intro hq
              refine hK12 ⟨hv, hv, ?_⟩
              intro z13 e13
              refine next z13 (by rw [e13]; exact Ty_wR t3 trivial) (s3.r (by decide) e13) (fun k hk' => ?_) (fun t h24 => ?_)
              · rw [e13, gF_upd, if_neg hk']; exact o3 k hk'
              · have ev : v1 = nI v1.toNatClampNeg := nI_cl g0
                have hset : gF z13 53 h = gF z3 53 h ||| ((1 : Int32) <<< (nI v1.toNatClampNeg &&& 31)) := by rw [e13, gF_upd, if_pos rfl, ← ev]
                rw [hset, bt_set (by omega) (by omega), hb3 t h24]
                constructor
                · intro q
                  rcases q with (q | q) | q
                  · exact Or.inl q
                  · exact Or.inr ⟨by omega, q.2⟩
                  · exact Or.inr ⟨by omega, by rw [show (t : Int) = v1.toInt by omega]; exact hq⟩
                · intro q
                  rcases q with q | q
                  · exact Or.inl (Or.inl q)
                  · by_cases e : t = v1.toNatClampNeg
                    · exact Or.inr e
                    · exact Or.inl (Or.inr ⟨by omega, q.2⟩)
            refine ⟨fun cb => ⟨fun d => set ?_, fun d => ⟨fun e => keep ?_, fun e => set ?_⟩⟩, fun cb => ⟨fun d => keep ?_, fun d => ⟨fun e => keep ?_, fun e => set ?_⟩⟩⟩
            · have a := i_lt rfl rfl cb
              have b := or1 h5 d
              exact Or.inl ⟨a, Or.inl b⟩
            · have a := i_lt rfl rfl cb
              have b := or0 h5 d
              have f := or0 h7 e
              unfold qIn
              omega
            · have a := i_lt rfl rfl cb
              have f := or1 h7 e
              exact Or.inl ⟨a, Or.inr f⟩
            · have a := i_nlt rfl rfl cb
              have b := or0 h5 d
              unfold qIn
              omega
            · have a := i_nlt rfl rfl cb
              have f := or0 h7 e
              unfold qIn
              omega
            · have a := i_nlt rfl rfl cb
              have b := or1 h5 d
              have f := or1 h7 e
              exact Or.inr ⟨by omega, b, f⟩
          exact ⟨fun cc => h8 0 (Or.inr ⟨rfl, i_lt rfl rfl cc⟩), fun cc => h8 1 (Or.inl ⟨rfl, i_nlt rfl rfl cc⟩)⟩
        exact ⟨fun cc => h6 0 (Or.inr ⟨rfl, i_lt rfl rfl cc⟩), fun cc => h6 1 (Or.inl ⟨rfl, i_nlt rfl rfl cc⟩)⟩
  refine L 25 0 z ht Same.rf (fun _ _ => rfl) (by decide) (by decide) (fun t h24 => ?_) (by decide)
  have e0 : (0 : Int32).toInt = 0 := rfl
  exact ⟨Or.inl, fun q => q.elim id (fun q => by omega)⟩
def OUC (tp : Nat → Int32) (L : Nat) (o : Sum Nat ((Nat × Nat) × RC)) (r : Int32) (z z2 : St) : Prop := match o with
  | Sum.inl f => r = 0 ∧ (gI z2 3702).toInt = (f : Int)
  | Sum.inr x => r = 1 ∧ SX z2 tp L x.1 ∧ TK tp L x.1 ∧ ∀ cs, RBz z cs → RBz z2 (cs ++ [x.2])
theorem RB_q {z z2 : St} {cs : List RC} {a b c : Int} {h : Nat} (hr : RBz z cs) (ha : a = (h : Int)) (s : Same [] [53] z z2) (o : ∀ k, k ≠ h → gF z2 53 k = gF z 53 k) (q : ∀ t : Nat, t < 24 → (bt (gF z2 53 h) (nI t) ↔ bt (gF z 53 h) (nI t) ∨ qIn b c (t : Int))) : RBz z2 (cs ++ [(0, a, b, c)]) := by
  obtain ⟨r1, r2, r3, r4⟩ := hr
  refine ⟨fun h' t hh ht => ?_, fun x hx => ?_, fun i j hi hj => ?_, NS_app r4 (fun e => absurd (show (0 : Int) = 2 from e) (by decide))⟩
  · unfold QC
    rw [ex_app]
    by_cases e : h' = h
    · rw [e, q t ht, r1 h t (by omega) ht]
      exact ⟨fun w => w.elim Or.inl (fun w => Or.inr ⟨rfl, ha, w⟩), fun w => w.elim Or.inl (fun w => Or.inr w.2.2)⟩
    · rw [o h' e, r1 h' t hh ht]
      refine ⟨Or.inl, fun w => w.elim id (fun w => ?_)⟩
      have := w.2.1
      have e2 : a = (h' : Int) := this
      omega
  · unfold DC
    rw [ex_app, s.1 5202 (by decide), r2 x hx]
    exact ⟨Or.inl, fun w => w.elim id (fun w => absurd (show (0 : Int) = 1 from w.1) (by decide))⟩
  · unfold BC
    rw [ex_app, s.2 54 (by decide), r3 i j hi hj]
    exact ⟨Or.inl, fun w => w.elim id (fun w => absurd (show (0 : Int) = 2 from w.1) (by decide))⟩
theorem RB_d {z z2 : St} {cs : List RC} {a : Int} {v : Int32} (hr : RBz z cs) (hv : v.toInt = a) (h0 : a ≤ 10000) (e : z2 = wI z 5202 (if v < gI z 5202 then v else gI z 5202)) : RBz z2 (cs ++ [(1, a, 0, 0)]) := by
  obtain ⟨r1, r2, r3, r4⟩ := hr
  have s : Same [5202] [] z z2 := Same.rf.i (by decide) e
  have g : gI z2 5202 = if v < gI z 5202 then v else gI z 5202 := by rw [e]; rfl
  refine ⟨fun h' t hh ht => ?_, fun x hx => ?_, fun i j hi hj => ?_, NS_app r4 (fun e => absurd (show (1 : Int) = 2 from e) (by decide))⟩
  · unfold QC
    rw [ex_app, s.2 53 (by decide), r1 h' t hh ht]
    exact ⟨Or.inl, fun w => w.elim id (fun w => absurd (show (1 : Int) = 0 from w.1) (by decide))⟩
  · unfold DC
    rw [ex_app]
    have r2' := r2 x hx
    unfold DC at r2'
    rw [← r2', g]
    by_cases c : v < gI z 5202
    · have c' := i_lt rfl rfl c
      rw [if_pos c]
      refine ⟨fun w => Or.inr ⟨rfl, ?_⟩, fun w => w.elim (fun w => by omega) (fun w => ?_)⟩
      · show a < x
        omega
      · have : a < x := w.2
        omega
    · have c' := i_nlt rfl rfl c
      rw [if_neg c]
      refine ⟨Or.inl, fun w => w.elim id (fun w => ?_)⟩
      have : a < x := w.2
      omega
  · unfold BC
    rw [ex_app, s.2 54 (by decide), r3 i j hi hj]
    exact ⟨Or.inl, fun w => w.elim id (fun w => absurd (show (1 : Int) = 2 from w.1) (by decide))⟩
theorem RB_b {z z2 : St} {cs : List RC} {a b : Int} {i0 j0 : Nat} {r : Int32} (hr : RBz z cs) (ha : a = (i0 : Int)) (hb : b = (j0 : Int)) (hi0 : i0 < 16) (hj0 : j0 < 16) (hne : a ≠ b) (er : r = nI j0) (e : z2 = wR z 54 (upd (gF z 54) i0 (gF z 54 i0 ||| ((1 : Int32) <<< (r &&& 31))))) : RBz z2 (cs ++ [(2, a, b, 0)]) := by
  obtain ⟨r1, r2, r3, r4⟩ := hr
  have s : Same [] [54] z z2 := Same.rf.r (by decide) e
  refine ⟨fun h' t hh ht => ?_, fun x hx => ?_, fun i j hi hj => ?_, NS_app r4 (fun _ => hne)⟩
  · unfold QC
    rw [ex_app, s.2 53 (by decide), r1 h' t hh ht]
    exact ⟨Or.inl, fun w => w.elim id (fun w => absurd (show (2 : Int) = 0 from w.1) (by decide))⟩
  · unfold DC
    rw [ex_app, s.1 5202 (by decide), r2 x hx]
    exact ⟨Or.inl, fun w => w.elim id (fun w => absurd (show (2 : Int) = 1 from w.1) (by decide))⟩
  · unfold BC
    rw [ex_app, e, gF_upd]
    have r3' := r3 i j hi hj
    unfold BC at r3'
    rw [← r3']
    by_cases c : i = i0
    · rw [if_pos c, er, bt_set (by omega) (by omega), c]
      refine ⟨fun w => w.elim Or.inl (fun w => Or.inr ⟨rfl, ha, by rw [w]; exact hb⟩), fun w => w.elim Or.inl (fun w => Or.inr ?_)⟩
      have : b = (j : Int) := w.2.2
      omega
    · rw [if_neg c]
      refine ⟨Or.inl, fun w => w.elim id (fun w => ?_)⟩
      have : a = (i : Int) := w.2.1
      omega
theorem w_X4_readQuiet (z : St) (P : Int32 → St → Prop) (ht : TX z) (tp : Nat → Int32) (L : Nat) (t : Nat × Nat) (hs : SX z tp L t) (tk : TK tp L t) (hk : ∀ (r : Int32) (z2 : St), TX z2 → Same RRI RRF z z2 → (r = 0 ∨ r = 1) → OUC tp L (pQ tp L t) r z z2 → P r z2) : wp_X4_readQuiet_52 z P := by
  unfold wp_X4_readQuiet_52
  refine v_X4_takeNumber _ z _ ht tp L t hs tk 3 rfl (fun ok1 r2 z1 hr2 t1 s1 x1 => ?_) (fun no1 => ?_)
  · have ok1 : okN tp L t 3 := ok1
    have s1' : Same RRI RRF z z1 := Same.tr (z1 := z) Same.rf s1 (by decide) (by decide)
    have k1 := TK_n1 tk
    refine ⟨fun c => absurd c (m1_ne hr2 ok1.1), fun _ => ?_⟩
    refine v_X4_take_s3 z1 _ t1 tp L _ x1 k1 (fun w3 z4 t4 s4 x4 => ?_) (fun w3 => ?_)
    · have s4' : Same RRI RRF z z4 := s1'.tr s4 (by decide) (by decide)
      have k4 := TK_n1 k1
      refine ⟨fun _ => ?_, fun c => absurd c (by decide)⟩
      refine v_X4_takeNumber _ z4 _ t4 tp L _ x4 k4 23 rfl (fun ok2 r8 z7 hr8 t7 s7 x7 => ?_) (fun no2 => ?_)
      · have ok2 : okN tp L (n1 tp L (n1 tp L t)) 23 := ok2
        have s7' : Same RRI RRF z z7 := s4'.tr s7 (by decide) (by decide)
        have k7 := TK_n1 k4
        refine ⟨fun c => absurd c (m1_ne hr8 ok2.1), fun _ => ?_⟩
        refine v_X4_take_s4 z7 _ t7 tp L _ x7 k7 (fun w4 z10 t10 s10 x10 => ?_) (fun w4 => ?_)
        · have s10' : Same RRI RRF z z10 := s7'.tr s10 (by decide) (by decide)
          have k10 := TK_n1 k7
          refine ⟨fun _ => ?_, fun c => absurd c (by decide)⟩
          refine v_X4_takeNumber _ z10 _ t10 tp L _ x10 k10 23 rfl (fun ok3 r14 z13 hr14 t13 s13 x13 => ?_) (fun no3 => ?_)
          · have ok3 : okN tp L (n1 tp L (n1 tp L (n1 tp L (n1 tp L t)))) 23 := ok3
            have s13' : Same RRI RRF z z13 := s10'.tr s13 (by decide) (by decide)
            refine ⟨fun _ => ?_, fun c => absurd c (m1_ne hr14 ok3.1)⟩
            have n13 : Same [3702, 3703] [] z z13 := (((s1.tr s4 (by decide) (by decide)).tr s7 (by decide) (by decide)).tr s10 (by decide) (by decide)).tr s13 (by decide) (by decide)
            have hh := nC_hi ok1
            have hc : nC tp L t = ((nC tp L t).toNat : Int) := by omega
            refine v_X5_addQuiet r2 r8 r14 z13 _ (nC tp L t).toNat t13 (hr2.trans hc) (by omega) (fun z16 t16 s16 o16 q16 => ?_)
            rw [hr8, hr14] at q16
            refine hk 1 z16 t16 (s13'.tr s16 (by decide) (by decide)) (Or.inr rfl) ?_
            unfold pQ
            rw [pIf_t ok1, pIf_t w3, pIf_t ok2, pIf_t w4, pIf_t ok3]
            exact ⟨rfl, SX_same x13 s16 (by decide) (by decide) (by decide) (by decide), TK_n1 k10, fun cs hcs => RB_q (RBz_same hcs n13 (by decide) (by decide) (by decide)) hc s16 o16 q16⟩
          · refine ⟨fun c => absurd rfl c, fun _ => hk 0 z10 t10 s10' (Or.inl rfl) ?_⟩
            unfold pQ
            rw [pIf_t ok1, pIf_t w3, pIf_t ok2, pIf_t w4, pIf_f no3]
            exact ⟨rfl, x10.2.2.1⟩
        · refine ⟨fun c => absurd rfl c, fun _ => hk 0 z7 t7 s7' (Or.inl rfl) ?_⟩
          unfold pQ
          rw [pIf_t ok1, pIf_t w3, pIf_t ok2, pIf_f w4]
          exact ⟨rfl, x7.2.2.1⟩
      · refine ⟨fun _ => hk 0 z4 t4 s4' (Or.inl rfl) ?_, fun c => absurd rfl c⟩
        unfold pQ
        rw [pIf_t ok1, pIf_t w3, pIf_f no2]
        exact ⟨rfl, x4.2.2.1⟩
    · refine ⟨fun c => absurd rfl c, fun _ => hk 0 z1 t1 s1' (Or.inl rfl) ?_⟩
      unfold pQ
      rw [pIf_t ok1, pIf_f w3]
      exact ⟨rfl, x1.2.2.1⟩
  · refine ⟨fun _ => hk 0 z ht Same.rf (Or.inl rfl) ?_, fun c => absurd rfl c⟩
    unfold pQ
    rw [pIf_f no1]
    exact ⟨rfl, hs.2.2.1⟩
theorem w_X4_readDear (z : St) (P : Int32 → St → Prop) (ht : TX z) (tp : Nat → Int32) (L : Nat) (t : Nat × Nat) (hs : SX z tp L t) (tk : TK tp L t) (hk : ∀ (r : Int32) (z2 : St), TX z2 → Same RRI RRF z z2 → (r = 0 ∨ r = 1) → OUC tp L (pD tp L t) r z z2 → P r z2) : wp_X4_readDear_52 z P := by
  unfold wp_X4_readDear_52
  refine v_X4_takeNumber _ z _ ht tp L t hs tk 10000 rfl (fun ok1 r2 z1 hr2 t1 s1 x1 => ?_) (fun no1 => ?_)
  · have ok1 : okN tp L t 10000 := ok1
    have s1' : Same RRI RRF z z1 := Same.tr (z1 := z) Same.rf s1 (by decide) (by decide)
    refine ⟨fun _ => ?_, fun c => absurd c (m1_ne hr2 ok1.1)⟩
    intro z4 e4
    refine hk 1 z4 (by rw [e4]; exact Ty_wI t1 trivial) (s1'.i (by decide) e4) (Or.inr rfl) ?_
    unfold pD
    rw [pIf_t ok1]
    exact ⟨rfl, SX_same x1 (Same.rf.i (I := [5202]) (F := []) (by decide) e4) (by decide) (by decide) (by decide) (by decide), TK_n1 tk, fun cs hcs => RB_d (RBz_same hcs s1 (by decide) (by decide) (by decide)) hr2 (nC_hi ok1).2 e4⟩
  · refine ⟨fun c => absurd rfl c, fun _ => hk 0 z ht Same.rf (Or.inl rfl) ?_⟩
    unfold pD
    rw [pIf_f no1]
    exact ⟨rfl, hs.2.2.1⟩
theorem w_X4_readBefore (z : St) (P : Int32 → St → Prop) (ht : TX z) (tp : Nat → Int32) (L : Nat) (t : Nat × Nat) (hs : SX z tp L t) (tk : TK tp L t) (hk : ∀ (r : Int32) (z2 : St), TX z2 → Same RRI RRF z z2 → (r = 0 ∨ r = 1) → OUC tp L (pB tp L t) r z z2 → P r z2) : wp_X4_readBefore_52 z P := by
  unfold wp_X4_readBefore_52
  refine v_X4_takeNumber _ z _ ht tp L t hs tk 15 rfl (fun ok1 r2 z1 hr2 t1 s1 x1 => ?_) (fun no1 => ?_)
  · have ok1 : okN tp L t 15 := ok1
    have s1' : Same RRI RRF z z1 := Same.tr (z1 := z) Same.rf s1 (by decide) (by decide)
    have k1 := TK_n1 tk
    refine ⟨fun c => absurd c (m1_ne hr2 ok1.1), fun _ => ?_⟩
    refine v_X4_take_s5 z1 _ t1 tp L _ x1 k1 (fun w5 z4 t4 s4 x4 => ?_) (fun w5 => ?_)
    · have s4' : Same RRI RRF z z4 := s1'.tr s4 (by decide) (by decide)
      have k4 := TK_n1 k1
      refine ⟨fun c => absurd c (by decide), fun _ => ?_⟩
      refine v_X4_number z4 _ t4 tp L _ x4 k4 (fun r8 hr8 => ?_)
      refine ⟨fun c8 => ?_, fun c8 => ?_⟩
      · have hne : nC tp L (n1 tp L (n1 tp L t)) ≠ nC tp L t := fun e => c8 (toI_inj (by rw [hr8, hr2, e]))
        refine v_X4_takeNumber _ z4 _ t4 tp L _ x4 k4 15 rfl (fun ok2 r11 z10 hr11 t10 s10 x10 => ?_) (fun no2 => ?_)
        · have ok2 : okN tp L (n1 tp L (n1 tp L t)) 15 := ok2
          have hv : vp_in r2 16 := vin hr2 ok1.1 (by have := nC_hi ok1; omega)
          refine ⟨fun _ => ⟨hv, hv, ?_⟩, fun c => absurd c (m1_ne hr11 ok2.1)⟩
          have n10 : Same [3702, 3703] [] z z10 := (s1.tr s4 (by decide) (by decide)).tr s10 (by decide) (by decide)
          have h1 := nC_hi ok1
          have h2 := nC_hi ok2
          have cr2 : r2.toNatClampNeg = (nC tp L t).toNat := by
            have := clampN (x := r2) (by omega)
            omega
          have er11 : r11 = nI (nC tp L (n1 tp L (n1 tp L t))).toNat := toI_inj (by rw [hr11, nI_toInt (by omega)]; omega)
          rw [cr2]
          intro z13 e13
          refine hk 1 z13 (by rw [e13]; exact Ty_wR t10 trivial) ((s4'.tr s10 (by decide) (by decide)).r (by decide) e13) (Or.inr rfl) ?_
          unfold pB
          rw [pIf_t ok1, pIf_t w5, pIf_t ⟨ok2, hne⟩]
          exact ⟨rfl, SX_same x10 (Same.rf.r (I := []) (F := [54]) (by decide) e13) (by decide) (by decide) (by decide) (by decide), TK_n1 k4, fun cs hcs => RB_b (i0 := (nC tp L t).toNat) (j0 := (nC tp L (n1 tp L (n1 tp L t))).toNat) (RBz_same hcs n10 (by decide) (by decide) (by decide)) (by omega) (by omega) (by omega) (by omega) (fun q => hne q.symm) er11 e13⟩
        · refine ⟨fun c => absurd rfl c, fun _ => hk 0 z4 t4 s4' (Or.inl rfl) ?_⟩
          unfold pB
          rw [pIf_t ok1, pIf_t w5, pIf_f (fun q => no2 q.1)]
          exact ⟨rfl, x4.2.2.1⟩
      · refine hk 0 z4 t4 s4' (Or.inl rfl) ?_
        unfold pB
        rw [pIf_t ok1, pIf_t w5, pIf_f (fun q => q.2 (by rw [← hr8, ← hr2, c8]))]
        exact ⟨rfl, x4.2.2.1⟩
    · refine ⟨fun _ => hk 0 z1 t1 s1' (Or.inl rfl) ?_, fun c => absurd rfl c⟩
      unfold pB
      rw [pIf_t ok1, pIf_f w5]
      exact ⟨rfl, x1.2.2.1⟩
  · refine ⟨fun _ => hk 0 z ht Same.rf (Or.inl rfl) ?_, fun c => absurd rfl c⟩
    unfold pB
    rw [pIf_f no1]
    exact ⟨rfl, hs.2.2.1⟩
theorem OUC_tr {tp : Nat → Int32} {L : Nat} {o : Sum Nat ((Nat × Nat) × RC)} {r : Int32} {z z1 z2 : St} (s : Same [3702, 3703] [] z z1) (h : OUC tp L o r z1 z2) : OUC tp L o r z z2 := by
  rcases o with f | x
  · exact h
  · exact ⟨h.1, h.2.1, h.2.2.1, fun cs hcs => h.2.2.2 cs (RBz_same hcs s (by decide) (by decide) (by decide))⟩
theorem w_X4_readRule (z : St) (P : Int32 → St → Prop) (ht : TX z) (tp : Nat → Int32) (L : Nat) (t : Nat × Nat) (hs : SX z tp L t) (tk : TK tp L t) (hk : ∀ (r : Int32) (z2 : St), TX z2 → Same RRI RRF z z2 → OUC tp L (pR tp L t) r z z2 → P r z2) : wp_X4_readRule_52 z P := by
  have k1 := TK_n1 tk
  unfold wp_X4_readRule_52
  refine v_X4_take_s0 z _ ht tp L t hs tk (fun w0 z1 t1 s1 x1 => ?_) (fun w0 => ?_)
  · refine ⟨fun c => absurd c (by decide), fun _ => ?_⟩
    refine w_X4_readQuiet z1 _ t1 tp L _ x1 k1 (fun r z2 t2 s2 h01 o2 => ⟨h01, ?_⟩)
    refine hk r z2 t2 ((Same.tr (z1 := z) Same.rf s1 (by decide) (by decide)).tr s2 (by decide) (by decide)) ?_
    unfold pR
    rw [pIf_t w0]; exact OUC_tr s1 o2
  · refine ⟨fun _ => ?_, fun c => absurd rfl c⟩
    refine v_X4_take_s1 z _ ht tp L t hs tk (fun w1 z1 t1 s1 x1 => ?_) (fun w1 => ?_)
    · refine ⟨fun c => absurd c (by decide), fun _ => ?_⟩
      refine w_X4_readDear z1 _ t1 tp L _ x1 k1 (fun r z2 t2 s2 h01 o2 => ⟨h01, ?_⟩)
      refine hk r z2 t2 ((Same.tr (z1 := z) Same.rf s1 (by decide) (by decide)).tr s2 (by decide) (by decide)) ?_
      unfold pR
      rw [pIf_f w0, pIf_t w1]; exact OUC_tr s1 o2
    · refine ⟨fun _ => ?_, fun c => absurd rfl c⟩
      refine v_X4_take_s2 z _ ht tp L t hs tk (fun w2 z1 t1 s1 x1 => ?_) (fun w2 => ?_)
      · refine ⟨fun c => absurd c (by decide), fun _ => ?_⟩
        refine w_X4_readBefore z1 _ t1 tp L _ x1 k1 (fun r z2 t2 s2 h01 o2 => ?_)
        have s2' : Same RRI RRF z z2 := (Same.tr (z1 := z) Same.rf s1 (by decide) (by decide)).tr s2 (by decide) (by decide)
        have hR : pR tp L t = pB tp L (n1 tp L t) := by unfold pR; rw [pIf_f w0, pIf_f w1, pIf_t w2]
        refine ⟨fun c => ?_, fun c => ?_⟩
        · refine hk 0 z2 t2 s2' ?_
          rw [hR]; rw [c] at o2; exact OUC_tr s1 o2
        · refine hk 1 z2 t2 s2' ?_
          rw [hR]
          rcases h01 with q | q
          · exact absurd q c
          · rw [q] at o2; exact OUC_tr s1 o2
      · refine ⟨fun _ => hk 0 z ht Same.rf ?_, fun c => absurd rfl c⟩
        unfold pR
        rw [pIf_f w0, pIf_f w1, pIf_f w2]
        exact ⟨rfl, hs.2.2.1⟩
theorem v_fill_53 (z : St) (P : St → Prop) (ht : TX z) (hk : ∀ (z2 : St), TX z2 → Same [] [53] z z2 → (∀ x : Nat, x < 4 → gF z2 53 x = 0) → P z2) : wp_J7_fill_53178_53 0 z P := by
  have e00 : (0 : Int32).toInt = 0 := rfl
  have e05 : (4 : Int32).toInt = 4 := rfl
  unfold wp_J7_fill_53178_53
  intro K3 hK3
  have L : ∀ (n : Nat) (v1 : Int32) (z4 : St), TX z4 → Same [] [53] z z4 → 0 ≤ v1.toInt → v1.toInt ≤ 4 → (∀ x : Nat, (x : Int) < v1.toInt → gF z4 53 x = 0) → (4 - v1.toInt).toNat < n → K3 v1 4 z4 := by
    intro n
    induction n with
    | zero => intro v1 z4 _ _ _ _ _ q; omega
    | succ n ih =>
      intro v1 z4 t4 s4 g0 g1 gz gm
      refine hK3 v1 4 z4 ⟨fun c => hk z4 t4 s4 (fun x hx => gz x (by have := i_le (p := 4) rfl rfl c; omega)), fun c => ?_⟩
      have c' := i_nle (p := 4) rfl rfl c
      have cv := clampN g0
      refine ⟨vin rfl g0 (by omega), ?_⟩
      intro z6 e6 x7 e7
      have i7 : x7.toInt = v1.toInt + 1 := by rw [e7]; exact a_add rfl rfl (by omega) (by omega)
      refine ih x7 z6 (by rw [e6]; exact Ty_wR t4 trivial) (s4.r (by decide) e6) (by omega) (by omega) (fun x hx => ?_) (by omega)
      rw [e6, gF_upd]
      by_cases e : x = v1.toNatClampNeg
      · rw [if_pos e]
      · rw [if_neg e]; exact gz x (by omega)
  exact L 5 0 z ht Same.rf (by omega) (by omega) (fun x hx => by omega) (by omega)
theorem v_fill_54 (z : St) (P : St → Prop) (ht : TX z) (hk : ∀ (z2 : St), TX z2 → Same [] [54] z z2 → (∀ x : Nat, x < 16 → gF z2 54 x = 0) → P z2) : wp_J7_fill_53178_54 0 z P := by
  have e00 : (0 : Int32).toInt = 0 := rfl
  have e05 : (16 : Int32).toInt = 16 := rfl
  unfold wp_J7_fill_53178_54
  intro K3 hK3
  have L : ∀ (n : Nat) (v1 : Int32) (z4 : St), TX z4 → Same [] [54] z z4 → 0 ≤ v1.toInt → v1.toInt ≤ 16 → (∀ x : Nat, (x : Int) < v1.toInt → gF z4 54 x = 0) → (16 - v1.toInt).toNat < n → K3 v1 16 z4 := by
    intro n
    induction n with
    | zero => intro v1 z4 _ _ _ _ _ q; omega
    | succ n ih =>
      intro v1 z4 t4 s4 g0 g1 gz gm
      refine hK3 v1 16 z4 ⟨fun c => hk z4 t4 s4 (fun x hx => gz x (by have := i_le (p := 16) rfl rfl c; omega)), fun c => ?_⟩
      have c' := i_nle (p := 16) rfl rfl c
      have cv := clampN g0
      refine ⟨vin rfl g0 (by omega), ?_⟩
      intro z6 e6 x7 e7
      have i7 : x7.toInt = v1.toInt + 1 := by rw [e7]; exact a_add rfl rfl (by omega) (by omega)
      refine ih x7 z6 (by rw [e6]; exact Ty_wR t4 trivial) (s4.r (by decide) e6) (by omega) (by omega) (fun x hx => ?_) (by omega)
      rw [e6, gF_upd]
      by_cases e : x = v1.toNatClampNeg
      · rw [if_pos e]
      · rw [if_neg e]; exact gz x (by omega)
  exact L 17 0 z ht Same.rf (by omega) (by omega) (fun x hx => by omega) (by omega)
def OU3 (o : Sum Nat (List RC)) (r : Int32) (z2 : St) : Prop := match o with
  | Sum.inl f => r = 0 ∧ (gI z2 3702).toInt = (f : Int)
  | Sum.inr cs => r = 1 ∧ (gI z2 5203).toInt = (cs.length : Int) ∧ RBz z2 cs
def REL2 (tp : Nat → Int32) (L : Nat) (pre : List RC) (o : Sum Nat (List RC)) : Prop := match o with
  | Sum.inl f => pA tp L = Sum.inl f
  | Sum.inr cs => pA tp L = Sum.inr (pre ++ cs)
theorem REL2_next {tp : Nat → Int32} {L n : Nat} {pre : List RC} {t : Nat × Nat} {x : (Nat × Nat) × RC} (h : pR tp L t = Sum.inr x) (he : ¬ L ≤ x.1.1) (hs : semi tp x.1) (r : REL2 tp L pre (pL tp L (n + 1) t)) : REL2 tp L (pre ++ [x.2]) (pL tp L n (n1 tp L x.1)) := by
  rw [pL_next h he hs] at r
  rcases hq : pL tp L n (n1 tp L x.1) with f | cs
  · rw [hq] at r; exact r
  · rw [hq] at r
    have r : pA tp L = Sum.inr (pre ++ (x.2 :: cs)) := r
    show pA tp L = Sum.inr (pre ++ [x.2] ++ cs)
    rw [r, List.append_assoc]; rfl
theorem w_X4_read (z : St) (P : Int32 → St → Prop) (ht : TX z) (tp : Nat → Int32) (L : Nat) (h38 : gF z 38 = tp) (hL : (gI z 3701).toInt = (L : Int)) (hk : ∀ (r : Int32) (z2 : St), TX z2 → Same RDI RRF z z2 → OU3 (pA tp L) r z2 → P r z2) : wp_X4_read_52 z P := by
  have f1 : 0 ≤ (gI z 3701).toInt ∧ (gI z 3701).toInt ≤ 300 := ht.1 3701
  have e20 : (20 : Int32).toInt = 20 := rfl
  have e01 : (1 : Int32).toInt = 1 := rfl
  unfold wp_X4_read_52 wp_X5_wipe_c52
  refine v_fill_53 _ _ ht (fun za ta sa ga => ?_)
  refine v_fill_54 _ _ ta (fun zb tb sb gb4 => ?_)
  intro zc ec zd ed
  have td : TX zd := by rw [ed]; exact Ty_wI (by rw [ec]; exact Ty_wI tb trivial) trivial
  have sd : Same RDI RRF z zd := (((Same.tr (z1 := z) Same.rf sa (by decide) (by decide)).tr sb (by decide) (by decide)).i (by decide) ec).i (by decide) ed
  have n0 : (gI zd 5203).toInt = 0 := by rw [ed]; rfl
  have rbd : RBz zd [] := by
    have e53 : gF zd 53 = gF za 53 := by rw [ed, ec]; exact sb.2 53 (by decide)
    have e54 : gF zd 54 = gF zb 54 := by rw [ed, ec]; rfl
    have e52 : gI zd 5202 = 10000 := by rw [ed, ec]; rfl
    refine ⟨fun h t hh _ => ?_, fun x hx => ?_, fun i j hi _ => ?_, fun c hc => absurd hc List.not_mem_nil⟩
    · rw [e53, ga h hh]
      exact ⟨fun q => absurd q bt_no, fun ⟨c, hc, _⟩ => absurd hc List.not_mem_nil⟩
    · rw [e52, show (10000 : Int32).toInt = 10000 from rfl]
      exact ⟨fun q => by omega, fun ⟨c, hc, _⟩ => absurd hc List.not_mem_nil⟩
    · rw [e54, gb4 i hi]
      exact ⟨fun q => absurd q bt_no, fun ⟨c, hc, _⟩ => absurd hc List.not_mem_nil⟩
  intro z3 e3
  have t3 : TX z3 := by rw [e3]; exact Ty_wI td (show 0 ≤ (0 : Int32).toInt ∧ (0 : Int32).toInt ≤ 300 by decide)
  have s3 : Same RDI RRF z z3 := sd.i (by decide) e3
  have n3 : (gI z3 5203).toInt = 0 := by rw [e3]; exact n0
  have rb3 : RBz z3 [] := RBz_same rbd (Same.rf.i (I := [3703]) (F := []) (by decide) e3) (by decide) (by decide) (by decide)
  refine v_X4_next z3 _ t3 tp L 0 ((s3.2 38 (by decide)).trans h38) ((s3.fi 3701 (by decide)).trans hL) (by rw [e3]; rfl) (Nat.zero_le _) (fun z4 t4 s4 x4 => ?_)
  have s4' : Same RDI RRF z z4 := s3.tr s4 (by decide) (by decide)
  have n4 : (gI z4 5203).toInt = 0 := (s4.fi 5203 (by decide)).trans n3
  have rb4 : RBz z4 [] := RBz_same rb3 s4 (by decide) (by decide) (by decide)
  have k4 := TK_nx tp L 0 (Nat.zero_le _)
  have x4' := x4
  obtain ⟨_, y1, y2, _⟩ := x4'
  refine ⟨fun c => ?_, fun c => ?_⟩
  · have c' := i_lt rfl rfl c
    have hA : pA tp L = pL tp L 20 (nx tp L 0) := by unfold pA; rw [pIf_f (by omega)]
    intro K8 hK8
    have LL : ∀ (n : Nat) (v7 : Int32) (z9 : St) (t : Nat × Nat) (pre : List RC), TX z9 → Same RDI RRF z z9 → SX z9 tp L t → TK tp L t → v7.toInt + n = 20 → (gI z9 5203).toInt = v7.toInt → 0 ≤ v7.toInt → v7.toInt = (pre.length : Int) → RBz z9 pre → REL2 tp L pre (pL tp L n t) → K8 v7 z9 := by
      intro n
      induction n with
      | zero =>
        intro v7 z9 t pre t9 s9 x9 k9 hn h5 g0 hpl rb9 hr
        refine hK8 v7 z9 ⟨fun _ => ?_, fun cc => absurd (i_nle e20 rfl cc) (by omega)⟩
        refine hk 0 z9 t9 s9 ?_
        have hr : pA tp L = Sum.inl t.1 := hr
        rw [hr]; exact ⟨rfl, x9.2.2.1⟩
      | succ n ih =>
        intro v7 z9 t pre t9 s9 x9 k9 hn h5 g0 hpl rb9 hr
        have cv := clampN g0
        refine hK8 v7 z9 ⟨fun cc => absurd (i_le e20 rfl cc) (by omega), fun _ => ?_⟩
        refine w_X4_readRule z9 _ t9 tp L t x9 k9 (fun r12 z11 t11 s11 o11 => ?_)
        have s11' : Same RDI RRF z z11 := s9.tr s11 (by decide) (by decide)
        have h511 : (gI z11 5203).toInt = v7.toInt := (s11.fi 5203 (by decide)).trans h5
        rcases hp : pR tp L t with f | x
        · rw [hp] at o11
          have o11 : r12 = 0 ∧ (gI z11 3702).toInt = (f : Int) := o11
          rw [pL_inl hp] at hr
          have hr : pA tp L = Sum.inl f := hr
          refine ⟨fun q => absurd o11.1 q, fun _ => hk 0 z11 t11 s11' ?_⟩
          rw [hr]; exact ⟨rfl, o11.2⟩
        · rw [hp] at o11
          have o11 : r12 = 1 ∧ SX z11 tp L x.1 ∧ TK tp L x.1 ∧ ∀ cs, RBz z9 cs → RBz z11 (cs ++ [x.2]) := o11
          obtain ⟨o1, x11, k11, c11⟩ := o11
          refine ⟨fun _ => ?_, fun q => absurd q (by rw [o1]; decide)⟩
          intro z14 e14
          have i14 : (gI z11 5203 + (1 : Int32)).toInt = v7.toInt + 1 := a_add h511 e01 (by omega) (by omega)
          have t14 : TX z14 := by rw [e14]; exact Ty_wI t11 trivial
          have s14 : Same RDI RRF z z14 := s11'.i (by decide) e14
          have x14 : SX z14 tp L x.1 := SX_same x11 (Same.rf.i (I := [5203]) (F := []) (by decide) e14) (by decide) (by decide) (by decide) (by decide)
          have h514 : (gI z14 5203).toInt = v7.toInt + 1 := by rw [e14]; exact i14
          have rb14 : RBz z14 (pre ++ [x.2]) := RBz_same (c11 pre rb9) (Same.rf.i (I := [5203]) (F := []) (by decide) e14) (by decide) (by decide) (by decide)
          have x14' := x14
          obtain ⟨_, w1, w2, _⟩ := x14'
          refine ⟨fun c5 => ?_, fun c5 => ?_⟩
          · have c5' := i_lt rfl rfl c5
            refine v_X4_take_s6 z14 _ t14 tp L _ x14 k11 (fun w6 z16 t16 s16 x16 => ?_) (fun w6 => ?_)
            · refine ⟨fun _ => ?_, fun q => absurd q (by decide)⟩
              intro x19 e19
              have i19 : x19.toInt = v7.toInt + 1 := by rw [e19]; exact a_add rfl e01 (by omega) (by omega)
              have c19 := clampN (x := x19) (by omega)
              refine ih x19 z16 (n1 tp L x.1) (pre ++ [x.2]) t16 (s14.tr s16 (by decide) (by decide)) x16 (TK_n1 k11) (by omega) ?_ (by omega) ?_ (RBz_same rb14 s16 (by decide) (by decide) (by decide)) (REL2_next hp (by omega) w6 hr)
              · rw [s16.fi 5203 (by decide), h514]; omega
              · rw [List.length_append]
                show x19.toInt = ((pre.length + 1 : Nat) : Int)
                omega
            · refine ⟨fun q => absurd rfl q, fun _ => hk 0 z14 t14 s14 ?_⟩
              rw [pL_bad hp (by omega) w6] at hr
              have hr : pA tp L = Sum.inl x.1.1 := hr
              rw [hr]; exact ⟨rfl, w2⟩
          · have c5' := i_nlt rfl rfl c5
            refine hk 1 z14 t14 s14 ?_
            rw [pL_end hp (by omega)] at hr
            have g2 : pA tp L = Sum.inr (pre ++ [x.2]) := hr
            rw [g2]
            refine ⟨rfl, ?_, rb14⟩
            rw [h514, List.length_append]
            show v7.toInt + 1 = ((pre.length + 1 : Nat) : Int)
            omega
    refine LL 20 0 z4 (nx tp L 0) [] t4 s4' x4 k4 (by decide) (by rw [n4]; rfl) (by decide) rfl rb4 ?_
    rw [← hA]
    rcases hq : pA tp L with f | cs
    · exact hq
    · exact hq
  · have c' := i_nlt rfl rfl c
    refine hk 1 z4 t4 s4' ?_
    have hA : pA tp L = Sum.inr [] := by unfold pA; rw [pIf_t (by omega)]
    rw [hA]
    exact ⟨rfl, n4, rb4⟩
def OUY (o : Sum Nat (List RC)) (r : Int32) (ft : Int32) (z z2 : St) : Prop := match o with
  | Sum.inl f => r.toInt = -6 ∧ ft.toInt = (f : Int) ∧ gI z2 3402 = gI z 3402 ∧ gI z2 3403 = gI z 3403 ∧ gF z2 35 = gF z 35 ∧ gF z2 36 = gF z 36
  | Sum.inr cs => r.toInt = (cs.length : Int) ∧ ft.toInt = -1 ∧ (gI z2 3403).toInt = (cs.length : Int) ∧ RB (gF z2 35) (gF z2 36) (gI z2 3402) cs
theorem w_X8_rules (a : Nat → Nat) (z : St) (P : Int32 → (Nat → Nat) × St → Prop) (ht : TX z) (tp : Nat → Int32) (L : Nat) (h38 : gF z 38 = tp) (hL : (gI z 3701).toInt = (L : Int)) (hk : ∀ (r : Int32) (u : (Nat → Nat) × St), TX u.2 → Same RUI RUF z u.2 → u.1 0 = a 0 → (gI u.2 3701).toInt = 0 → OUY (pA tp L) r (gI u.2 7) z u.2 → P r u) : wp_X8_rules a z P := by
  unfold wp_X8_rules
  refine w_X4_read z _ ht tp L h38 hL (fun r2 z1 t1 s1 o1 => ?_)
  have s1' : Same RUI RUF z z1 := Same.tr (z1 := z) Same.rf s1 (by decide) (by decide)
  intro K4 hK4
  have h4 : ∀ s3 : Int32, (r2 = 0 → s3 = gI z1 3702) → (r2 ≠ 0 → s3 = -1) → K4 s3 := by
    intro s3 c0 c1
    refine hK4 s3 ?_
    intro z5 e5 z6 e6
    have t5 : TX z5 := by rw [e5]; exact Ty_wI t1 trivial
    have t6 : TX z6 := by rw [e6]; exact Ty_wI t5 (show 0 ≤ (0 : Int32).toInt ∧ (0 : Int32).toInt ≤ 300 by decide)
    have s6 : Same RUI RUF z z6 := (s1'.i (by decide) e5).i (by decide) e6
    have o6 : gI z6 3701 = 0 := by rw [e6]; rfl
    have g7 : gI z6 7 = s3 := by rw [e6, e5]; rfl
    have g53 : gI z6 5203 = gI z1 5203 := by rw [e6, e5]; rfl
    have h52 : gI z6 5202 = gI z1 5202 := by rw [e6, e5]; rfl
    have h53 : gF z6 53 = gF z1 53 := by rw [e6, e5]; rfl
    have h54 : gF z6 54 = gF z1 54 := by rw [e6, e5]; rfl
    have u02 : gI z6 3402 = gI z 3402 := by rw [e6, e5]; exact s1.1 3402 (by decide)
    have u03 : gI z6 3403 = gI z 3403 := by rw [e6, e5]; exact s1.1 3403 (by decide)
    have u35 : gF z6 35 = gF z 35 := by rw [e6, e5]; exact s1.2 35 (by decide)
    have u36 : gF z6 36 = gF z 36 := by rw [e6, e5]; exact s1.2 36 (by decide)
    refine ⟨fun c => ?_, fun c => ?_⟩
    · refine s_X8_accept _ _ _ (TX_sw t6) (fun r9 z8 t8 s8 p8 => ?_)
      refine hk r9 _ t8 ((Same_sw s6 (by decide) (by decide) (by decide) (by decide) (by decide) (by decide) (by decide) (by decide)).tr s8 (by decide) (by decide)) rfl ?_ ?_
      · show (gI z8 3701).toInt = 0
        rw [s8.1 3701 (by decide)]
        show (gI z6 3701).toInt = 0
        rw [o6]; rfl
      · show OUY (pA tp L) r9 (gI z8 7) z z8
        have q7 : gI z8 7 = -1 := by
          rw [s8.1 7 (by decide)]
          show gI z6 7 = -1
          rw [g7]; exact c1 c
        have q3 : gI (swZ z6) 3403 = gI z1 5203 := g53
        rcases hq : pA tp L with f | cs
        · rw [hq] at o1; exact absurd o1.1 c
        · rw [hq] at o1
          refine ⟨?_, by rw [q7]; rfl, ?_, ?_⟩
          · rw [p8, q3]; exact o1.2.1
          · rw [s8.1 3403 (by decide), q3]; exact o1.2.1
          · have w2 : gI (swZ z6) 3402 = gI z1 5202 := h52
            have w35 : gF (swZ z6) 35 = gF z1 53 := h53
            have w36 : gF (swZ z6) 36 = gF z1 54 := h54
            rw [s8.2 35 (by decide), s8.2 36 (by decide), s8.1 3402 (by decide), w2, w35, w36]
            exact o1.2.2
    · refine s_X8_refuse _ _ _ t6 (fun r9 z8 t8 s8 p8 => ?_)
      refine hk r9 _ t8 (s6.tr s8 (by decide) (by decide)) rfl ?_ ?_
      · show (gI z8 3701).toInt = 0
        rw [s8.1 3701 (by decide), o6]; rfl
      · show OUY (pA tp L) r9 (gI z8 7) z z8
        have q7 : gI z8 7 = gI z1 3702 := by rw [s8.1 7 (by decide), g7]; exact c0 c
        rcases hq : pA tp L with f | cs
        · rw [hq] at o1
          exact ⟨by rw [p8]; rfl, by rw [q7]; exact o1.2, by rw [s8.1 3402 (by decide)]; exact u02, by rw [s8.1 3403 (by decide)]; exact u03, by rw [s8.2 35 (by decide)]; exact u35, by rw [s8.2 36 (by decide)]; exact u36⟩
        · rw [hq] at o1
          have := o1.1
          rw [c] at this; exact absurd this (by decide)
  exact ⟨fun c => h4 _ (fun _ => rfl) (fun q => absurd c q), fun c => h4 _ (fun q => absurd q c) (fun _ => rfl)⟩
