-- CALLS OF BOTH SIDES: what a job is, whether it may begin, and where it is put
def OFf (n : Int) (r0 r1 r2 r3 r4 r5 r6 : Nat → Int32) (b1 b2 : Int32) : Int32 := if 0 ≤ b1.toInt ∧ b1.toInt < n then (if b2 = 0 then r0 b1.toNatClampNeg else if b2 = 1 then r1 b1.toNatClampNeg else if b2 = 2 then r2 b1.toNatClampNeg else if b2 = 3 then r3 b1.toNatClampNeg else if b2 = 4 then r4 b1.toNatClampNeg else if b2 = 5 then r5 b1.toNatClampNeg else if 10 ≤ b2.toInt ∧ b2.toInt < 10 + (r3 b1.toNatClampNeg).toInt then r6 (4 * b1.toNatClampNeg + (b2.toInt - 10).toNat) else -1) else -1
theorem n05 {b2 : Int32} (h : b2.toInt < 0 ∨ 5 < b2.toInt) : ¬ b2 = 0 ∧ ¬ b2 = 1 ∧ ¬ b2 = 2 ∧ ¬ b2 = 3 ∧ ¬ b2 = 4 ∧ ¬ b2 = 5 := by
  have e0 : (0 : Int32).toInt = 0 := rfl
  have e1 : (1 : Int32).toInt = 1 := rfl
  have e2 : (2 : Int32).toInt = 2 := rfl
  have e3 : (3 : Int32).toInt = 3 := rfl
  have e4 : (4 : Int32).toInt = 4 := rfl
  have e5 : (5 : Int32).toInt = 5 := rfl
  refine ⟨fun q => ?_, fun q => ?_, fun q => ?_, fun q => ?_, fun q => ?_, fun q => ?_⟩ <;> rw [q] at h <;> omega
theorem ixof {b1 b2 : Int32} (h1 : 0 ≤ b1.toInt ∧ b1.toInt ≤ 15) (h2 : 10 ≤ b2.toInt ∧ b2.toInt ≤ 13) : vp_in (b1 * (4 : Int32) + b2 - (10 : Int32)) 64 ∧ (b1 * (4 : Int32) + b2 - (10 : Int32)).toNatClampNeg = 4 * b1.toNatClampNeg + (b2.toInt - 10).toNat := by
  have c1 := clampN h1.1
  have m : (b1 * (4 : Int32)).toInt = b1.toInt * 4 := a_mul rfl (show (4 : Int32).toInt = 4 from rfl) (by omega) (by omega)
  have a : (b1 * (4 : Int32) + b2).toInt = b1.toInt * 4 + b2.toInt := a_add m rfl (by omega) (by omega)
  have i : (b1 * (4 : Int32) + b2 - (10 : Int32)).toInt = b1.toInt * 4 + b2.toInt - 10 := a_sub a (show (10 : Int32).toInt = 10 from rfl) (by omega) (by omega)
  have c := clampN (x := b1 * (4 : Int32) + b2 - (10 : Int32)) (by omega)
  exact ⟨vin i (by omega) (by omega), by omega⟩
theorem v_X8_of (b1 b2 : Int32) (z : St) (P : Int32 → Prop) (ht : TX z) (hk : P (OFf (gI z 1308).toInt (gF z 14) (gF z 15) (gF z 16) (gF z 17) (gF z 19) (gF z 20) (gF z 18) b1 b2)) : wp_X8_of b1 b2 z P := by
  have f : 0 ≤ (gI z 1308).toInt ∧ (gI z 1308).toInt ≤ 16 := ht.1 1308
  have f17 : 0 ≤ (gF z 17 b1.toNatClampNeg).toInt ∧ (gF z 17 b1.toNatClampNeg).toInt ≤ 4 := ht.2 17 _
  unfold OFf at hk
  unfold wp_X8_of
  refine s_X1_has _ _ _ ht (fun r2 h2 => ⟨fun c => ?_, fun c => ?_⟩)
  · have q := or1 h2 c
    have hv : vp_in b1 16 := vin rfl q.1 (by omega)
    rw [if_pos q] at hk
    refine ⟨fun e => ⟨hv, ?_⟩, fun e => ⟨hv, ?_⟩, fun e => ⟨hv, ?_⟩, fun e => ⟨hv, ?_⟩, fun e => ⟨hv, ?_⟩, fun e => ⟨hv, ?_⟩, fun e => ?_⟩
    · rw [if_pos e] at hk; exact hk
    · subst e; rw [if_neg (by decide), if_pos rfl] at hk; exact hk
    · subst e; rw [if_neg (by decide), if_neg (by decide), if_pos rfl] at hk; exact hk
    · subst e; rw [if_neg (by decide), if_neg (by decide), if_neg (by decide), if_pos rfl] at hk; exact hk
    · subst e; rw [if_neg (by decide), if_neg (by decide), if_neg (by decide), if_neg (by decide), if_pos rfl] at hk; exact hk
    · subst e; rw [if_neg (by decide), if_neg (by decide), if_neg (by decide), if_neg (by decide), if_neg (by decide), if_pos rfl] at hk; exact hk
    · obtain ⟨n0, n1, n2, n3, n4, n5⟩ := n05 e
      rw [if_neg n0, if_neg n1, if_neg n2, if_neg n3, if_neg n4, if_neg n5] at hk
      have i10 : ((10 : Int32) + gF z 17 b1.toNatClampNeg).toInt = 10 + (gF z 17 b1.toNatClampNeg).toInt := a_add rfl rfl (by omega) (by omega)
      refine ⟨fun c10 => ?_, fun c10 => ⟨hv, fun c11 => ?_, fun c11 => ?_⟩⟩
      · have := i_lt (q := 10) rfl rfl c10
        rw [if_neg (by omega)] at hk; exact hk
      · have := i_le i10 rfl c11
        rw [if_neg (by omega)] at hk; exact hk
      · have g10 := i_nlt (q := 10) rfl rfl c10
        have g11 := i_nle i10 rfl c11
        obtain ⟨hx, ex⟩ := ixof (b1 := b1) (b2 := b2) (by omega) (by omega)
        rw [if_pos (by omega)] at hk
        rw [ex]
        exact ⟨hx, hk⟩
  · have q := or0 h2 c
    rw [if_neg (by omega)] at hk; exact hk
theorem v_X9_of (b1 b2 : Int32) (z : St) (P : Int32 → St → Prop) (ht : TM z) (hk : ∀ z2 : St, TM z2 → Same [0, 1] [] z z2 → P (OFf (gI z 12).toInt (gF z 6) (gF z 7) (gF z 8) (gF z 9) (gF z 11) (fun j => if gF z 11 j = 0 then -1 else gF z 12 j) (gF z 10) b1 b2) z2) : wp_X9_of b1 b2 z P := by
  have f : 0 ≤ (gI z 12).toInt ∧ (gI z 12).toInt ≤ 16 := ht.1 12
  have f17 : 0 ≤ (gF z 9 b1.toNatClampNeg).toInt ∧ (gF z 9 b1.toNatClampNeg).toInt ≤ 4 := ht.2 9 _
  unfold wp_X9_of
  intro z1 e1
  have t1 : TM z1 := by rw [e1]; exact Ty_wI ht trivial
  have hk := hk z1 t1 (Same.rf.i (by decide) e1)
  have y12 : gI z1 12 = gI z 12 := by rw [e1]; rfl
  have y6 : gF z1 6 = gF z 6 := by rw [e1]; rfl
  have y7 : gF z1 7 = gF z 7 := by rw [e1]; rfl
  have y8 : gF z1 8 = gF z 8 := by rw [e1]; rfl
  have y9 : gF z1 9 = gF z 9 := by rw [e1]; rfl
  have y10 : gF z1 10 = gF z 10 := by rw [e1]; rfl
  have y11 : gF z1 11 = gF z 11 := by rw [e1]; rfl
  have y1b : gF z1 12 = gF z 12 := by rw [e1]; rfl
  rw [y6, y7, y8, y9, y10, y11, y1b]
  unfold OFf at hk
  refine s_X9_isJob _ _ _ t1 (fun r2 h2 => ?_)
  rw [y12] at h2
  refine ⟨fun c => ?_, fun c => ?_⟩
  · have q := or1 h2 c
    have hv : vp_in b1 16 := vin rfl q.1 (by omega)
    rw [if_pos q] at hk
    refine ⟨fun e => ⟨hv, ?_⟩, fun e => ⟨hv, ?_⟩, fun e => ⟨hv, ?_⟩, fun e => ⟨hv, ?_⟩, fun e => ⟨hv, ?_⟩, fun e => ⟨hv, ?_⟩, fun e => ⟨hv, ?_⟩⟩
    · rw [if_pos e] at hk; exact hk
    · subst e; rw [if_neg (by decide), if_pos rfl] at hk; exact hk
    · subst e; rw [if_neg (by decide), if_neg (by decide), if_pos rfl] at hk; exact hk
    · subst e; rw [if_neg (by decide), if_neg (by decide), if_neg (by decide), if_pos rfl] at hk; exact hk
    · subst e; rw [if_neg (by decide), if_neg (by decide), if_neg (by decide), if_neg (by decide), if_pos rfl] at hk; exact hk
    · subst e; rw [if_neg (by decide), if_neg (by decide), if_neg (by decide), if_neg (by decide), if_neg (by decide), if_pos rfl] at hk
      have hk : P (if gF z 11 b1.toNatClampNeg = 0 then -1 else gF z 12 b1.toNatClampNeg) z1 := hk
      refine ⟨fun c5 => ⟨hv, ?_⟩, fun c5 => ?_⟩
      · rw [if_neg c5] at hk; exact hk
      · rw [if_pos c5] at hk; exact hk
    · obtain ⟨n0, n1, n2, n3, n4, n5⟩ := n05 e
      rw [if_neg n0, if_neg n1, if_neg n2, if_neg n3, if_neg n4, if_neg n5] at hk
      refine s_X9_in _ _ _ _ _ t1 (fun r8 h8 => ?_)
      have e9 : ((9 : Int64) + Int32.toInt64 (gF z 9 b1.toNatClampNeg)).toInt = 9 + (gF z 9 b1.toNatClampNeg).toInt := a_addL rfl (a_wide rfl) (by omega) (by omega)
      have h8' := in9 (p := 10) h8 rfl e9
      refine ⟨fun c8 => ?_, fun c8 => ?_⟩
      · have := or0 h8' c8
        rw [if_neg (by omega)] at hk; exact hk
      · have g8 := or1 h8' c8
        obtain ⟨hx, ex⟩ := ixof (b1 := b1) (b2 := b2) (by omega) (by omega)
        rw [if_pos (by omega)] at hk
        rw [show (4 : Int32) * b1 = b1 * 4 from Int32.mul_comm _ _, ex]
        exact ⟨hx, hk⟩
  · have q := or0 h2 c
    rw [if_neg (by omega)] at hk; exact hk
theorem OFf_co {n m : Int} {r0 r1 r2 r3 r4 r5 r6 s4 s5 : Nat → Int32} {b1 b2 : Int32} (hn : n = m) (h4 : 0 ≤ b1.toInt → b1.toInt < n → s4 b1.toNatClampNeg = r4 b1.toNatClampNeg) (h5 : 0 ≤ b1.toInt → b1.toInt < n → s5 b1.toNatClampNeg = r5 b1.toNatClampNeg) : OFf n r0 r1 r2 r3 s4 s5 r6 b1 b2 = OFf m r0 r1 r2 r3 r4 r5 r6 b1 b2 := by
  subst hn
  unfold OFf
  by_cases c : 0 ≤ b1.toInt ∧ b1.toInt < n
  · rw [if_pos c, if_pos c, h4 c.1 c.2, h5 c.1 c.2]
  · rw [if_neg c, if_neg c]
/-- a job's own state doesn't count when it is asked where it may begin -/
theorem ldF_ex {r5 r6 r9 r10 st bg st' : Nat → Int32} {b1 b2 : Int32} {j : Nat} (hj : j < 16) : ∀ n : Nat, n ≤ 16 → (∀ o, o < n → o ≠ j → st' o = st o) → ldF r5 r6 r9 r10 st' bg b1 b2 (nI j) n = ldF r5 r6 r9 r10 st bg b1 b2 (nI j) n := by
  intro n
  induction n with
  | zero => intro _ _; rfl
  | succ n ih =>
    intro h16 hs
    show ldF r5 r6 r9 r10 st' bg b1 b2 (nI j) n + (if nI n = nI j then 0 else if r6 n = b1 then drV r9 r10 st' bg (nI n) b2 else 0) = ldF r5 r6 r9 r10 st bg b1 b2 (nI j) n + (if nI n = nI j then 0 else if r6 n = b1 then drV r9 r10 st bg (nI n) b2 else 0)
    rw [ih (by omega) (fun o ho => hs o (by omega))]
    by_cases e : nI n = nI j
    · rw [if_pos e, if_pos e]
    · rw [if_neg e, if_neg e, drV_co (by omega) (hs n (by omega) (fun q => e (by rw [q]))) (fun _ => rfl)]
theorem MBg_ex {z : St} {st bg st' : Nat → Int32} {j : Nat} {h : Int} (tm : TM z) (hj : (j : Int) < (gI z 12).toInt) (nb : ¬ Bm z j j) (hs : ∀ o : Nat, (o : Int) < (gI z 12).toInt → o ≠ j → st' o = st o) : MBg z st' bg j h ↔ MBg z st bg j h := by
  have f12 : 0 ≤ (gI z 12).toInt ∧ (gI z 12).toInt ≤ 16 := tm.1 12
  have c12 := clampN f12.1
  have el : ∀ b1 b2, ldF (gF z 5) (gF z 6) (gF z 9) (gF z 10) st' bg b1 b2 (nI j) (gI z 12).toNatClampNeg = ldF (gF z 5) (gF z 6) (gF z 9) (gF z 10) st bg b1 b2 (nI j) (gI z 12).toNatClampNeg := fun b1 b2 => ldF_ex (by omega) _ (by omega) (fun o ho => hs o (by omega))
  have eF : Fg z st' bg j = Fg z st bg j := by funext t; unfold Fg; rw [el]
  have eA : Ag z st' bg j = Ag z st bg j := by
    funext t
    unfold Ag
    rw [amG_sm, amG_sm]
    exact sm_congr (fun o _ => el _ _)
  have eT : TUg z st' bg j h ↔ TUg z st bg j h := by
    unfold TUg TUp
    constructor
    · intro hu o ho hso
      by_cases e : o = j
      · rw [e]; exact ⟨fun q => absurd q nb, fun q => absurd q nb⟩
      · exact hu o ho (by rw [hs o (by omega) e]; exact hso)
    · intro hu o ho hso
      by_cases e : o = j
      · rw [e]; exact ⟨fun q => absurd q nb, fun q => absurd q nb⟩
      · rw [hs o (by omega) e] at hso
        exact hu o ho hso
  unfold MBg
  rw [eF, eA]
  unfold MBp
  rw [eT]
/-- the class asks of a job as if it were open, and all is as it was -/
theorem v_X2_mayBeginAsOpen (b1 b2 : Int32) (z zm : St) (P : Int32 → St → Prop) (st bg : Nat → Int32) (ht : TX z) (hrx : RX z) (tm : TM zm) (cp : CP z zm st bg) (h0 : 0 ≤ b1.toInt) (hj : b1.toInt < (gI zm 12).toInt) (h2 : ¬ st b1.toNatClampNeg = 2) (h3 : st b1.toNatClampNeg = 0 ∨ st b1.toNatClampNeg = 1 ∨ st b1.toNatClampNeg = 2) (nb : ¬ Bm zm b1.toNatClampNeg b1.toNatClampNeg) (hk : ∀ (r : Int32) (z2 : St), TX z2 → RX z2 → Same [] [10, 12, 19, 20] z z2 → CP z2 zm st bg → (r = 1 ∧ MBg zm st bg b1.toNatClampNeg b2.toInt) ∨ (r = 0 ∧ ¬ MBg zm st bg b1.toNatClampNeg b2.toInt) → P r z2) : wp_X2_mayBeginAsOpen b1 b2 z P := by
  have f12 : 0 ≤ (gI zm 12).toInt ∧ (gI zm 12).toInt ≤ 16 := tm.1 12
  have c1 := clampN h0
  have q1308 : gI z 1308 = gI zm 12 := cp.1.1.1
  have q17 : gF z 17 = gF zm 9 := cp.1.2.1.2.2.2.1
  have hv : vp_in b1 16 := vin rfl h0 (by omega)
  have hz : gF z 19 b1.toNatClampNeg = st b1.toNatClampNeg := cp.2.2.2.2.1 _ (by omega)
  have em1 : (-1 : Int32).toInt = -1 := rfl
  unfold wp_X2_mayBeginAsOpen
  refine ⟨hv, ?_⟩
  intro x1 ex1
  refine v_X1_reopen b1 z _ ht hrx cp.2.2.2.1 (by omega) (by rw [q1308]; exact hj) (fun hn => ?_) (fun hp z2 t2 x2 p2 s2 a19 a20 => ?_)
  · -- it is open
    rw [hz] at hn
    have hs0 : st b1.toNatClampNeg = 0 := by
      rcases h3 with q | q | q
      · exact q
      · exact absurd q hn
      · exact absurd q h2
    have hx1 : x1 = -1 := by
      refine toI_inj ?_
      rw [ex1, hrx.2.2.2 b1.toNatClampNeg (by rw [q1308]; omega) (by rw [hz, hs0]; rfl)]
      rfl
    have mb := CP_mb (h := b2.toInt) tm cp (j := b1.toNatClampNeg) (by omega) hs0
    refine v_X2_mayBegin b1 b2 z _ ht (by omega) (fun hm => ⟨fun _ => ⟨Or.inr rfl, hk 1 z ht hrx Same.rf cp (Or.inl ⟨rfl, mb.mp hm⟩)⟩, fun q => absurd hx1 q⟩) (fun hm => ⟨fun _ => ⟨Or.inl rfl, hk 0 z ht hrx Same.rf cp (Or.inr ⟨rfl, fun q => hm (mb.mpr q)⟩)⟩, fun q => absurd hx1 q⟩)
  · -- it is planned
    have hs1 : st b1.toNatClampNeg = 1 := by rw [← hz]; exact hp
    have cp2 : CP z2 zm (upd st b1.toNatClampNeg 0) bg := by
      refine CP_mv cp s2 p2 (fun o ho => ?_) (fun o ho hs => ?_)
      · rw [a19]
        by_cases e : o = b1.toNatClampNeg
        · rw [e, upd_at, upd_at]
        · rw [upd_ne e, upd_ne e]; exact cp.2.2.2.2.1 o ho
      · rw [a20]
        by_cases e : o = b1.toNatClampNeg
        · rw [e, upd_at] at hs; exact absurd rfl hs
        · rw [upd_ne e] at hs
          rw [upd_ne e]; exact cp.2.2.2.2.2 o ho hs
    have mb0 := CP_mb (h := b2.toInt) tm cp2 (j := b1.toNatClampNeg) (by omega) upd_at
    have mb : MBx z2 b1.toNatClampNeg b2.toInt ↔ MBg zm st bg b1.toNatClampNeg b2.toInt := mb0.trans (MBg_ex tm (by omega) nb (fun o _ e => upd_ne e))
    have rb : 0 ≤ x1.toInt ∧ x1.toInt + (gF z 17 b1.toNatClampNeg).toInt ≤ 168 := by
      rw [ex1]
      rcases hrx.1 b1.toNatClampNeg with q | q
      · rw [hp] at q; exact absurd q (by decide)
      · exact q
    have fx1 : -1 ≤ x1.toInt ∧ x1.toInt ≤ 167 := by rw [ex1]; exact ht.2 20 _
    have nx1 : ¬ x1 = -1 := fun q => by rw [q] at rb; omega
    have fin : ∀ r : Int32, ((r = 1 ∧ MBg zm st bg b1.toNatClampNeg b2.toInt) ∨ (r = 0 ∧ ¬ MBg zm st bg b1.toNatClampNeg b2.toInt)) → ((x1 = (-1 : Int32) → ((r = 0 ∨ r = 1) ∧ P r z2)) ∧ (¬ (x1 = (-1 : Int32)) → wp_X1_plan b1 x1 z2 (fun z7 => ((r = 0 ∨ r = 1) ∧ P r z7)))) := by
      intro r hr
      refine ⟨fun q => absurd q nx1, fun _ => ?_⟩
      refine v_X1_plan b1 x1 z2 _ t2 x2 p2 (by omega) (by omega) (by rw [s2.1 1308 (by decide), q1308]; exact hj) (by rw [s2.2 17 (by decide)]; exact rb.2) (by rw [a19, upd_at]) (fun z7 t7 x7 p7 s7 b19 b20 => ⟨?_, ?_⟩)
      · rcases hr with q | q
        · exact Or.inr q.1
        · exact Or.inl q.1
      · refine hk r z7 t7 x7 (s2.tr s7 (by decide) (by decide)) (CP_mv cp2 s7 p7 (fun o ho => ?_) (fun o ho hs => ?_)) hr
        · rw [b19, a19]
          by_cases e : o = b1.toNatClampNeg
          · rw [e, upd_at, hs1]
          · rw [upd_ne e, upd_ne e]; exact cp.2.2.2.2.1 o ho
        · rw [b20, a20]
          by_cases e : o = b1.toNatClampNeg
          · rw [e, upd_at, ex1]
            exact cp.2.2.2.2.2 _ (by omega) (by rw [hs1]; decide)
          · rw [upd_ne e, upd_ne e]; exact cp.2.2.2.2.2 o ho hs
    exact v_X2_mayBegin b1 b2 z2 _ t2 (by omega) (fun hm => fin 1 (Or.inl ⟨rfl, mb.mp hm⟩)) (fun hm => fin 0 (Or.inr ⟨rfl, fun q => hm (mb.mpr q)⟩))
def GM (n : Int) (st : Nat → Int32) (b1 b2 : Int32) : Prop := (0 ≤ b1.toInt ∧ b1.toInt < n) ∧ (0 ≤ b2.toInt ∧ b2.toInt ≤ 167) ∧ ¬ st b1.toNatClampNeg = 2
theorem v_X8_may (b1 b2 : Int32) (z zm : St) (P : Int32 → St → Prop) (st bg : Nat → Int32) (ht : TX z) (hrx : RX z) (tm : TM zm) (cp : CP z zm st bg) (h3 : ∀ o : Nat, (o : Int) < (gI zm 12).toInt → st o = 0 ∨ st o = 1 ∨ st o = 2) (nb : ∀ i : Nat, i < 16 → ¬ Bm zm i i) (hN : ¬ GM (gI zm 12).toInt st b1 b2 → P (-1) z) (hY : GM (gI zm 12).toInt st b1 b2 → ∀ (r : Int32) (z2 : St), TX z2 → RX z2 → Same [] [10, 12, 19, 20] z z2 → CP z2 zm st bg → (r = 1 ∧ MBg zm st bg b1.toNatClampNeg b2.toInt) ∨ (r = 0 ∧ ¬ MBg zm st bg b1.toNatClampNeg b2.toInt) → P r z2) : wp_X8_may b1 b2 z P := by
  have f12 : 0 ≤ (gI zm 12).toInt ∧ (gI zm 12).toInt ≤ 16 := tm.1 12
  unfold wp_X8_may
  refine s_X1_has _ _ _ ht (fun r2 h2 => ?_)
  rw [cp.1.1.1] at h2
  refine ⟨fun c => hN (fun g => ?_), fun c => ?_⟩
  · have := or0 h2 c
    have := g.1
    omega
  have q2 := or1 h2 c
  have c1 := clampN q2.1
  refine s_X8_isHour _ _ _ ht (fun r5 h5 => ⟨fun c5 => hN (fun g => ?_), fun c5 => ⟨vin rfl q2.1 (by omega), ?_⟩⟩)
  · have := or0 h5 c5
    have := g.2.1
    omega
  rw [cp.2.2.2.2.1 b1.toNatClampNeg (by omega)]
  refine ⟨fun cs => ?_, fun cs => hN (fun g => g.2.2 cs)⟩
  refine v_X2_mayBeginAsOpen b1 b2 z zm _ st bg ht hrx tm cp q2.1 q2.2 cs (h3 _ (by omega)) (nb _ (by omega)) (fun r z2 t2 x2 s2 cp2 hr => ?_)
  have g : GM (gI zm 12).toInt st b1 b2 := ⟨q2, or1 h5 c5, cs⟩
  refine ⟨fun c9 => hY g 0 z2 t2 x2 s2 cp2 (Or.inr ⟨rfl, or0 hr c9⟩), fun c9 => hY g 1 z2 t2 x2 s2 cp2 (Or.inl ⟨rfl, or1 hr c9⟩)⟩
theorem CM_mv {z z1 zm : St} {st bg : Nat → Int32} (h : CM z zm st bg) (t : TM z1) (s : Same [0, 1] [] z z1) : CM z1 zm st bg := by
  obtain ⟨_, fr, s0, a11, a12, ab⟩ := h
  exact ⟨t, FR_m fr s (by decide) (by decide), s0.tr s (by decide) (by decide), fun o ho => by rw [s.2 11 (by decide)]; exact a11 o ho, fun o ho hs => by rw [s.2 12 (by decide)]; exact a12 o ho hs, ab⟩
theorem v_X9_may (b1 b2 : Int32) (zm : St) (P : Int32 → St → Prop) (st bg : Nat → Int32) (cm : CM zm zm st bg) (hN : ¬ GM (gI zm 12).toInt st b1 b2 → ∀ z2 : St, CM z2 zm st bg → P (-1) z2) (hY : GM (gI zm 12).toInt st b1 b2 → ∀ (r : Int32) (z2 : St), CM z2 zm st bg → (r = 1 ∧ MBg zm st bg b1.toNatClampNeg b2.toInt) ∨ (r = 0 ∧ ¬ MBg zm st bg b1.toNatClampNeg b2.toInt) → P r z2) : wp_X9_may b1 b2 zm P := by
  have f12 : 0 ≤ (gI zm 12).toInt ∧ (gI zm 12).toInt ≤ 16 := cm.1.1 12
  unfold wp_X9_may
  intro z1 e1
  have t1 : TM z1 := by rw [e1]; exact Ty_wI cm.1 trivial
  have cm1 : CM z1 zm st bg := CM_mv cm t1 (Same.rf.i (by decide) e1)
  have y12 : gI z1 12 = gI zm 12 := by rw [e1]; rfl
  refine s_X9_isJob _ _ _ t1 (fun r3 h3 => ?_)
  rw [y12] at h3
  refine ⟨fun c => hN (fun g => ?_) z1 cm1, fun c => ?_⟩
  · have := or0 h3 c
    have := g.1
    omega
  have q3 := or1 h3 c
  have c1 := clampN q3.1
  refine ⟨vin rfl q3.1 (by omega), ?_⟩
  rw [cm1.2.2.2.1 b1.toNatClampNeg (by omega)]
  refine ⟨fun cs => hN (fun g => g.2.2 cs) z1 cm1, fun cs => ?_⟩
  refine s_X9_isHour _ _ _ t1 (fun r7 h7 => ⟨fun c7 => ?_, fun c7 => hN (fun g => ?_) z1 cm1⟩)
  · have g : GM (gI zm 12).toInt st b1 b2 := ⟨q3, or1 h7 c7, cs⟩
    refine CM_mb cm1 q3.1 q3.2 (fun mb z2 cm2 _ _ => ⟨fun q => absurd q (by decide), fun _ => hY g 1 z2 cm2 (Or.inl ⟨rfl, mb⟩)⟩) (fun mb z2 cm2 _ _ => ⟨fun _ => hY g 0 z2 cm2 (Or.inr ⟨rfl, mb⟩), fun q => absurd rfl q⟩)
  · have := or0 h7 c7
    have := g.2.1
    omega
def GU (zm : St) (st bg : Nat → Int32) (b1 b2 : Int32) : Prop := (0 ≤ b1.toInt ∧ b1.toInt < (gI zm 12).toInt) ∧ ¬ st b1.toNatClampNeg = 2 ∧ MBg zm st bg b1.toNatClampNeg b2.toInt
theorem v_X8_put (b1 b2 : Int32) (z zm : St) (P : Int32 → St → Prop) (st bg : Nat → Int32) (ht : TX z) (hrx : RX z) (tm : TM zm) (cp : CP z zm st bg) (h3 : ∀ o : Nat, (o : Int) < (gI zm 12).toInt → st o = 0 ∨ st o = 1 ∨ st o = 2) (nb : ∀ i : Nat, i < 16 → ¬ Bm zm i i) (hN : ¬ GU zm st bg b1 b2 → ∀ (r : Int32) (z2 : St), TX z2 → RX z2 → Same [8] [10, 12, 19, 20] z z2 → CP z2 zm st bg → (r.toInt = if ¬ (0 ≤ b1.toInt ∧ b1.toInt < (gI zm 12).toInt) then -2 else if st b1.toNatClampNeg = 2 then -3 else -6) → P r z2) (hY : GU zm st bg b1 b2 → ∀ (r : Int32) (z2 : St), TX z2 → RX z2 → Same [8] [10, 12, 19, 20] z z2 → CP z2 zm (upd st b1.toNatClampNeg 1) (upd bg b1.toNatClampNeg b2) → r.toInt = 0 → P r z2) : wp_X8_put b1 b2 z P := by
  have f12 : 0 ≤ (gI zm 12).toInt ∧ (gI zm 12).toInt ≤ 16 := tm.1 12
  have keep : ∀ (za zb : St), TX zb → RX za → Same [8] [] za zb → RX zb ∧ ∀ s b : Nat → Int32, CP za zm s b → CP zb zm s b := fun za zb tb xa sb => ⟨RX_same xa sb (by decide) (by decide) (by decide) (by decide) (by decide) (by decide), fun s b h => CP_st h sb (by decide) (by decide)⟩
  unfold wp_X8_put
  refine s_X1_has _ _ _ ht (fun r2 h2 => ?_)
  rw [cp.1.1.1] at h2
  refine ⟨fun c => ?_, fun c => ?_⟩
  · have q2 := or1 h2 c
    have c1 := clampN q2.1
    have hv : vp_in b1 16 := vin rfl q2.1 (by omega)
    refine ⟨hv, ?_⟩
    rw [cp.2.2.2.2.1 b1.toNatClampNeg (by omega)]
    refine ⟨fun cs => ?_, fun cs => ?_⟩
    · refine v_X2_mayBeginAsOpen b1 b2 z zm _ st bg ht hrx tm cp q2.1 q2.2 cs (h3 _ (by omega)) (nb _ (by omega)) (fun r z5 t5 x5 s5 cp5 hr => ⟨fun c6 => ?_, fun c6 => ?_⟩)
      · have mb := or1 hr c6
        have m1 := mb.1
        have m2 := mb.2.1
        have m3 := mb.2.2.1
        have m4 := mb.2.2.2.1
        have f7 : 0 ≤ (gF zm 7 b1.toNatClampNeg).toInt ∧ (gF zm 7 b1.toNatClampNeg).toInt ≤ 167 := tm.2 7 _
        have f8 : 0 ≤ (gF zm 8 b1.toNatClampNeg).toInt ∧ (gF zm 8 b1.toNatClampNeg).toInt ≤ 167 := tm.2 8 _
        have hz5 : gF z5 19 b1.toNatClampNeg = st b1.toNatClampNeg := cp5.2.2.2.2.1 _ (by omega)
        have q1308 : gI z5 1308 = gI zm 12 := cp5.1.1.1
        have q17 : gF z5 17 = gF zm 9 := cp5.1.2.1.2.2.2.1
        -- once it is open
        have go : ∀ z8 : St, TX z8 → RX z8 → PX z8 → Same [] [10, 12, 19, 20] z5 z8 → gF z8 19 b1.toNatClampNeg = 0 → (∀ o : Nat, (o : Int) < (gI zm 12).toInt → o ≠ b1.toNatClampNeg → gF z8 19 o = st o ∧ (¬ st o = 0 → gF z8 20 o = bg o)) → wp_X1_plan b1 b2 z8 (fun z10 => wp_X8_accept (0 : Int32) z10 (fun r13 z12 => P r13 z12)) := by
          intro z8 t8 x8 p8 s8 h8 o8
          refine v_X1_plan b1 b2 z8 _ t8 x8 p8 (by omega) (by omega) (by rw [s8.1 1308 (by decide), q1308]; exact q2.2) (by rw [s8.2 17 (by decide), q17]; exact m4) h8 (fun z10 t10 x10 p10 s10 a19 a20 => ?_)
          have s10' : Same [8] [10, 12, 19, 20] z z10 := ((Same.tr (z1 := z) Same.rf s5 (by decide) (by decide)).tr s8 (by decide) (by decide)).tr s10 (by decide) (by decide)
          have cp10 : CP z10 zm (upd st b1.toNatClampNeg 1) (upd bg b1.toNatClampNeg b2) := by
            refine CP_mv cp5 (s8.tr s10 (by decide) (by decide)) p10 (fun o ho => ?_) (fun o ho hs => ?_)
            · rw [a19]
              by_cases e : o = b1.toNatClampNeg
              · rw [e, upd_at, upd_at]
              · rw [upd_ne e, upd_ne e]; exact (o8 o ho e).1
            · rw [a20]
              by_cases e : o = b1.toNatClampNeg
              · rw [e, upd_at, upd_at]
              · rw [upd_ne e] at hs
                rw [upd_ne e, upd_ne e]; exact (o8 o ho e).2 hs
          refine s_X8_accept _ _ _ t10 (fun r3 z3 t3 s3 h3' => ?_)
          obtain ⟨k1, k2⟩ := keep z10 z3 t3 x10 s3
          exact hY ⟨q2, cs, mb⟩ r3 z3 t3 k1 (s10'.tr s3 (by decide) (by decide)) (k2 _ _ cp10) h3'
        refine v_X1_reopen b1 z5 _ t5 x5 cp5.2.2.2.1 (by omega) (by rw [q1308]; exact q2.2) (fun hn => go z5 t5 x5 cp5.2.2.2.1 Same.rf ?_ (fun o ho _ => ⟨cp5.2.2.2.2.1 o ho, cp5.2.2.2.2.2 o ho⟩)) (fun hp z8 t8 x8 p8 s8 a19 a20 => go z8 t8 x8 p8 s8 (by rw [a19, upd_at]) (fun o ho e => ⟨by rw [a19, upd_ne e]; exact cp5.2.2.2.2.1 o ho, fun hs => by rw [a20, upd_ne e]; exact cp5.2.2.2.2.2 o ho hs⟩))
        rw [hz5] at hn ⊢
        rcases h3 b1.toNatClampNeg (by omega) with q | q | q
        · exact q
        · exact absurd q hn
        · exact absurd q cs
      · have mb := or0 hr c6
        refine s_X8_refuse _ _ _ t5 (fun r3 z3 t3 s3 h3' => ?_)
        obtain ⟨k1, k2⟩ := keep z5 z3 t3 x5 s3
        refine hN (fun g => mb g.2.2) r3 z3 t3 k1 ((Same.tr (z1 := z) Same.rf s5 (by decide) (by decide)).tr s3 (by decide) (by decide)) (k2 _ _ cp5) ?_
        rw [h3', if_neg (fun q => q q2), if_neg cs]; rfl
    · refine s_X8_refuse _ _ _ ht (fun r3 z3 t3 s3 h3' => ?_)
      obtain ⟨k1, k2⟩ := keep z z3 t3 hrx s3
      refine hN (fun g => g.2.1 cs) r3 z3 t3 k1 (Same.tr (z1 := z) Same.rf s3 (by decide) (by decide)) (k2 _ _ cp) ?_
      rw [h3', if_neg (fun q => q q2), if_pos cs]; rfl
  · have q2 := or0 h2 c
    refine s_X8_refuse _ _ _ ht (fun r3 z3 t3 s3 h3' => ?_)
    obtain ⟨k1, k2⟩ := keep z z3 t3 hrx s3
    refine hN (fun g => ?_) r3 z3 t3 k1 (Same.tr (z1 := z) Same.rf s3 (by decide) (by decide)) (k2 _ _ cp) ?_
    · have := g.1
      omega
    · rw [h3', if_pos (by omega)]; rfl
theorem v_X9_put (b1 b2 : Int32) (zm : St) (P : Int32 → St → Prop) (st bg : Nat → Int32) (cm : CM zm zm st bg) (hN : ¬ GU zm st bg b1 b2 → ∀ (r : Int32) (z2 : St), CM z2 zm st bg → (r.toInt = if ¬ (0 ≤ b1.toInt ∧ b1.toInt < (gI zm 12).toInt) then -2 else if st b1.toNatClampNeg = 2 then -3 else -6) → P r z2) (hY : GU zm st bg b1 b2 → ∀ (r : Int32) (z2 : St), CM z2 zm (upd st b1.toNatClampNeg 1) (upd bg b1.toNatClampNeg b2) → r.toInt = 0 → P r z2) : wp_X9_put b1 b2 zm P := by
  have f12 : 0 ≤ (gI zm 12).toInt ∧ (gI zm 12).toInt ≤ 16 := cm.1.1 12
  unfold wp_X9_put
  intro z1 e1
  have t1 : TM z1 := by rw [e1]; exact Ty_wI cm.1 trivial
  have cm1 : CM z1 zm st bg := CM_mv cm t1 (Same.rf.i (by decide) e1)
  have y12 : gI z1 12 = gI zm 12 := by rw [e1]; rfl
  have w1 : ∀ za zb : St, Same [1] [] za zb → Same [0, 1] [] za zb := fun za zb s => Same.tr (z1 := za) Same.rf s (by decide) (by decide)
  refine s_X9_isJob _ _ _ t1 (fun r3 h3 => ?_)
  rw [y12] at h3
  refine ⟨fun c => ?_, fun c => ?_⟩
  · have q3 := or1 h3 c
    have c1 := clampN q3.1
    have hv : vp_in b1 16 := vin rfl q3.1 (by omega)
    refine ⟨hv, ?_⟩
    rw [cm1.2.2.2.1 b1.toNatClampNeg (by omega)]
    refine ⟨fun cs => ?_, fun cs => ?_⟩
    · refine CM_mb cm1 q3.1 q3.2 (fun mb z2 cm2 _ _ => ⟨fun _ => ⟨hv, ?_⟩, fun q => absurd q (by decide)⟩) (fun mb z2 cm2 _ _ => ⟨fun q => absurd rfl q, fun _ => ?_⟩)
      · intro z9 e9
        refine ⟨hv, ?_⟩
        intro z10 e10
        have m2 := mb.2.1
        have m3 := mb.2.2.1
        have f7 : 0 ≤ (gF zm 7 b1.toNatClampNeg).toInt ∧ (gF zm 7 b1.toNatClampNeg).toInt ≤ 167 := cm.1.2 7 _
        have f8 : 0 ≤ (gF zm 8 b1.toNatClampNeg).toInt ∧ (gF zm 8 b1.toNatClampNeg).toInt ≤ 167 := cm.1.2 8 _
        have t9 : TM z9 := by rw [e9]; exact Ty_wR cm2.1 trivial
        have t10 : TM z10 := by rw [e10]; exact Ty_wR t9 trivial
        have sx : Same [] [11, 12] z2 z10 := (Same.rf.r (by decide) e9).r (by decide) e10
        have a11 : gF z10 11 = upd (gF z2 11) b1.toNatClampNeg 1 := by rw [e10]; show gF z9 11 = _; rw [e9, gF_wR]
        have a12 : gF z10 12 = upd (gF z2 12) b1.toNatClampNeg b2 := by rw [e10, gF_wR, e9]; rfl
        have cm10 : CM z10 zm (upd st b1.toNatClampNeg 1) (upd bg b1.toNatClampNeg b2) := by
          refine ⟨t10, FR_m cm2.2.1 sx (by decide) (by decide), cm2.2.2.1.tr sx (by decide) (by decide), fun o ho => ?_, fun o ho hs => ?_, fun o ho hs => ?_⟩
          · rw [a11]
            by_cases e : o = b1.toNatClampNeg
            · rw [e, upd_at, upd_at]
            · rw [upd_ne e, upd_ne e]; exact cm2.2.2.2.1 o ho
          · rw [a12]
            by_cases e : o = b1.toNatClampNeg
            · rw [e, upd_at, upd_at]
            · rw [upd_ne e] at hs
              rw [upd_ne e, upd_ne e]; exact cm2.2.2.2.2.1 o ho hs
          · by_cases e : o = b1.toNatClampNeg
            · rw [e, upd_at]; omega
            · rw [upd_ne e] at hs
              rw [upd_ne e]; exact cm2.2.2.2.2.2 o ho hs
        exact s_X9_told _ _ _ t10 (fun r z3 t3 s3 h3' => hY ⟨q3, cs, mb⟩ r z3 (CM_mv cm10 t3 (w1 _ _ s3)) (by rw [h3']; rfl))
      · refine s_X9_told _ _ _ cm2.1 (fun r z3 t3 s3 h3' => hN (fun g => mb g.2.2) r z3 (CM_mv cm2 t3 (w1 _ _ s3)) ?_)
        rw [h3', if_neg (fun q => q q3), if_neg cs]; rfl
    · refine s_X9_told _ _ _ t1 (fun r z3 t3 s3 h3' => hN (fun g => g.2.1 cs) r z3 (CM_mv cm1 t3 (w1 _ _ s3)) ?_)
      rw [h3', if_neg (fun q => q q3), if_pos cs]; rfl
  · have q3 := or0 h3 c
    refine s_X9_told _ _ _ t1 (fun r z3 t3 s3 h3' => hN (fun g => ?_) r z3 (CM_mv cm1 t3 (w1 _ _ s3)) ?_)
    · have := g.1
      omega
    · rw [h3', if_pos (by omega)]; rfl
