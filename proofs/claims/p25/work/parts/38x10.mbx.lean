-- MAY IT BEGIN: one predicate for both sides
def bt (x : Int32) (b : Int32) : Prop := ¬ ((x >>> (b &&& 31)) &&& (1 : Int32)) = 0
/-- h: the hour; hr: the hours needed; nd k: the need of the k-th; F, A: what is drawn at home and by all without it -/
def MBp (nw fs ls hr : Int) (nd : Nat → Int32) (fuse cab : Int32) (Qh D : Nat → Prop) (F A : Nat → Int32) (T : Prop) (h : Int) : Prop := nw ≤ h ∧ fs ≤ h ∧ h ≤ ls ∧ h + hr ≤ 168 ∧ (∀ k : Nat, (k : Int) < hr → (¬ Qh ((h.toNat + k) % 24) ∧ ¬ D (h.toNat + k)) ∧ (F (h.toNat + k) + nd k ≤ fuse ∧ A (h.toNat + k) + nd k ≤ cab)) ∧ T
/-- in turn: st, bg the plan; hr the hours; B i j: i before j -/
def TUp (n : Nat) (st bg hr : Nat → Int32) (B : Nat → Nat → Prop) (j : Nat) (h : Int) : Prop := ∀ o : Nat, o < n → ¬ st o = 0 → (B j o → h + (hr j).toInt ≤ (bg o).toInt) ∧ (B o j → (bg o).toInt + (hr o).toInt ≤ h)
def Fx (z : St) (home : Nat) (t : Nat) : Int32 := gF z 9 (24 * home + t % 24) + gF z 10 (168 * home + t)
def Ax (z : St) (t : Nat) : Int32 := gF z 11 (t % 24) + gF z 12 t
def Bx (z : St) (i j : Nat) : Prop := bt (gF z 36 i) (nI j)
def Qx (z : St) (home h : Nat) : Prop := bt (gF z 35 home) (nI h)
def Dx (z : St) (t : Nat) : Prop := gI z 3402 < gF z 5 t
def TUx (z : St) (j : Nat) (h : Int) : Prop := TUp (gI z 1308).toNatClampNeg (gF z 19) (gF z 20) (gF z 17) (Bx z) j h
def BOx (z : St) (j : Nat) (h : Int) : Prop := ∀ k : Nat, (k : Int) < (gF z 17 j).toInt → Fx z (gF z 14 j).toNatClampNeg (h.toNat + k) + gF z 18 (4 * j + k) ≤ gF z 8 (gF z 14 j).toNatClampNeg ∧ Ax z (h.toNat + k) + gF z 18 (4 * j + k) ≤ gI z 706
def MBx (z : St) (j : Nat) (h : Int) : Prop := MBp (gI z 2104).toInt (gF z 15 j).toInt (gF z 16 j).toInt (gF z 17 j).toInt (fun k => gF z 18 (4 * j + k)) (gF z 8 (gF z 14 j).toNatClampNeg) (gI z 706) (Qx z (gF z 14 j).toNatClampNeg) (Dx z) (Fx z (gF z 14 j).toNatClampNeg) (Ax z) (TUx z j h) h
theorem v_isBefore (b1 b2 : Int32) (z : St) (P : Int32 → Prop) (h0 : 0 ≤ b1.toInt ∧ b1.toInt ≤ 15) (h1 : 0 ≤ b2.toInt) (hk1 : Bx z b1.toNatClampNeg b2.toNatClampNeg → P 1) (hk0 : ¬ Bx z b1.toNatClampNeg b2.toNatClampNeg → P 0) : wp_X5_isBefore_c34 b1 b2 z P := by
  unfold Bx bt at hk1 hk0
  rw [← nI_cl h1] at hk1 hk0
  unfold wp_X5_isBefore_c34
  exact ⟨vin rfl h0.1 (by omega), fun c => hk0 (fun q => q c), fun c => hk1 c⟩
theorem v_isQuiet (b1 b2 : Int32) (z : St) (P : Int32 → Prop) (h0 : 0 ≤ b1.toInt ∧ b1.toInt ≤ 3) (h1 : 0 ≤ b2.toInt) (hk1 : Qx z b1.toNatClampNeg b2.toNatClampNeg → P 1) (hk0 : ¬ Qx z b1.toNatClampNeg b2.toNatClampNeg → P 0) : wp_X5_isQuiet_c34 b1 b2 z P := by
  unfold Qx bt at hk1 hk0
  rw [← nI_cl h1] at hk1 hk0
  unfold wp_X5_isQuiet_c34
  exact ⟨vin rfl h0.1 (by omega), fun c => hk0 (fun q => q c), fun c => hk1 c⟩
theorem v_X0_bears (b1 b2 b3 : Int32) (z : St) (P : Int32 → Prop) (h0 : 0 ≤ b1.toInt ∧ b1.toInt ≤ 3) (h1 : 0 ≤ b2.toInt ∧ b2.toInt ≤ 167) (hk1 : (Fx z b1.toNatClampNeg b2.toNatClampNeg + b3 ≤ gF z 8 b1.toNatClampNeg ∧ Ax z b2.toNatClampNeg + b3 ≤ gI z 706) → P 1) (hk0 : ¬ (Fx z b1.toNatClampNeg b2.toNatClampNeg + b3 ≤ gF z 8 b1.toNatClampNeg ∧ Ax z b2.toNatClampNeg + b3 ≤ gI z 706) → P 0) : wp_X0_bears b1 b2 b3 z P := by
  have c1 := clampN h0.1
  have c2 := clampN h1.1
  have ir : (b2 - b2 / (24 : Int32) * (24 : Int32)).toInt = b2.toInt % 24 := a_rem rfl h1.1 rfl
  have cr := clampN (x := b2 - b2 / (24 : Int32) * (24 : Int32)) (by omega)
  have m24 : (b1 * (24 : Int32)).toInt = b1.toInt * 24 := a_mul rfl (show (24 : Int32).toInt = 24 from rfl) (by omega) (by omega)
  have m168 : (b1 * (168 : Int32)).toInt = b1.toInt * 168 := a_mul rfl (show (168 : Int32).toInt = 168 from rfl) (by omega) (by omega)
  have ia : (b1 * (24 : Int32) + (b2 - b2 / (24 : Int32) * (24 : Int32))).toInt = b1.toInt * 24 + b2.toInt % 24 := a_add m24 ir (by omega) (by omega)
  have ib : (b1 * (168 : Int32) + b2).toInt = b1.toInt * 168 + b2.toInt := a_add m168 rfl (by omega) (by omega)
  have ca := clampN (x := b1 * (24 : Int32) + (b2 - b2 / (24 : Int32) * (24 : Int32))) (by omega)
  have cb := clampN (x := b1 * (168 : Int32) + b2) (by omega)
  have ea : (b1 * (24 : Int32) + (b2 - b2 / (24 : Int32) * (24 : Int32))).toNatClampNeg = 24 * b1.toNatClampNeg + b2.toNatClampNeg % 24 := by omega
  have eb : (b1 * (168 : Int32) + b2).toNatClampNeg = 168 * b1.toNatClampNeg + b2.toNatClampNeg := by omega
  have er : (b2 - b2 / (24 : Int32) * (24 : Int32)).toNatClampNeg = b2.toNatClampNeg % 24 := by omega
  unfold Fx Ax at hk1 hk0
  unfold wp_X0_bears wp_X0_draws
  refine ⟨vin ia (by omega) (by omega), vin ib (by omega) (by omega), vin rfl h0.1 (by omega), ?_⟩
  rw [ea, eb]
  refine ⟨fun c => hk0 (fun q => Int32.not_lt.mpr q.1 c), fun c => ?_⟩
  unfold wp_X0_allDraw
  refine ⟨vin ir (by omega) (by omega), vin rfl h1.1 (by omega), ?_⟩
  rw [er]
  exact ⟨fun c' => hk0 (fun q => Int32.not_lt.mpr q.2 c'), fun c' => hk1 ⟨Int32.not_lt.mp c, Int32.not_lt.mp c'⟩⟩
theorem v_X1_isBorne (b1 b2 : Int32) (z : St) (P : Int32 → Prop) (ht : TX z) (h0 : 0 ≤ b1.toInt ∧ b1.toInt ≤ 15) (h1 : 0 ≤ b2.toInt) (h2 : b2.toInt + (gF z 17 b1.toNatClampNeg).toInt ≤ 168) (hk1 : BOx z b1.toNatClampNeg b2.toInt → P 1) (hk0 : ¬ BOx z b1.toNatClampNeg b2.toInt → P 0) : wp_X1_isBorne b1 b2 z P := by
  have c1 := clampN h0.1
  have c2 := clampN h1
  have f17 : 0 ≤ (gF z 17 b1.toNatClampNeg).toInt ∧ (gF z 17 b1.toNatClampNeg).toInt ≤ 4 := ht.2 17 _
  have f14 : 0 ≤ (gF z 14 b1.toNatClampNeg).toInt ∧ (gF z 14 b1.toNatClampNeg).toInt ≤ 3 := ht.2 14 _
  have hv : vp_in b1 16 := vin rfl h0.1 (by omega)
  have m4 : (b1 * (4 : Int32)).toInt = b1.toInt * 4 := a_mul rfl (show (4 : Int32).toInt = 4 from rfl) (by omega) (by omega)
  unfold wp_X1_isBorne
  intro K2 hK2
  have LL : ∀ (n : Nat) (v1 : Int32), 0 ≤ v1.toInt → v1.toInt ≤ 4 → (∀ k : Nat, (k : Int) < v1.toInt → (k : Int) < (gF z 17 b1.toNatClampNeg).toInt → Fx z (gF z 14 b1.toNatClampNeg).toNatClampNeg (b2.toInt.toNat + k) + gF z 18 (4 * b1.toNatClampNeg + k) ≤ gF z 8 (gF z 14 b1.toNatClampNeg).toNatClampNeg ∧ Ax z (b2.toInt.toNat + k) + gF z 18 (4 * b1.toNatClampNeg + k) ≤ gI z 706) → (4 - v1.toInt).toNat < n → K2 v1 := by
    intro n
    induction n with
    | zero => intro v1 _ _ _ q; omega
    | succ n ih =>
      intro v1 g0 g1 hall gm
      have cv := clampN g0
      refine hK2 v1 ⟨hv, fun c => hk1 (fun k hk => hall k (by have := i_le rfl rfl c; omega) hk), fun c => ?_⟩
      have c' := i_nle rfl rfl c
      have i4 : (b1 * (4 : Int32) + v1).toInt = b1.toInt * 4 + v1.toInt := a_add m4 rfl (by omega) (by omega)
      have c4 := clampN (x := b1 * (4 : Int32) + v1) (by omega)
      have e4 : (b1 * (4 : Int32) + v1).toNatClampNeg = 4 * b1.toNatClampNeg + v1.toNatClampNeg := by omega
      have ih1 : (b2 + v1).toInt = b2.toInt + v1.toInt := a_add rfl rfl (by omega) (by omega)
      have ch := clampN (x := b2 + v1) (by omega)
      have eh : (b2 + v1).toNatClampNeg = b2.toInt.toNat + v1.toNatClampNeg := by omega
      refine ⟨hv, vin i4 (by omega) (by omega), ?_⟩
      refine v_X0_bears _ _ _ _ _ f14 (by omega) (fun ok => ⟨fun _ => ?_, fun q => absurd q (by decide)⟩) (fun no => ⟨fun q => absurd rfl q, fun _ => hk0 (fun q => no ?_)⟩)
      · rw [eh, e4] at ok
        intro x7 e7
        have i7 : x7.toInt = v1.toInt + 1 := by rw [e7]; exact a_add rfl rfl (by omega) (by omega)
        refine ih x7 (by omega) (by omega) (fun k h1 h2 => ?_) (by omega)
        by_cases e : k = v1.toNatClampNeg
        · rw [e]; exact ok
        · exact hall k (by omega) h2
      · rw [eh, e4]; exact q v1.toNatClampNeg (by omega)
  exact LL 5 0 (by decide) (by decide) (fun k h => absurd h (by have : (0 : Int32).toInt = 0 := rfl; omega)) (by decide)
theorem v_X2_isInTurn (b1 b2 : Int32) (z : St) (P : Int32 → Prop) (ht : TX z) (h0 : 0 ≤ b1.toInt ∧ b1.toInt ≤ 15) (h1 : 0 ≤ b2.toInt ∧ b2.toInt ≤ 168) (hk1 : TUx z b1.toNatClampNeg b2.toInt → P 1) (hk0 : ¬ TUx z b1.toNatClampNeg b2.toInt → P 0) : wp_X2_isInTurn b1 b2 z P := by
  have f : 0 ≤ (gI z 1308).toInt ∧ (gI z 1308).toInt ≤ 16 := ht.1 1308
  have cn := clampN f.1
  have f17 : ∀ i, 0 ≤ (gF z 17 i).toInt ∧ (gF z 17 i).toInt ≤ 4 := fun i => ht.2 17 i
  have f20 : ∀ i, -1 ≤ (gF z 20 i).toInt ∧ (gF z 20 i).toInt ≤ 167 := fun i => ht.2 20 i
  unfold wp_X2_isInTurn
  intro K2 hK2
  have LL : ∀ (n : Nat) (v1 : Int32), 0 ≤ v1.toInt → v1.toInt ≤ 16 → (∀ o : Nat, (o : Int) < v1.toInt → ¬ gF z 19 o = 0 → (Bx z b1.toNatClampNeg o → b2.toInt + (gF z 17 b1.toNatClampNeg).toInt ≤ (gF z 20 o).toInt) ∧ (Bx z o b1.toNatClampNeg → (gF z 20 o).toInt + (gF z 17 o).toInt ≤ b2.toInt)) → (16 - v1.toInt).toNat < n → K2 v1 := by
    intro n
    induction n with
    | zero => intro v1 _ _ _ q; omega
    | succ n ih =>
      intro v1 g0 g1 hall gm
      have cv := clampN g0
      refine hK2 v1 ⟨fun c => hk1 (fun o ho => hall o (by have := i_le rfl rfl c; omega)), fun c => ?_⟩
      have c' := i_nle rfl rfl c
      have hv : vp_in v1 16 := vin rfl g0 (by omega)
      refine ⟨hv, ?_⟩
      intro K4 hK4
      have next : (¬ gF z 19 v1.toNatClampNeg = 0 → (Bx z b1.toNatClampNeg v1.toNatClampNeg → b2.toInt + (gF z 17 b1.toNatClampNeg).toInt ≤ (gF z 20 v1.toNatClampNeg).toInt) ∧ (Bx z v1.toNatClampNeg b1.toNatClampNeg → (gF z 20 v1.toNatClampNeg).toInt + (gF z 17 v1.toNatClampNeg).toInt ≤ b2.toInt)) → K4 := by
        intro hq
        refine hK4 (fun x5 e5 => ?_)
        have i5 : x5.toInt = v1.toInt + 1 := by rw [e5]; exact a_add rfl rfl (by omega) (by omega)
        refine ih x5 (by omega) (by omega) (fun o ho => ?_) (by omega)
        by_cases e : o = v1.toNatClampNeg
        · rw [e]; exact hq
        · exact hall o (by omega)
      have bad : ∀ (hs : ¬ gF z 19 v1.toNatClampNeg = 0), ¬ ((Bx z b1.toNatClampNeg v1.toNatClampNeg → b2.toInt + (gF z 17 b1.toNatClampNeg).toInt ≤ (gF z 20 v1.toNatClampNeg).toInt) ∧ (Bx z v1.toNatClampNeg b1.toNatClampNeg → (gF z 20 v1.toNatClampNeg).toInt + (gF z 17 v1.toNatClampNeg).toInt ≤ b2.toInt)) → P 0 := fun hs hn => hk0 (fun q => hn (q v1.toNatClampNeg (by omega) hs))
      refine ⟨fun cs => ⟨hv, ?_⟩, fun cs => next (fun q => absurd cs q)⟩
      intro x7 e7
      have g17 := f17 v1.toNatClampNeg
      have g17' := f17 b1.toNatClampNeg
      have g20 := f20 v1.toNatClampNeg
      have i7 : x7.toInt = (gF z 20 v1.toNatClampNeg).toInt := by rw [e7]
      have ia : (x7 + gF z 17 v1.toNatClampNeg).toInt = (gF z 20 v1.toNatClampNeg).toInt + (gF z 17 v1.toNatClampNeg).toInt := a_add i7 rfl (by omega) (by omega)
      have ib : (b2 + gF z 17 b1.toNatClampNeg).toInt = b2.toInt + (gF z 17 b1.toNatClampNeg).toInt := a_add rfl rfl (by omega) (by omega)
      have tenth : ∀ (K10 : Prop), ((wp_X5_isBefore_c34 v1 b1 z (fun r12 => (((r12 = 0) → K4) ∧ (¬ (r12 = 0) → (vp_in v1 16 ∧ ((((x7 + (gF z 17 v1.toNatClampNeg)) ≤ b2) → K4) ∧ (¬ ((x7 + (gF z 17 v1.toNatClampNeg)) ≤ b2) → P ((0 : Int32))))))))) → K10) → (Bx z b1.toNatClampNeg v1.toNatClampNeg → b2.toInt + (gF z 17 b1.toNatClampNeg).toInt ≤ (gF z 20 v1.toNatClampNeg).toInt) → K10 := by
        intro K10 hK10 hp
        refine hK10 (v_isBefore _ _ _ _ (by omega) h0.1 (fun hb => ⟨fun q => absurd q (by decide), fun _ => ⟨hv, fun c2 => ?_, fun c2 => ?_⟩⟩) (fun hb => ⟨fun _ => next (fun _ => ⟨hp, fun q => absurd q hb⟩), fun q => absurd rfl q⟩))
        · have c2' := i_le ia rfl c2
          exact next (fun _ => ⟨hp, fun _ => c2'⟩)
        · have c2' := i_nle ia rfl c2
          exact bad cs (fun q => by have := q.2 hb; omega)
      refine v_isBefore _ _ _ _ h0 g0 (fun hb => ?_) (fun hb => ?_)
      · intro K10 hK10
        refine ⟨fun q => absurd q (by decide), fun _ => ⟨vin rfl h0.1 (by omega), fun c2 => ?_, fun c2 => ?_⟩⟩
        · have c2' := i_le ib i7 c2
          exact tenth K10 hK10 (fun _ => c2')
        · have c2' := i_nle ib i7 c2
          exact bad cs (fun q => by have := q.1 hb; omega)
      · intro K10 hK10
        exact ⟨fun _ => tenth K10 hK10 (fun q => absurd q hb), fun q => absurd rfl q⟩
  exact LL 17 0 (by decide) (by decide) (fun k h => absurd h (by have : (0 : Int32).toInt = 0 := rfl; omega)) (by decide)
theorem v_X2_mayBegin (b1 b2 : Int32) (z : St) (P : Int32 → Prop) (ht : TX z) (h0 : 0 ≤ b1.toInt ∧ b1.toInt ≤ 15) (hk1 : MBx z b1.toNatClampNeg b2.toInt → P 1) (hk0 : ¬ MBx z b1.toNatClampNeg b2.toInt → P 0) : wp_X2_mayBegin b1 b2 z P := by
  have hv : vp_in b1 16 := vin rfl h0.1 (by omega)
  have f2 : 0 ≤ (gI z 2104).toInt ∧ (gI z 2104).toInt ≤ 167 := ht.1 2104
  have f15 : 0 ≤ (gF z 15 b1.toNatClampNeg).toInt ∧ (gF z 15 b1.toNatClampNeg).toInt ≤ 167 := ht.2 15 _
  have f16 : 0 ≤ (gF z 16 b1.toNatClampNeg).toInt ∧ (gF z 16 b1.toNatClampNeg).toInt ≤ 167 := ht.2 16 _
  have f17 : 0 ≤ (gF z 17 b1.toNatClampNeg).toInt ∧ (gF z 17 b1.toNatClampNeg).toInt ≤ 4 := ht.2 17 _
  have f14 : 0 ≤ (gF z 14 b1.toNatClampNeg).toInt ∧ (gF z 14 b1.toNatClampNeg).toInt ≤ 3 := ht.2 14 _
  unfold wp_X2_mayBegin
  refine ⟨hv, ?_⟩
  intro x1 e1
  refine ⟨fun c => hk0 (fun q => by have := i_lt rfl rfl c; have := q.1; omega), fun c => ⟨hv, fun c2 => hk0 (fun q => by have := i_lt rfl rfl c2; have := q.2.1; omega), fun c2 => ⟨hv, fun c3 => hk0 (fun q => by have := i_lt rfl rfl c3; have := q.2.2.1; omega), fun c3 => ?_⟩⟩⟩
  have d1 := i_nlt rfl rfl c
  have d2 := i_nlt rfl rfl c2
  have d3 := i_nlt rfl rfl c3
  have i1 : (b2 + x1).toInt = b2.toInt + (gF z 17 b1.toNatClampNeg).toInt := a_add rfl (by rw [e1]) (by omega) (by omega)
  refine ⟨fun c4 => ?_, fun c4 => hk0 (fun q => by have := i_nle (q := 168) i1 rfl c4; have := q.2.2.2.1; omega)⟩
  have d4 := i_le (q := 168) i1 rfl c4
  intro K7 hK7
  have LL : ∀ (n : Nat) (v6 : Int32), b2.toInt ≤ v6.toInt → v6.toInt ≤ 168 → (∀ k : Nat, (k : Int) < v6.toInt - b2.toInt → (k : Int) < (gF z 17 b1.toNatClampNeg).toInt → ¬ Qx z (gF z 14 b1.toNatClampNeg).toNatClampNeg ((b2.toInt.toNat + k) % 24) ∧ ¬ Dx z (b2.toInt.toNat + k)) → (168 - v6.toInt).toNat < n → K7 v6 := by
    intro n
    induction n with
    | zero => intro v6 _ _ _ q; omega
    | succ n ih =>
      intro v6 g0 g1 hall gm
      have cv := clampN (x := v6) (by omega)
      refine hK7 v6 ⟨fun c => ?_, fun c => ?_⟩
      · have c' := i_le i1 rfl c
        refine v_X2_isInTurn _ _ _ _ ht h0 (by omega) (fun tu => ⟨fun q => absurd q (by decide), fun _ => ?_⟩) (fun tu => ⟨fun _ => hk0 (fun q => tu q.2.2.2.2.2), fun q => absurd rfl q⟩)
        refine v_X1_isBorne _ _ _ _ ht h0 (by omega) (by omega) (fun bo => ⟨fun q => absurd q (by decide), fun _ => hk1 ?_⟩) (fun bo => ⟨fun _ => hk0 (fun q => bo (fun k hk => (q.2.2.2.2.1 k hk).2)), fun q => absurd rfl q⟩)
        exact ⟨d1, d2, d3, d4, fun k hk => ⟨hall k (by omega) hk, bo k hk⟩, tu⟩
      · have c' := i_nle i1 rfl c
        have ir : (v6 - v6 / (24 : Int32) * (24 : Int32)).toInt = v6.toInt % 24 := a_rem rfl (by omega) rfl
        have cr := clampN (x := v6 - v6 / (24 : Int32) * (24 : Int32)) (by omega)
        have ek : b2.toInt.toNat + (v6.toInt - b2.toInt).toNat = v6.toNatClampNeg := by omega
        have er : (v6 - v6 / (24 : Int32) * (24 : Int32)).toNatClampNeg = (b2.toInt.toNat + (v6.toInt - b2.toInt).toNat) % 24 := by omega
        have bad : ¬ (¬ Qx z (gF z 14 b1.toNatClampNeg).toNatClampNeg ((b2.toInt.toNat + (v6.toInt - b2.toInt).toNat) % 24) ∧ ¬ Dx z (b2.toInt.toNat + (v6.toInt - b2.toInt).toNat)) → P 0 := fun hn => hk0 (fun q => hn (q.2.2.2.2.1 (v6.toInt - b2.toInt).toNat (by omega)).1)
        refine ⟨hv, ?_⟩
        refine v_isQuiet _ _ _ _ f14 (by omega) (fun hq => ⟨fun _ => ?_, fun q => absurd q (by decide)⟩) (fun hq => ⟨fun q => absurd rfl q, fun _ => ⟨vin rfl (by omega) (by omega), fun cd => ?_, fun cd => ?_⟩⟩)
        · rw [er] at hq
          exact bad (fun q => q.1 hq)
        · rw [er] at hq
          intro x19 e19
          have i19 : x19.toInt = v6.toInt + 1 := by rw [e19]; exact a_add rfl rfl (by omega) (by omega)
          refine ih x19 (by omega) (by omega) (fun k h1 h2 => ?_) (by omega)
          by_cases e : k = (v6.toInt - b2.toInt).toNat
          · rw [e]
            refine ⟨hq, fun q => ?_⟩
            unfold Dx at q
            rw [ek] at q
            exact Int32.not_lt.mpr cd q
          · exact hall k (by omega) h2
        · refine bad (fun q => q.2 ?_)
          unfold Dx
          rw [ek]
          exact Int32.not_le.mp cd
  exact LL _ b2 (by omega) (by omega) (fun k h => by omega) (Nat.lt_succ_self _)
