-- THE WALK: places taken so far, and the best
def PL (z : St) (n : Int) : Prop := ∀ l : Nat, (l : Int) < n → OKp z l (gF z 32 l)
def BO (c : Prop) (z : St) : Prop := (c ∧ gJ z 2214 = 1000000000000000000) ∨ ∀ l : Nat, (l : Int) < (gI z 2213).toInt → OKp z l (gF z 33 l)
theorem BO_same {c : Prop} {I F : List Nat} {z z1 : St} (h : BO c z) (s : Same I F z z1) (hj : gJ z1 2214 = gJ z 2214) (hI : 2213 ∉ I) (h15 : 15 ∉ F) (h17 : 17 ∉ F) (h23 : 23 ∉ F) (h33 : 33 ∉ F) : BO c z1 := by
  unfold BO OKp
  rw [hj, s.1 2213 hI, s.2 15 h15, s.2 17 h17, s.2 23 h23, s.2 33 h33]
  exact h
theorem PL_same {I F : List Nat} {z z1 : St} {n : Int} (h : PL z n) (s : Same I F z z1) (hp : ∀ l : Nat, (l : Int) < n → gF z1 32 l = gF z 32 l) (h15 : 15 ∉ F) (h17 : 17 ∉ F) (h23 : 23 ∉ F) : PL z1 n := by
  intro l hl
  rw [hp l hl]
  exact OKp_same (h l hl) s h15 h17 h23
theorem k_X6_keepWay (c9 : Prop) (b1 : Int64) (z : St) (P : St → Prop) (ht : TX z) (hpl : PL z (gI z 2213).toInt) (hbo : BO c9 z) (hk : ∀ (z2 : St), TX z2 → Same [] [33] z z2 → BO c9 z2 → P z2) : wp_X6_keepWay b1 z P := by
  have hs : 0 ≤ (gI z 2213).toInt ∧ (gI z 2213).toInt ≤ 5 := ht.1 2213
  unfold wp_X6_keepWay
  refine ⟨fun _ => hk z ht Same.rf hbo, fun _ => ⟨by decide, ?_⟩⟩
  intro z2 e2 z3 e3
  have t2 : TX z2 := by rw [e2]; exact Ty_wRf ht (fun i => by unfold va_cpy; split; exact ht.2 32 _; exact ht.2 33 _)
  have t3 : TX z3 := by rw [e3]; exact Ty_wJ t2
  have o2 : Same [] [33] z z2 := Same.rf.r (by decide) e2
  have o3 : Same [] [33] z z3 := o2.j e3
  have b3 : ∀ l : Nat, (l : Int) < (gI z3 2213).toInt → OKp z3 l (gF z3 33 l) := by
    intro l hl
    have hl2 : (l : Int) < (gI z 2213).toInt := by rw [e3, e2] at hl; exact hl
    have eb : gF z3 33 l = gF z 32 l := by
      rw [e3, e2]
      show va_cpy (gF z 32) (gF z 33) 0 0 5 l = _
      unfold va_cpy
      rw [if_pos ⟨by omega, by omega⟩, Nat.sub_zero, Nat.zero_add]
    rw [eb]
    exact OKp_same (hpl l hl2) o3 (by decide) (by decide) (by decide)
  refine ⟨fun _ => ?_, fun _ => ?_⟩
  · intro z5 e5
    exact hk z5 (by rw [e5]; exact Ty_wJ t3) (o3.j e5) (by rw [e5]; exact Or.inr b3)
  · intro z5 e5
    exact hk z5 (by rw [e5]; exact Ty_wJ t3) (o3.j e5) (by rw [e5]; exact Or.inr b3)
abbrev WK (c9 : Prop) (z : St) (n : Int) (P : St → Prop) : Prop := ∀ (z2 : St), TX z2 → Same [] [10, 12, 30, 32, 33] z z2 → (∀ l : Nat, (l : Int) < n → gF z2 32 l = gF z 32 l) → BO c9 z2 → P z2
theorem k_X6_step (c9 : Prop) (Wk : Int32 → Int64 → St → (St → Prop) → Prop) (b1 b2 : Int32) (b3 : Int64) (z : St) (P : St → Prop) (ht : TX z) (hfs : FS z) (h0 : 0 ≤ b1.toInt) (h1 : b1.toInt ≤ 4) (h2 : 0 ≤ b2.toInt ∧ b2.toInt ≤ 23) (hok : OKp z b1.toNatClampNeg b2) (hpl : PL z b1.toInt) (hbo : BO c9 z) (hW : ∀ (c1 : Int32) (zz : St) (Q : St → Prop), c1.toInt = b1.toInt + 1 → TX zz → FS zz → PL zz c1.toInt → BO c9 zz → WK c9 zz c1.toInt Q → Wk c1 b3 zz Q) (hk : WK c9 z b1.toInt P) : wp_X6_step Wk b1 b2 b3 z P := by
  have hv : vp_in b1 5 := vin rfl h0 (by omega)
  have cb := clampN h0
  have f23 : 0 ≤ (gF z 23 b1.toNatClampNeg).toInt ∧ (gF z 23 b1.toNatClampNeg).toInt ≤ 15 := ht.2 23 _
  have f15 : 0 ≤ (gF z 15 (gF z 23 b1.toNatClampNeg).toNatClampNeg).toInt ∧ (gF z 15 (gF z 23 b1.toNatClampNeg).toNatClampNeg).toInt ≤ 167 := ht.2 15 _
  have hok' := hok
  unfold OKp at hok'
  unfold wp_X6_step
  refine ⟨hv, vin rfl (by omega) (by omega), ?_⟩
  intro x1 ex1
  have i1 : x1.toInt = (gF z 15 (gF z 23 b1.toNatClampNeg).toNatClampNeg).toInt + b2.toInt := by rw [ex1]; exact a_add rfl rfl (by omega) (by omega)
  refine ⟨hv, ?_⟩
  refine s_X1_isBorne _ _ _ _ ht f23 (by omega) (by omega) (fun r3 hr => ?_)
  refine ⟨fun _ => ⟨hv, ?_⟩, fun _ => hk z ht Same.rf (fun _ _ => rfl) hbo⟩
  intro z5 e5
  have t5 : TX z5 := by rw [e5]; exact Ty_wR ht h2
  have o5 : Same [] [10, 12, 30, 32, 33] z z5 := Same.rf.r (by decide) e5
  have q23 : gF z5 23 = gF z 23 := by rw [e5]; rfl
  have q17 : gF z5 17 = gF z 17 := by rw [e5]; rfl
  refine ⟨hv, ?_⟩
  refine s2_X1_draw _ _ _ _ _ t5 (by rw [q23]; exact f23) (by omega) (by rw [q23, q17]; omega) (fun z6 t6 o6 j6 _ => ?_)
  have o6' : Same [] [10, 12, 30, 32, 33] z z6 := o5.tr o6 (by decide) (by decide)
  have a1 : (b1 + (1 : Int32)).toInt = b1.toInt + 1 := a_add rfl rfl (by omega) (by omega)
  have p6 : ∀ l : Nat, gF z6 32 l = if l = b1.toNatClampNeg then b2 else gF z 32 l := fun l => by rw [o6.2 32 (by decide), e5, gF_upd]
  have pl6 : PL z6 (b1 + (1 : Int32)).toInt := by
    intro l hl
    rw [p6]
    by_cases e : l = b1.toNatClampNeg
    · rw [if_pos e, e]; exact OKp_same hok o6' (by decide) (by decide) (by decide)
    · rw [if_neg e]; exact OKp_same (hpl l (by omega)) o6' (by decide) (by decide) (by decide)
  have bo5 : BO c9 z5 := BO_same hbo (Same.rf.r (I := []) (F := [32]) (by decide) e5) (by rw [e5]; rfl) (by decide) (by decide) (by decide) (by decide) (by decide)
  have bo6 : BO c9 z6 := BO_same bo5 o6 j6 (by decide) (by decide) (by decide) (by decide) (by decide)
  have fs6 : FS z6 := FS_same hfs o6' (by decide) (by decide) (by decide) (by decide) (by decide) (by decide)
  refine hW _ z6 _ a1 t6 fs6 pl6 bo6 (fun z8 t8 o8 k8 bo8 => ⟨hv, ?_⟩)
  have o8' : Same [] [10, 12, 30, 32, 33] z z8 := o6'.tr o8 (by decide) (by decide)
  have r23 : gF z8 23 = gF z 23 := o8'.2 23 (by decide)
  have r17 : gF z8 17 = gF z 17 := o8'.2 17 (by decide)
  refine s2_X1_draw _ _ _ _ _ t8 (by rw [r23]; exact f23) (by omega) (by rw [r23, r17]; omega) (fun z10 t10 o10 j10 _ => ?_)
  refine hk z10 t10 (o8'.tr o10 (by decide) (by decide)) (fun l hl => ?_) (BO_same bo8 o10 j10 (by decide) (by decide) (by decide) (by decide) (by decide))
  rw [o10.2 32 (by decide), k8 l (by omega), p6, if_neg (by omega)]
theorem k_X6_walk (c9 : Prop) : ∀ (n : Nat) (b1 : Int32) (b2 : Int64) (z : St) (P : St → Prop) (ht : TX z) (hfs : FS z) (h0 : 0 ≤ b1.toInt) (h1 : b1.toInt ≤ 5) (hn : 6 ≤ b1.toInt + n) (hpl : PL z b1.toInt) (hbo : BO c9 z) (hk : WK c9 z b1.toInt P), wp_X6_walk n b1 b2 z P := by
  intro n
  induction n with
  | zero => intro b1 b2 z P ht hfs h0 h1 hn; omega
  | succ n ih =>
    intro b1 b2 z P ht hfs h0 h1 hn hpl hbo hk
    have hs : 0 ≤ (gI z 2213).toInt ∧ (gI z 2213).toInt ≤ 5 := ht.1 2213
    unfold wp_X6_walk
    intro K1 hK1
    have hend : (gI z 2213).toInt ≤ b1.toInt → K1 := fun hl => hK1 (k_X6_keepWay c9 b2 z _ ht (fun l q => hpl l (by omega)) hbo (fun z2 t2 o2 bo2 => hk z2 t2 (Same.tr (z1 := z) Same.rf o2 (by decide) (by decide)) (fun l _ => by rw [o2.2 32 (by decide)]) bo2))
    refine ⟨fun c => hend (i_le rfl rfl c), fun c => ⟨fun c5 => ?_, fun c5 => hend ?_⟩⟩
    · have h4 := i_lt (p := b1.toInt) (q := 5) rfl rfl c5
      have cb := clampN h0
      have m5 : (b1 * (5 : Int32)).toInt = b1.toInt * 5 := a_mul rfl rfl (by omega) (by omega)
      have m24 : (b1 * (24 : Int32)).toInt = b1.toInt * 24 := a_mul rfl rfl (by omega) (by omega)
      have hv5 : vp_in b1 5 := vin rfl h0 (by omega)
      refine ⟨vin (a_add m5 rfl (by omega) (by omega)) (by omega) (by omega), ?_⟩
      intro x6 _
      refine ⟨vin rfl h0 (by omega), ?_⟩
      refine s_X6_leastOf _ _ _ _ ht (by omega) (fun r8 _ => ?_)
      intro x9 _ K11 hK11
      have L : ∀ (m : Nat) (v10 : Int32) (z12 : St), TX z12 → Same [] [10, 12, 30, 32, 33] z z12 → (∀ l : Nat, (l : Int) < b1.toInt → gF z12 32 l = gF z 32 l) → BO c9 z12 → 0 ≤ v10.toInt → v10.toInt ≤ 24 → (24 - v10.toInt).toNat < m → K11 v10 z12 := by
        intro m
        induction m with
        | zero => intro v10 z12 _ _ _ _ _ _ q; omega
        | succ m ihm =>
          intro v10 z12 t12 o12 k12 bo12 g0 g1 gm
          have f25 : 0 ≤ (gF z12 25 b1.toNatClampNeg).toInt ∧ (gF z12 25 b1.toNatClampNeg).toInt ≤ 24 := t12.2 25 _
          refine hK11 v10 z12 ⟨hv5, fun c => hk z12 t12 o12 k12 bo12, fun c => ?_⟩
          have c' := i_nle rfl rfl c
          have fs12 : FS z12 := FS_same hfs o12 (by decide) (by decide) (by decide) (by decide) (by decide) (by decide)
          intro K15 hK15
          have m1 : (b1 * (24 : Int32) + v10).toInt = b1.toInt * 24 + v10.toInt := a_add m24 rfl (by omega) (by omega)
          have hpl' := FS_pl fs12 (i := b1) (a := v10) (x := b1 * (24 : Int32) + v10) m1 h0 (by omega) g0 c'
          have hx : vp_in (b1 * (24 : Int32) + v10) 120 := vin m1 (by omega) (by omega)
          have h15 : ∀ s14 : Int32, (0 ≤ s14.toInt ∧ s14.toInt ≤ 23) → OKp z12 b1.toNatClampNeg s14 → K15 s14 := by
            intro s14 hs14 ho
            refine hK15 s14 ⟨vin (a_add m24 rfl (by omega) (by omega)) (by omega) (by omega), ?_⟩
            intro x16 _ K17 hK17
            have hnext : ∀ z18 : St, TX z18 → Same [] [10, 12, 30, 32, 33] z z18 → (∀ l : Nat, (l : Int) < b1.toInt → gF z18 32 l = gF z 32 l) → BO c9 z18 → K17 z18 := by
              intro z18 t18 o18 k18 bo18
              refine hK17 z18 (fun x19 e19 => ?_)
              have i19 : x19.toInt = v10.toInt + 1 := by rw [e19]; exact a_add rfl rfl (by omega) (by omega)
              exact ihm x19 z18 t18 o18 k18 bo18 (by omega) (by omega) (by omega)
            refine ⟨fun _ => hnext z12 t12 o12 k12 bo12, fun _ => ⟨fun _ => hnext z12 t12 o12 k12 bo12, fun _ => ?_⟩⟩
            refine s2_X6_narrow _ _ _ _ t12 (by omega) hs14 (fun r23 z22 t22 o22 j22 _ => ?_)
            have o22' : Same [] [10, 12, 30, 32, 33] z z22 := o12.tr o22 (by decide) (by decide)
            have k22 : ∀ l : Nat, (l : Int) < b1.toInt → gF z22 32 l = gF z 32 l := fun l hl => by rw [o22.2 32 (by decide)]; exact k12 l hl
            have bo22 : BO c9 z22 := BO_same bo12 o22 j22 (by decide) (by decide) (by decide) (by decide) (by decide)
            refine ⟨fun _ => ⟨vin (a_add rfl (show (1 : Int32).toInt = 1 from rfl) (by omega) (by omega)) (by omega) (by omega), fun _ => hnext z22 t22 o22' k22 bo22, fun _ => ?_⟩, fun _ => hnext z22 t22 o22' k22 bo22⟩
            refine k_X6_step c9 (wp_X6_walk n) b1 s14 x16 z22 _ t22 (FS_same fs12 o22 (by decide) (by decide) (by decide) (by decide) (by decide) (by decide)) h0 (by omega) hs14 (OKp_same ho o22 (by decide) (by decide) (by decide)) (PL_same hpl o22' k22 (by decide) (by decide) (by decide)) bo22 (fun c1 zz Q hc tz fz pz bz hQ => ih c1 x16 zz Q tz fz (by omega) (by omega) (by omega) pz bz hQ) (fun z26 t26 o26 k26 bo26 => ?_)
            exact hnext z26 t26 (o22'.tr o26 (by decide) (by decide)) (fun l hl => by rw [k26 l hl]; exact k22 l hl) bo26
          exact ⟨fun _ => ⟨hx, h15 _ (t12.2 27 _) hpl'.2⟩, fun _ => ⟨hx, h15 _ (t12.2 26 _) hpl'.1⟩⟩
      exact L 25 0 z ht Same.rf (fun _ _ => rfl) hbo (by decide) (by decide) (by decide)
    · have := i_nlt (p := b1.toInt) (q := 5) rfl rfl c5
      omega
theorem s_X6_walkTwice (z : St) (P : Int32 → St → Prop) (ht : TX z) (hfs : FS z) (hk : ∀ (r : Int32) (z2 : St), TX z2 → Same [2216] [10, 12, 30, 32, 33] z z2 → ((r = 1 ∧ (∀ l : Nat, (l : Int) < (gI z2 2213).toInt → OKp z2 l (gF z2 33 l))) ∨ (r = 0 ∧ True)) → P r z2) : wp_X6_walkTwice z P := by
  unfold wp_X6_walkTwice
  intro z1 e1 z2 e2 z3 e3
  have t1 : TX z1 := by rw [e1]; exact Ty_wJ ht
  have t2 : TX z2 := by rw [e2]; exact Ty_wJ t1
  have t3 : TX z3 := by rw [e3]; exact Ty_wI t2 trivial
  have o3 : Same [2216] [10, 12, 30, 32, 33] z z3 := ((Same.rf.j e1).j e2).i (by decide) e3
  have z00 : (0 : Int32).toInt = 0 := rfl
  have pz : ∀ zz : St, PL zz (0 : Int32).toInt := fun zz l hl => by omega
  refine k_X6_walk True 7 0 0 z3 _ t3 (FS_same hfs o3 (by decide) (by decide) (by decide) (by decide) (by decide) (by decide)) (by omega) (by omega) (by omega) (pz z3) (Or.inl ⟨trivial, by rw [e3, e2, e1]; rfl⟩) (fun z4 t4 o4 _ bo4 => ?_)
  have o4' : Same [2216] [10, 12, 30, 32, 33] z z4 := o3.tr o4 (by decide) (by decide)
  refine ⟨fun c6 => ?_, fun _ => hk 0 z4 t4 o4' (Or.inr ⟨rfl, trivial⟩)⟩
  have hb : ∀ l : Nat, (l : Int) < (gI z4 2213).toInt → OKp z4 l (gF z4 33 l) := by
    rcases bo4 with q | q
    · exact absurd (show lg_cmp (gJ z4 2214) (1000000000000000000 : Int64) = 0 by rw [q.2]; decide) c6
    · exact q
  intro z7 e7 z8 e8
  have t7 : TX z7 := by rw [e7]; exact Ty_wJ t4
  have t8 : TX z8 := by rw [e8]; exact Ty_wI t7 trivial
  have o8 : Same [2216] [10, 12, 30, 32, 33] z z8 := (o4'.j e7).i (by decide) e8
  have b8 : ∀ l : Nat, (l : Int) < (gI z8 2213).toInt → OKp z8 l (gF z8 33 l) := by rw [e8, e7]; exact hb
  refine k_X6_walk False 7 0 0 z8 _ t8 (FS_same hfs o8 (by decide) (by decide) (by decide) (by decide) (by decide) (by decide)) (by omega) (by omega) (by omega) (pz z8) (Or.inr b8) (fun z9 t9 o9 _ bo9 => ?_)
  refine hk 1 z9 t9 (o8.tr o9 (by decide) (by decide)) (Or.inl ⟨rfl, ?_⟩)
  rcases bo9 with q | q
  · exact absurd q.1 (fun h => h)
  · exact q
