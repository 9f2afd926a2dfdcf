-- THE TAPE OF BOTH SIDES
def by4 (tp : Nat → Int32) (n : Nat) (b : Int32) : Nat → Int32 := upd (upd (upd (upd tp n ((b >>> ((24 : Int32) &&& 31)) &&& (255 : Int32))) (n + 1) ((b >>> ((16 : Int32) &&& 31)) &&& (255 : Int32))) (n + 2) ((b >>> ((8 : Int32) &&& 31)) &&& (255 : Int32))) (n + 3) ((b >>> ((0 : Int32) &&& 31)) &&& (255 : Int32))
theorem v_X4_append (b1 : Int32) (z : St) (P : St → Prop) (ht : TX z) (tp : Nat → Int32) (n : Nat) (h38 : gF z 38 = tp) (hn : (gI z 3701).toInt = (n : Int)) (hle : n ≤ 296) (hk : ∀ z2 : St, TX z2 → Same [3701] [38] z z2 → (gI z2 3701).toInt = ((n + 4 : Nat) : Int) → gF z2 38 = by4 tp n b1 → P z2) : wp_X4_append b1 z P := by
  have e300 : (300 : Int32).toInt = 300 := rfl
  unfold wp_X4_append
  intro K2 hK2
  have step : ∀ (v1 v2 : Int32) (m : Nat) (z3 : St) (f : Nat → Int32), ¬ v1 < 0 → v1 + (-8) = v2 → TX z3 → Same [3701] [38] z z3 → (gI z3 3701).toInt = (m : Int) → m ≤ 299 → gF z3 38 = f → (∀ z7 : St, TX z7 → Same [3701] [38] z z7 → (gI z7 3701).toInt = ((m + 1 : Nat) : Int) → gF z7 38 = upd f m ((b1 >>> (v1 &&& 31)) &&& (255 : Int32)) → K2 v2 z7) → K2 v1 z3 := by
    intro v1 v2 m z3 f hv h2 t3 s3 h3 hm hf hnext
    have cm := clampN (x := gI z3 3701) (by omega)
    have em : (gI z3 3701).toNatClampNeg = m := by omega
    refine hK2 v1 z3 ⟨fun c => absurd c hv, fun _ => ⟨fun c => ?_, fun _ => ⟨vin rfl (by omega) (by omega), ?_⟩⟩⟩
    · have := i_le e300 rfl c; omega
    · intro z6 e6 z7 e7 x8 e8
      have t6 : TX z6 := by rw [e6]; exact Ty_wR t3 trivial
      have i7 : (gI z6 3701 + (1 : Int32)).toInt = (m : Int) + 1 := a_add (by rw [e6]; exact h3) rfl (by omega) (by omega)
      rw [e8, h2]
      refine hnext z7 (by rw [e7]; exact Ty_wI t6 (show 0 ≤ (gI z6 3701 + (1 : Int32)).toInt ∧ (gI z6 3701 + (1 : Int32)).toInt ≤ 300 by omega)) ((s3.r (by decide) e6).i (by decide) e7) (by rw [e7]; exact i7) ?_
      rw [e7]; show gF z6 38 = _; rw [e6, gF_wR, em, hf]
  refine step 24 16 n z tp (by decide) (by decide) ht Same.rf hn (by omega) h38 (fun za ta sa na fa => ?_)
  refine step 16 8 (n + 1) za _ (by decide) (by decide) ta sa na (by omega) fa (fun zb tb sb nb fb => ?_)
  refine step 8 0 (n + 2) zb _ (by decide) (by decide) tb sb nb (by omega) fb (fun zc tc sc nc fc => ?_)
  refine step 0 (-8) (n + 3) zc _ (by decide) (by decide) tc sc nc (by omega) fc (fun zd td sd nd fd => ?_)
  exact hK2 _ zd ⟨fun _ => hk zd td sd nd fd, fun c => absurd (by decide) c⟩
theorem v_X9_four (b1 : Int32) (z : St) (P : St → Prop) (ht : TM z) (tp : Nat → Int32) (n : Nat) (h25 : gF z 25 = tp) (hn : (gI z 36).toInt = (n : Int)) (hle : n ≤ 296) (hk : ∀ z2 : St, TM z2 → Same [36] [25] z z2 → (gI z2 36).toInt = ((n + 4 : Nat) : Int) → gF z2 25 = by4 tp n b1 → P z2) : wp_X9_four b1 z P := by
  unfold wp_X9_four
  intro K2 hK2
  have step : ∀ (v1 v2 : Int32) (m : Nat) (z3 : St) (f : Nat → Int32), ¬ v1 < 0 → v1 + (-8) = v2 → TM z3 → Same [36] [25] z z3 → (gI z3 36).toInt = (m : Int) → m ≤ 299 → gF z3 25 = f → (∀ z7 : St, TM z7 → Same [36] [25] z z7 → (gI z7 36).toInt = ((m + 1 : Nat) : Int) → gF z7 25 = upd f m ((b1 >>> (v1 &&& 31)) &&& (255 : Int32)) → K2 v2 z7) → K2 v1 z3 := by
    intro v1 v2 m z3 f hv h2 t3 s3 h3 hm hf hnext
    have cm := clampN (x := gI z3 36) (by omega)
    have em : (gI z3 36).toNatClampNeg = m := by omega
    refine hK2 v1 z3 ⟨fun c => absurd c hv, fun _ => ⟨vin rfl (by omega) (by omega), ?_⟩⟩
    intro z6 e6 z7 e7 x8 e8
    have t6 : TM z6 := by rw [e6]; exact Ty_wR t3 trivial
    have i7 : (gI z6 36 + (1 : Int32)).toInt = (m : Int) + 1 := a_add (by rw [e6]; exact h3) rfl (by omega) (by omega)
    rw [e8, h2]
    refine hnext z7 (by rw [e7]; exact Ty_wI t6 (show 0 ≤ (gI z6 36 + (1 : Int32)).toInt ∧ (gI z6 36 + (1 : Int32)).toInt ≤ 300 by omega)) ((s3.r (by decide) e6).i (by decide) e7) (by rw [e7]; exact i7) ?_
    rw [e7]; show gF z6 25 = _; rw [e6, gF_wR, em, hf]
  refine step 24 16 n z tp (by decide) (by decide) ht Same.rf hn (by omega) h25 (fun za ta sa na fa => ?_)
  refine step 16 8 (n + 1) za _ (by decide) (by decide) ta sa na (by omega) fa (fun zb tb sb nb fb => ?_)
  refine step 8 0 (n + 2) zb _ (by decide) (by decide) tb sb nb (by omega) fb (fun zc tc sc nc fc => ?_)
  refine step 0 (-8) (n + 3) zc _ (by decide) (by decide) tc sc nc (by omega) fc (fun zd td sd nd fd => ?_)
  exact hK2 _ zd ⟨fun _ => hk zd td sd nd fd, fun c => absurd (by decide) c⟩
/-- what feed() makes of the tape -/
def fd5 (tp : Nat → Int32) (n : Nat) (a b c d e : Int32) : Nat → Int32 := by4 (by4 (by4 (by4 (by4 tp n a) (n + 4) b) (n + 8) c) (n + 12) d) (n + 16) e
theorem v_X8_feed (b1 b2 b3 b4 b5 : Int32) (z : St) (P : Int32 → St → Prop) (ht : TX z) (tp : Nat → Int32) (n : Nat) (h38 : gF z 38 = tp) (hn : (gI z 3701).toInt = (n : Int)) (hk1 : n ≤ 280 → ∀ (r : Int32) (z2 : St), TX z2 → Same [3701] [38] z z2 → (gI z2 3701).toInt = ((n + 20 : Nat) : Int) → gF z2 38 = fd5 tp n b1 b2 b3 b4 b5 → P r z2) (hk0 : ¬ n ≤ 280 → ∀ r, P r z) : wp_X8_feed b1 b2 b3 b4 b5 z P := by
  have e280 : (280 : Int32).toInt = 280 := rfl
  unfold wp_X8_feed
  refine ⟨fun c => ?_, fun c => hk0 (by have := i_nle rfl e280 c; omega) _⟩
  have c' := i_le rfl e280 c
  refine v_X4_append _ z _ ht tp n h38 hn (by omega) (fun za ta sa na fa => ?_)
  refine v_X4_append _ za _ ta _ (n + 4) fa na (by omega) (fun zb tb sb nb fb => ?_)
  refine v_X4_append _ zb _ tb _ (n + 8) fb nb (by omega) (fun zc tc sc nc fc => ?_)
  refine v_X4_append _ zc _ tc _ (n + 12) fc nc (by omega) (fun zd td sd nd fd => ?_)
  refine v_X4_append _ zd _ td _ (n + 16) fd nd (by omega) (fun ze te se ne fe => ?_)
  exact hk1 (by omega) _ ze te ((((sa.tr sb (by decide) (by decide)).tr sc (by decide) (by decide)).tr sd (by decide) (by decide)).tr se (by decide) (by decide)) ne fe
theorem v_X9_feed (b1 b2 b3 b4 b5 : Int32) (z : St) (P : Int32 → St → Prop) (ht : TM z) (tp : Nat → Int32) (n : Nat) (h25 : gF z 25 = tp) (hn : (gI z 36).toInt = (n : Int)) (hk1 : n ≤ 280 → ∀ (r : Int32) (z2 : St), TM z2 → Same [0, 36] [25] z z2 → (gI z2 36).toInt = ((n + 20 : Nat) : Int) → gF z2 25 = fd5 tp n b1 b2 b3 b4 b5 → P r z2) (hk0 : ¬ n ≤ 280 → ∀ (r : Int32) (z2 : St), TM z2 → Same [0] [] z z2 → P r z2) : wp_X9_feed b1 b2 b3 b4 b5 z P := by
  have f : 0 ≤ (gI z 36).toInt ∧ (gI z 36).toInt ≤ 300 := ht.1 36
  unfold wp_X9_feed
  intro z1 e1
  have t1 : TM z1 := by rw [e1]; exact Ty_wI ht trivial
  have s1 : Same [0] [] z z1 := Same.rf.i (by decide) e1
  have n1' : (gI z1 36).toInt = (n : Int) := (s1.fi 36 (by decide)).trans hn
  have i20 : (gI z1 36 + (20 : Int32)).toInt = (n : Int) + 20 := a_add n1' rfl (by omega) (by omega)
  refine ⟨fun c => ?_, fun c => hk0 (by have := i_nle (q := 300) i20 rfl c; omega) _ z1 t1 s1⟩
  have c' := i_le (q := 300) i20 rfl c
  refine v_X9_four _ z1 _ t1 tp n ((s1.2 25 (by decide)).trans h25) n1' (by omega) (fun za ta sa na fa => ?_)
  refine v_X9_four _ za _ ta _ (n + 4) fa na (by omega) (fun zb tb sb nb fb => ?_)
  refine v_X9_four _ zb _ tb _ (n + 8) fb nb (by omega) (fun zc tc sc nc fc => ?_)
  refine v_X9_four _ zc _ tc _ (n + 12) fc nc (by omega) (fun zd td sd nd fd => ?_)
  refine v_X9_four _ zd _ td _ (n + 16) fd nd (by omega) (fun ze te se ne fe => ?_)
  exact hk1 (by omega) _ ze te ((((((Same.tr (z1 := z) Same.rf s1 (by decide) (by decide)).tr sa (by decide) (by decide)).tr sb (by decide) (by decide)).tr sc (by decide) (by decide)).tr sd (by decide) (by decide)).tr se (by decide) (by decide)) ne fe
