-- TEXTS: the JDK's own methods over the reader's constants
/-- the char at k of text i -/
def sch (i : Nat) (k : Int32) : Int32 := ((((strB.getD i []).getD k.toNatClampNeg 0) &&& 255).toUInt32 % 65536).toInt32
section TextMethods
variable (l : Launch) (D : va_G) (t : Ty3) (wf : St → va_W) (z : St)
theorem m_coder (i : Nat) (hi : i < 7) : CtI l D t yJ0_coder_7d493 cJ0_coder_7d493 1 (some .byte) 0 wf (wf z) [.ref (t.2.2.2.1 i)] (fun rr zz => zz = z ∧ rr = 0) := by
  refine ctI_of (by decide) (Nat.le_of_ble_eq_true rfl) ?_
  intro p e s m args below meth c A ls C hr hlk h hl
  have hl : lv_has ls 1 [(0, .ref (t.2.2.2.1 i))] := hl
  refine va_gets (pc := 0) C.1 C.2.1 h.2.2.2.2.2.2.1 h.2.2.2.1 C.2.2.2.1 (C.2.2.2.2 _ lf_J0_38) (fun _ h => h) dJ0_coder_7d493_0 ?_
  refine lv_if_eq (tgt := 13) (pc := 3) C.1 C.2.1 dJ0_coder_7d493_3 (by decide) (fun c1 => absurd c1 (by decide)) (fun c1 => ?_)
  refine lv_aload_n (pc := 6) C.1 C.2.1 dJ0_coder_7d493_6 rfl (lv_at hl 0 rfl) ?_
  refine vk_getf (pc := 7) C.1 C.2.1 (h.2.2.2.2.2.1.1 i hi).2.1 h.2.2.2.1 C.2.2.2.1 (C.2.2.2.2 _ lf_J0_15) (fun _ h => h) dJ0_coder_7d493_7 ?_
  refine lv_goto (tgt := 14) (pc := 10) C.1 C.2.1 dJ0_coder_7d493_10 (by decide) ?_
  exact rt_n (pc := 14) C hr hlk h rfl ⟨rfl, rfl⟩ dJ0_coder_7d493_14
theorem m_isLatin1 (i : Nat) (hi : i < 7) : CtI l D t yJ0_isLatin1_aae02 cJ0_isLatin1_aae02 1 (some .boolean) 0 wf (wf z) [.ref (t.2.2.2.1 i)] (fun rr zz => zz = z ∧ rr = 1) := by
  refine ctI_of (by decide) (Nat.le_of_ble_eq_true rfl) ?_
  intro p e s m args below meth c A ls C hr hlk h hl
  have hl : lv_has ls 1 [(0, .ref (t.2.2.2.1 i))] := hl
  refine va_gets (pc := 0) C.1 C.2.1 h.2.2.2.2.2.2.1 h.2.2.2.1 C.2.2.2.1 (C.2.2.2.2 _ lf_J0_38) (fun _ h => h) dJ0_isLatin1_aae02_0 ?_
  refine lv_if_eq (tgt := 17) (pc := 3) C.1 C.2.1 dJ0_isLatin1_aae02_3 (by decide) (fun c1 => absurd c1 (by decide)) (fun c1 => ?_)
  refine lv_aload_n (pc := 6) C.1 C.2.1 dJ0_isLatin1_aae02_6 rfl (lv_at hl 0 rfl) ?_
  refine vk_getf (pc := 7) C.1 C.2.1 (h.2.2.2.2.2.1.1 i hi).2.1 h.2.2.2.1 C.2.2.2.1 (C.2.2.2.2 _ lf_J0_15) (fun _ h => h) dJ0_isLatin1_aae02_7 ?_
  refine lv_if_ne (tgt := 17) (pc := 10) C.1 C.2.1 dJ0_isLatin1_aae02_10 (by decide) (fun c2 => absurd rfl c2) (fun c2 => ?_)
  refine lv_iconst (v := 1) (pc := 13) C.1 C.2.1 dJ0_isLatin1_aae02_13 (by decide) ?_
  refine lv_goto (tgt := 18) (pc := 14) C.1 C.2.1 dJ0_isLatin1_aae02_14 (by decide) ?_
  exact rt_n (pc := 18) C hr hlk h rfl ⟨rfl, rfl⟩ dJ0_isLatin1_aae02_18
theorem m_length (i : Nat) (hi : i < 7) : CtI l D t yJ0_length_8abf5 cJ0_length_8abf5 1 (some .int) 1 wf (wf z) [.ref (t.2.2.2.1 i)] (fun rr zz => zz = z ∧ rr = Int32.ofNat (strL.getD i 0)) := by
  refine ctI_of (by decide) (Nat.le_of_ble_eq_true rfl) ?_
  intro p e s m args below meth c A ls C hr hlk h hl
  have hl : lv_has ls 1 [(0, .ref (t.2.2.2.1 i))] := hl
  refine lv_aload_n (pc := 0) C.1 C.2.1 dJ0_length_8abf5_0 rfl (lv_at hl 0 rfl) ?_
  refine vk_getf (pc := 1) C.1 C.2.1 (h.2.2.2.2.2.1.1 i hi).2.2.1 h.2.2.2.1 C.2.2.2.1 (C.2.2.2.2 _ lf_J0_9) (fun _ h => h) dJ0_length_8abf5_1 ?_
  refine va_tlen (pc := 4) C.1 C.2.1 (h.2.2.2.2.2.1.1 i hi).2.2.2 h.2.2.2.1 rfl dJ0_length_8abf5_4 ?_
  refine lv_aload_n (pc := 5) C.1 C.2.1 dJ0_length_8abf5_5 rfl (lv_at hl 0 rfl) ?_
  refine cl_ti (pc := 6) (As := []) (rest := [.int (Int32.ofNat (strL.getD i 0))]) C h (m_coder l D t wf z i hi) mw_J0_coder_7d493 lm_J0_335 md_J0_coder_7d493 hi rfl ⟨by decide, by decide⟩ ⟨Nat.zero_le _, Nat.zero_le _⟩ hl.1 rfl (Nat.le_of_ble_eq_true rfl) dJ0_length_8abf5_6 (fun r1 z1 H locs hw h => ?_)
  rw [hw.1] at h
  have hr1 := hw.2
  subst hr1
  refine lv_ishr (pc := 9) C.1 C.2.1 dJ0_length_8abf5_9 ?_
  exact rt_i (pc := 10) C hr hlk h ⟨rfl, sb_shr0 _⟩ dJ0_length_8abf5_10
theorem m_check3 (x n : Int32) (v : Value) (hv : v.category = 1) (h0 : ¬ x < 0) (h1 : x < n) : CtI l D t yJ3_checkIndex_8e157 cJ3_checkIndex_8e157 3 (some .int) 0 wf (wf z) [.int x, .int n, v] (fun rr zz => zz = z ∧ rr = x) := by
  have e1 : (lg_sl [Value.int x, .int n, v]).length ≤ 3 := by cases v <;> first | exact Nat.le_of_ble_eq_true rfl | (simp [Value.category] at hv)
  refine ctI_of (by decide) e1 ?_
  intro p e s m args below meth c A ls C hr hlk h hl
  have hl : lv_has ls 3 [(0, .int x), (1, .int n)] := lv_sub hl [0, 1] (by cases v <;> rfl)
  refine lv_iload_n (pc := 0) C.1 C.2.1 dJ3_checkIndex_8e157_0 rfl (lv_at hl 0 rfl) ?_
  refine lv_if_lt (tgt := 9) (pc := 1) C.1 C.2.1 dJ3_checkIndex_8e157_1 (by decide) (fun c1 => absurd c1 h0) (fun c1 => ?_)
  refine lv_iload_n (pc := 4) C.1 C.2.1 dJ3_checkIndex_8e157_4 rfl (lv_at hl 0 rfl) ?_
  refine lv_iload_n (pc := 5) C.1 C.2.1 dJ3_checkIndex_8e157_5 rfl (lv_at hl 1 rfl) ?_
  refine lv_icmp_lt (tgt := 16) (pc := 6) C.1 C.2.1 dJ3_checkIndex_8e157_6 (by decide) (fun c2 => ?_) (fun c2 => absurd h1 c2)
  refine lv_iload_n (pc := 16) C.1 C.2.1 dJ3_checkIndex_8e157_16 rfl (lv_at hl 0 rfl) ?_
  exact rt_i (pc := 17) C hr hlk h ⟨rfl, rfl⟩ dJ3_checkIndex_8e157_17
theorem m_check2 (x n : Int32) (h0 : ¬ x < 0) (h1 : x < n) : CtV l D t yJ0_checkIndex_df160 cJ0_checkIndex_df160 2 none 1 wf (wf z) [.int x, .int n] (fun zz => zz = z) := by
  refine ctV_of (by decide) (Nat.le_of_ble_eq_true rfl) ?_
  intro p e s m args below meth c A ls C hr hlk h hl
  have hl : lv_has ls 2 [(0, .int x), (1, .int n)] := hl
  refine lv_iload_n (pc := 0) C.1 C.2.1 dJ0_checkIndex_df160_0 rfl (lv_at hl 0 rfl) ?_
  refine lv_iload_n (pc := 1) C.1 C.2.1 dJ0_checkIndex_df160_1 rfl (lv_at hl 1 rfl) ?_
  have go : ∀ v : Value, v.category = 1 → W p l e (rmd 1) s m args below meth c s.heap [] 0 0 (QV D t A wf (fun zz => zz = z) below args s) (F0 m 5 ls [v, .int n, .int x]) := by
    intro v hv
    refine cl_si (pc := 5) (As := [.int x, .int n, v]) (rest := []) C h (m_check3 l D t wf z x n v hv h0 h1) mw_J3_checkIndex_8e157 lm_J0_1059 md_J3_checkIndex_8e157 ⟨by decide, by decide⟩ ⟨Nat.zero_le _, Nat.zero_le _⟩ hl.1 rfl (Nat.le_of_ble_eq_true rfl) dJ0_checkIndex_df160_5 (fun r1 z1 H locs hw h => ?_)
    rw [hw.1] at h
    refine lv_pop (pc := 8) C.1 C.2.1 dJ0_checkIndex_df160_8 rfl ?_
    exact rt_v (pc := 9) C hr hlk h rfl dJ0_checkIndex_df160_9
  rcases h.2.2.2.2.2.2.2.1 with hZ | ⟨q, hZ⟩
  · exact va_gets (pc := 2) C.1 C.2.1 hZ h.2.2.2.1 C.2.2.2.1 (C.2.2.2.2 _ lf_J0_1053) (fun _ h => h) dJ0_checkIndex_df160_2 (go .null rfl)
  · exact va_gets (pc := 2) C.1 C.2.1 hZ h.2.2.2.1 C.2.2.2.1 (C.2.2.2.2 _ lf_J0_1053) (fun _ h => h) dJ0_checkIndex_df160_2 (go (.ref q) rfl)
theorem str_len (i : Nat) (hi : i < 7) : strL.getD i 0 < 2 ^ 31 := by
  have h : ∀ i, i < 7 → strL.getD i 0 < 2 ^ 31 := by decide
  exact h i hi
theorem m_charAtL (i : Nat) (hi : i < 7) (k : Int32) (hk : vp_in k (strL.getD i 0)) : CtI l D t yJ1_charAt_3b067 cJ1_charAt_3b067 2 (some .char) 2 wf (wf z) [.ref (t.2.2.2.2 i), .int k] (fun rr zz => zz = z ∧ rr = sch i k) := by
  have hlen := str_len i hi
  have e0 : ¬ k < 0 := fun q => hk (Or.inl q)
  have e1 : k < Int32.ofNat (strL.getD i 0) := by
    have h1 := vp_in_iff.mp hk
    exact Int32.lt_iff_toInt_lt.mpr (by rw [show (Int32.ofNat (strL.getD i 0)).toInt = ((strL.getD i 0 : Nat) : Int) from nI_toInt hlen]; exact h1.2)
  refine ctI_of (by decide) (Nat.le_of_ble_eq_true rfl) ?_
  intro p e s m args below meth c A ls C hr hlk h hl
  have hl : lv_has ls 2 [(0, .ref (t.2.2.2.2 i)), (1, .int k)] := hl
  refine lv_iload_n (pc := 0) C.1 C.2.1 dJ1_charAt_3b067_0 rfl (lv_at hl 1 rfl) ?_
  refine lv_aload_n (pc := 1) C.1 C.2.1 dJ1_charAt_3b067_1 rfl (lv_at hl 0 rfl) ?_
  refine va_tlen (pc := 2) C.1 C.2.1 (h.2.2.2.2.2.1.1 i hi).2.2.2 h.2.2.2.1 rfl dJ1_charAt_3b067_2 ?_
  refine cl_sv (pc := 3) (As := [.int k, .int (Int32.ofNat (strL.getD i 0))]) (rest := []) C h (m_check2 l D t wf z k _ e0 e1) mw_J0_checkIndex_df160 lm_J1_9 md_J0_checkIndex_df160 ⟨by decide, by decide⟩ ⟨Nat.zero_le _, Nat.zero_le _⟩ hl.1 rfl (Nat.le_of_ble_eq_true rfl) dJ1_charAt_3b067_3 (fun z1 H locs hw h => ?_)
  rw [hw] at h
  refine lv_aload_n (pc := 6) C.1 C.2.1 dJ1_charAt_3b067_6 rfl (lv_at hl 0 rfl) ?_
  refine lv_iload_n (pc := 7) C.1 C.2.1 dJ1_charAt_3b067_7 rfl (lv_at hl 1 rfl) ?_
  refine va_tb (pc := 8) C.1 C.2.1 (h.2.2.2.2.2.1.1 i hi).2.2.2 h.2.2.2.1 hk rfl dJ1_charAt_3b067_8 ?_
  refine lv_sipush (v := 255) (pc := 9) C.1 C.2.1 dJ1_charAt_3b067_9 (by decide) ?_
  refine lv_iand (pc := 12) C.1 C.2.1 dJ1_charAt_3b067_12 ?_
  refine lv_i2c (pc := 13) C.1 C.2.1 dJ1_charAt_3b067_13 rfl ?_
  exact rt_n (pc := 14) C hr hlk h (pk_nc _) ⟨rfl, rfl⟩ dJ1_charAt_3b067_14
theorem sch_nar (i : Nat) (k : Int32) : narrow .char (.int (sch i k)) = .int (sch i k) := pk_nc _
theorem m_charAt (i : Nat) (hi : i < 7) (k : Int32) (hk : vp_in k (strL.getD i 0)) : CtI l D t yJ0_charAt_5068e cJ0_charAt_5068e 2 (some .char) 3 wf (wf z) [.ref (t.2.2.2.1 i), .int k] (fun rr zz => zz = z ∧ rr = sch i k) := by
  refine ctI_of (by decide) (Nat.le_of_ble_eq_true rfl) ?_
  intro p e s m args below meth c A ls C hr hlk h hl
  have hl : lv_has ls 2 [(0, .ref (t.2.2.2.1 i)), (1, .int k)] := hl
  refine lv_aload_n (pc := 0) C.1 C.2.1 dJ0_charAt_5068e_0 rfl (lv_at hl 0 rfl) ?_
  refine cl_ti (pc := 1) (As := []) (rest := []) C h (m_isLatin1 l D t wf z i hi) mw_J0_isLatin1_aae02 lm_J0_492 md_J0_isLatin1_aae02 hi rfl ⟨by decide, by decide⟩ ⟨Nat.zero_le _, Nat.zero_le _⟩ hl.1 rfl (Nat.le_of_ble_eq_true rfl) dJ0_charAt_5068e_1 (fun r1 z1 H locs hw h => ?_)
  rw [hw.1] at h
  have hr1 := hw.2
  subst hr1
  refine lv_if_eq (tgt := 16) (pc := 4) C.1 C.2.1 dJ0_charAt_5068e_4 (by decide) (fun c1 => absurd c1 (by decide)) (fun c1 => ?_)
  refine lv_aload_n (pc := 7) C.1 C.2.1 dJ0_charAt_5068e_7 rfl (lv_at hl 0 rfl) ?_
  refine vk_getf (pc := 8) C.1 C.2.1 (h.2.2.2.2.2.1.1 i hi).2.2.1 h.2.2.2.1 C.2.2.2.1 (C.2.2.2.2 _ lf_J0_9) (fun _ h => h) dJ0_charAt_5068e_8 ?_
  refine lv_iload_n (pc := 11) C.1 C.2.1 dJ0_charAt_5068e_11 rfl (lv_at hl 1 rfl) ?_
  refine cl_si (pc := 12) (As := [.ref (t.2.2.2.2 i), .int k]) (rest := []) C h (m_charAtL l D t wf z i hi k hk) mw_J1_charAt_3b067 lm_J0_495 md_J1_charAt_3b067 ⟨by decide, by decide⟩ ⟨Nat.zero_le _, Nat.zero_le _⟩ hl.1 rfl (Nat.le_of_ble_eq_true rfl) dJ0_charAt_5068e_12 (fun r2 z2 H locs hw h => ?_)
  rw [hw.1] at h
  have hr2 := hw.2
  subst hr2
  exact rt_n (pc := 15) C hr hlk h (sch_nar i k) ⟨rfl, rfl⟩ dJ0_charAt_5068e_15
end TextMethods
