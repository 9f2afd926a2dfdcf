-- THE TWO SETS OF RULES CHANGE PLACES: cells 34, 35, 36 and 52, 53, 54
def swA (a : Nat → Nat) : Nat → Nat := fun k => if k = 34 then a 52 else if k = 35 then a 53 else if k = 36 then a 54 else if k = 52 then a 34 else if k = 53 then a 35 else if k = 54 then a 36 else a k
def swZ (z : St) : St := (fun k => if k = 3402 then z.1 5202 else if k = 3403 then z.1 5203 else if k = 5202 then z.1 3402 else if k = 5203 then z.1 3403 else z.1 k, fun k => if k = 35 then z.2.1 53 else if k = 36 then z.2.1 54 else if k = 53 then z.2.1 35 else if k = 54 then z.2.1 36 else z.2.1 k, z.2.2.1, z.2.2.2)
section Swap
variable {p : Program} {l : Launch} {e : Env} {R : Room} {s : State} {m : MethodId} {args : Array Value} {below : List Frame} {meth : Method} {c : Code} {H : Heap} {locs : List Loc} {cells slots : Nat} {Q : State → Prop} {cc : ByteArray} {nL pc : Nat} {ls : Array Slot} {rest : List Value} {D : va_G} {t : Ty3} {A : Nat → Prop} {z : St} {a : Nat → Nat}
theorem put_cur (C : CallFix p m c cc nL s args lw_g RX8) (h : wd D t A s (wX t a z) H locs) (lk : Cond.fieldLink RX8 212 "PlugHours$Planner" "rules" "LPlugHours$Rules;" ∈ lw_g) (hd : decode cc pc = .ok (.putfield 212, 3)) (kk : ∀ (H1 : Heap) (locs1 : List Loc), wd D t A s ((wX t a z).set 21 (a 21, .inr (2, [.ref (a 1), .ref (a 13), .ref (a 22), .ref (a 52), .int (gI z 2104)]))) H1 locs1 → W p l e R s m args below meth c H1 locs1 cells slots Q (F0 m (pc + 3) ls rest)) : W p l e R s m args below meth c H locs cells slots Q (F0 m pc ls (.ref (a 52) :: .ref (a 21) :: rest)) := r_put C h (q := 21) (ci := 2) (k := 3) (ty := .object "PlugHours$Rules") tyX2 tyX2_ok nmX2 rfl rfl i_X2 (by decide) lk rfl rfl (by decide +kernel) rfl rfl (Nat.le_of_ble_eq_true rfl) rfl hd kk
set_option maxRecDepth 100000 in
theorem put_draft (C : CallFix p m c cc nL s args lw_g RX8) (h : wd D t A s ((wX t a z).set 21 (a 21, .inr (2, [.ref (a 1), .ref (a 13), .ref (a 22), .ref (a 52), .int (gI z 2104)]))) H locs) (lk : Cond.fieldLink RX8 60 "PlugHours" "draft" "LPlugHours$Rules;" ∈ lw_g) (hd : decode cc pc = .ok (.putfield 60, 3)) (kk : ∀ (H1 : Heap) (locs1 : List Loc), wd D t A s (wX t (swA a) (swZ z)) H1 locs1 → W p l e R s m args below meth c H1 locs1 cells slots Q (F0 m (pc + 3) ls rest)) : W p l e R s m args below meth c H locs cells slots Q (F0 m pc ls (.ref (a 34) :: .ref (a 0) :: rest)) := by
  refine r_put C h (q := 0) (ci := 8) (k := 6) (ty := .object "PlugHours$Rules") (w' := ((wX t a z).set 21 (a 21, .inr (2, [.ref (a 1), .ref (a 13), .ref (a 22), .ref (a 52), .int (gI z 2104)]))).set 0 (a 0, .inr (8, [.ref (a 1), .ref (a 7), .ref (a 13), .ref (a 21), .ref (a 37), .ref (a 39), .ref (a 34), .int (gI z 7), .int (gI z 8)]))) tyX8 tyX8_ok nmX8 rfl rfl i_X8 (by decide) lk rfl rfl (by decide +kernel) rfl rfl (Nat.le_of_ble_eq_true rfl) rfl hd (fun H1 locs1 h => kk H1 locs1 ?_)
  exact ⟨h.1, h.2.1.sub (ws' := wX t (swA a) (swZ z)) [0, 1, 2, 3, 4, 5, 6, 7, 8, 9, 10, 11, 12, 13, 14, 15, 16, 17, 18, 19, 20, 21, 22, 23, 24, 25, 26, 27, 28, 29, 30, 31, 32, 33, 52, 53, 54, 37, 38, 39, 40, 41, 42, 43, 44, 45, 46, 47, 48, 49, 50, 51, 34, 35, 36] rfl, h.2.2.1.sub (ws' := wX t (swA a) (swZ z)) [0, 1, 2, 3, 4, 5, 6, 7, 8, 9, 10, 11, 12, 13, 14, 15, 16, 17, 18, 19, 20, 21, 22, 23, 24, 25, 26, 27, 28, 29, 30, 31, 32, 33, 52, 53, 54, 37, 38, 39, 40, 41, 42, 43, 44, 45, 46, 47, 48, 49, 50, 51, 34, 35, 36] (by decide) rfl, h.2.2.2⟩
end Swap
def wp_X8_rules (a : Nat → Nat) (z : St) (P : Int32 → (Nat → Nat) × St → Prop) : Prop :=
  (wp_X4_read_52 z (fun r2 z1 => (∀ K4 : Int32 → Prop, (∀ (s3 : Int32), (∀ z5 : St, z5 = wI z1 7 s3 → (∀ z6 : St, z6 = wI z5 3701 ((0 : Int32)) → (((¬ r2 = 0) → (wp_X8_accept (gI (swZ z6) 3403) (swZ z6) (fun r9 z8 => P r9 ((swA a), z8)))) ∧ (r2 = 0 → (wp_X8_refuse ((-6 : Int32)) z6 (fun r11 z10 => P r11 (a, z10))))))) → K4 s3) → (((r2 = 0) → K4 (gI z1 3702)) ∧ (¬ (r2 = 0) → K4 ((-1 : Int32)))))))
set_option maxHeartbeats 4000000 in
set_option maxRecDepth 100000 in
theorem m_X8_rules (l : Launch) (D : va_G) (t : Ty3) (a : Nat → Nat)  (z : St) (P : Int32 → (Nat → Nat) × St → Prop) (hw : wp_X8_rules a z P) : CtI l D t yX8_rules cX8_rules 3 (some .int) 8 (fun u : (Nat → Nat) × St => wX t u.1 u.2) (wX t a z) [.ref (a 0)] P := by
  refine ctI_of (by decide) (Nat.le_of_ble_eq_true rfl) ?_
  intro p e s m args below meth c A ls C hr hlk h hl
  have hl : lv_has ls 3 [(0, .ref (a 0))] := hl
  unfold wp_X8_rules at hw
  refine lv_aload_n (pc := 0) C.1 C.2.1 dX8_rules_0 rfl (lv_at hl 0 rfl) ?_
  refine GX_X8_44_0 (pc := 1) C h dX8_rules_1 ?_
  refine lv_aload_n (pc := 4) C.1 C.2.1 dX8_rules_4 rfl (lv_at hl 0 rfl) ?_
  refine GX_X8_60_0 (pc := 5) C h dX8_rules_5 ?_
  refine cl_vi (pc := 8) (As := [.ref (a 52)]) (rest := []) C h (m_X4_read_52 l D t a z _ hw) mw_X4_read lm_X8_205 md_X4_read rcX_37 ⟨by decide, by decide⟩ ⟨Nat.zero_le _, Nat.zero_le _⟩ hl.1 rfl (Nat.le_of_ble_eq_true rfl) dX8_rules_8 (fun r2 z1 H locs hw h => ?_)
  refine lv_istore_n (lv' := [(1, .int r2), (0, .ref (a 0))]) (pc := 11) C.1 C.2.1 dX8_rules_11 rfl hl (by decide) rfl (fun ls hl => ?_)
  refine lv_aload_n (pc := 12) C.1 C.2.1 dX8_rules_12 rfl (lv_at hl 1 rfl) ?_
  refine lv_iload_n (pc := 13) C.1 C.2.1 dX8_rules_13 rfl (lv_at hl 0 rfl) ?_
  have hw := hw (fun (s3 : Int32) => ∀ (H : Heap) (locs : List Loc) (ls : Array Slot), wd D t A s (wX t a z1) H locs → lv_has ls 3 [(0, .ref (a 0)), (1, .int r2)] → W p l e (rmd 8) s m args below meth c H locs 0 0 (QI D t A (fun u : (Nat → Nat) × St => wX t u.1 u.2) P below args s) (F0 m 28 ls [.int s3, .ref (a 0)])) (by
      intro s3 hw H locs ls h hl
      refine PX_X8_64_0 (pc := 28) C h dX8_rules_28 (fun z5 ez5 H locs h => ?_)
      have hw := hw z5 ez5
      refine lv_aload_n (pc := 31) C.1 C.2.1 dX8_rules_31 rfl (lv_at hl 0 rfl) ?_
      refine GX_X8_44_0 (pc := 32) C h dX8_rules_32 ?_
      refine lv_iconst (v := 0) (pc := 35) C.1 C.2.1 dX8_rules_35 (by decide) ?_
      refine PX_X8_199_37 (pc := 36) C h dX8_rules_36 (fun z6 ez6 H locs h => ?_)
      have hw := hw z6 ez6
      refine lv_iload_n (pc := 39) C.1 C.2.1 dX8_rules_39 rfl (lv_at hl 1 rfl) ?_
      refine lv_if_ne (tgt := 50) (pc := 40) C.1 C.2.1 dX8_rules_40 (by decide) (fun c7 => ?_) (fun c7 => ?_)
      · have hw := hw.1 c7
        refine lv_aload_n (pc := 50) C.1 C.2.1 dX8_rules_50 rfl (lv_at hl 0 rfl) ?_
        refine GX_X8_37_0 (pc := 51) C h dX8_rules_51 ?_
        refine GX_X8_212_21 (pc := 54) C h dX8_rules_54 ?_
        refine lv_astore_n (lv' := [(2, .ref (a 34)), (0, .ref (a 0)), (1, .int r2)]) (pc := 57) C.1 C.2.1 dX8_rules_57 rfl hl (by decide) rfl (fun ls hl => ?_)
        refine lv_aload_n (pc := 58) C.1 C.2.1 dX8_rules_58 rfl (lv_at hl 1 rfl) ?_
        refine GX_X8_37_0 (pc := 59) C h dX8_rules_59 ?_
        refine lv_aload_n (pc := 62) C.1 C.2.1 dX8_rules_62 rfl (lv_at hl 1 rfl) ?_
        refine GX_X8_60_0 (pc := 63) C h dX8_rules_63 ?_
        refine put_cur (pc := 66) C h lf_X8_212 dX8_rules_66 (fun H locs h => ?_)
        refine lv_aload_n (pc := 69) C.1 C.2.1 dX8_rules_69 rfl (lv_at hl 1 rfl) ?_
        refine lv_aload_n (pc := 70) C.1 C.2.1 dX8_rules_70 rfl (lv_at hl 0 rfl) ?_
        refine put_draft (pc := 71) C h lf_X8_60 dX8_rules_71 (fun H locs h => ?_)
        refine lv_aload_n (pc := 74) C.1 C.2.1 dX8_rules_74 rfl (lv_at hl 1 rfl) ?_
        refine lv_aload_n (pc := 75) C.1 C.2.1 dX8_rules_75 rfl (lv_at hl 1 rfl) ?_
        refine GX_X8_37_0 (a := (swA a)) (pc := 76) C h dX8_rules_76 ?_
        refine GX_X8_212_21 (a := (swA a)) (pc := 79) C h dX8_rules_79 ?_
        refine GX_X8_215_34 (a := (swA a)) (pc := 82) C h dX8_rules_82 ?_
        refine cl_vi (pc := 85) (As := [.int (gI (swZ z6) 3403)]) (rest := []) C h (m_X8_accept l D t (swA a) (gI (swZ z6) 3403) (swZ z6) _ hw) mw_X8_accept lm_X8_99 md_X8_accept rcX_0 ⟨by decide, by decide⟩ ⟨Nat.zero_le _, Nat.zero_le _⟩ hl.1 rfl (Nat.le_of_ble_eq_true rfl) dX8_rules_85 (fun r9 z8 H locs hw h => ?_)
        exact rt_i (wf := fun u : (Nat → Nat) × St => wX t u.1 u.2) (z := ((swA a), z8)) (pc := 88) C hr hlk h hw dX8_rules_88
      · have hw := hw.2 c7
        refine lv_aload_n (pc := 43) C.1 C.2.1 dX8_rules_43 rfl (lv_at hl 0 rfl) ?_
        refine lv_bipush (v := -6) (pc := 44) C.1 C.2.1 dX8_rules_44 (by decide) ?_
        refine cl_vi (pc := 46) (As := [.int ((-6 : Int32))]) (rest := []) C h (m_X8_refuse l D t a ((-6 : Int32)) z6 _ hw) mw_X8_refuse lm_X8_81 md_X8_refuse rcX_0 ⟨by decide, by decide⟩ ⟨Nat.zero_le _, Nat.zero_le _⟩ hl.1 rfl (Nat.le_of_ble_eq_true rfl) dX8_rules_46 (fun r11 z10 H locs hw h => ?_)
        exact rt_i (wf := fun u : (Nat → Nat) × St => wX t u.1 u.2) (z := (a, z10)) (pc := 49) C hr hlk h hw dX8_rules_49)
  refine lv_if_eq (tgt := 21) (pc := 14) C.1 C.2.1 dX8_rules_14 (by decide) (fun c12 => ?_) (fun c12 => ?_)
  · have hw := hw.1 c12
    refine lv_aload_n (pc := 21) C.1 C.2.1 dX8_rules_21 rfl (lv_at hl 1 rfl) ?_
    refine GX_X8_44_0 (pc := 22) C h dX8_rules_22 ?_
    refine GX_X8_209_37 (pc := 25) C h dX8_rules_25 ?_
    exact hw _ _ _ h (lv_sub hl [1, 0] rfl)
  · have hw := hw.2 c12
    refine lv_iconst (v := -1) (pc := 17) C.1 C.2.1 dX8_rules_17 (by decide) ?_
    refine lv_goto (tgt := 28) (pc := 18) C.1 C.2.1 dX8_rules_18 (by decide) ?_
    exact hw _ _ _ h (lv_sub hl [1, 0] rfl)
