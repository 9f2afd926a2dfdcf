set_option maxHeartbeats 8000000 in
set_option maxRecDepth 100000 in
theorem start_of (J : St → St → Prop) (hJ : LawOk J) (hJ0 : J z0X z0M) {p : Program} {e : Env} {s : State} {m : MethodId} {below : List Frame} {meth : Method} {c : Code} (l : Launch) {b L : Nat} {xs : Nat → Int32} (hL : L ≤ 4608) (C0 : lw_At p s m meth c b L xs) : W p l e room_1 s m #[Value.ref b] below meth c s.heap [] 0 0 (lw_Z below #[Value.ref b] s) (entryFrame m ([Value.ref b] : List Value).toArray 4) := by
  obtain ⟨hx, hb, hr, hml, hown, hts, hX, hbl, hlocks, hgv⟩ := id C0
  have C : CallFix p m c code 4 s #[Value.ref b] lw_g R_law := ⟨hx, hb, hml, hown, fun w h => hts w (List.mem_filter.mp h).1⟩
  obtain ⟨cX0, iX0, hkX0⟩ := u_known (C := RX0) (T := TX0) (N := 7) (n := 7) C.2.2.2.2 i_X0 (C.2.2.2.2 _ ins_X0)
  obtain ⟨cX1, iX1, hkX1⟩ := u_known (C := RX1) (T := TX1) (N := 9) (n := 9) C.2.2.2.2 i_X1 (C.2.2.2.2 _ ins_X1)
  obtain ⟨cX2, iX2, hkX2⟩ := u_known (C := RX2) (T := TX2) (N := 5) (n := 5) C.2.2.2.2 i_X2 (C.2.2.2.2 _ ins_X2)
  obtain ⟨cX3, iX3, hkX3⟩ := u_known (C := RX3) (T := TX3) (N := 7) (n := 7) C.2.2.2.2 i_X3 (C.2.2.2.2 _ ins_X3)
  obtain ⟨cX4, iX4, hkX4⟩ := u_known (C := RX4) (T := TX4) (N := 4) (n := 4) C.2.2.2.2 i_X4 (C.2.2.2.2 _ ins_X4)
  obtain ⟨cX5, iX5, hkX5⟩ := u_known (C := RX5) (T := TX5) (N := 4) (n := 4) C.2.2.2.2 i_X5 (C.2.2.2.2 _ ins_X5)
  obtain ⟨cX6, iX6, hkX6⟩ := u_known (C := RX6) (T := TX6) (N := 17) (n := 17) C.2.2.2.2 i_X6 (C.2.2.2.2 _ ins_X6)
  obtain ⟨cX7, iX7, hkX7⟩ := u_known (C := RX7) (T := TX7) (N := 16) (n := 16) C.2.2.2.2 i_X7 (C.2.2.2.2 _ ins_X7)
  obtain ⟨cX8, iX8, hkX8⟩ := u_known (C := RX8) (T := TX8) (N := 9) (n := 9) C.2.2.2.2 i_X8 (C.2.2.2.2 _ ins_X8)
  obtain ⟨cX9, iX9, hkX9⟩ := u_known (C := RX9) (T := TX9) (N := 56) (n := 56) C.2.2.2.2 i_X9 (C.2.2.2.2 _ ins_X9)
  obtain ⟨dC, dI, hKc⟩ : ∃ (dC : Nat → ClassId) (dI : Nat → Nat → Nat), ∀ (k : Nat) (q : vw_C), vwC[k]? = some q → u_Kn s q.1 q.2.1 q.2.2 (dC k) (dI k) := by
    refine ⟨fun k => if k = 0 then cX0 else if k = 1 then cX1 else if k = 2 then cX2 else if k = 3 then cX3 else if k = 4 then cX4 else if k = 5 then cX5 else if k = 6 then cX6 else if k = 7 then cX7 else if k = 8 then cX8 else cX9, fun k => if k = 0 then iX0 else if k = 1 then iX1 else if k = 2 then iX2 else if k = 3 then iX3 else if k = 4 then iX4 else if k = 5 then iX5 else if k = 6 then iX6 else if k = 7 then iX7 else if k = 8 then iX8 else iX9, ?_⟩
    intro k q hq
    match k, hq with
    | 0, hq => cases hq; exact hkX0
    | 1, hq => cases hq; exact hkX1
    | 2, hq => cases hq; exact hkX2
    | 3, hq => cases hq; exact hkX3
    | 4, hq => cases hq; exact hkX4
    | 5, hq => cases hq; exact hkX5
    | 6, hq => cases hq; exact hkX6
    | 7, hq => cases hq; exact hkX7
    | 8, hq => cases hq; exact hkX8
    | 9, hq => cases hq; exact hkX9
    | k + 10, hq => simp [vwC] at hq
  obtain ⟨tint, kint, mint, fint, gint, eint⟩ := Cond.arrayClass_spec (C.2.2.2.2 _ ac_int)
  obtain ⟨tlong, klong, mlong, flong, glong, elong⟩ := Cond.arrayClass_spec (C.2.2.2.2 _ ac_long)
  obtain ⟨tboolean, kboolean, mboolean, fboolean, gboolean, eboolean⟩ := Cond.arrayClass_spec (C.2.2.2.2 _ ac_boolean)
  have hA : ∀ q : Nat, s.heap.size ≤ q → (fun q : Nat => s.heap.size ≤ q) q := fun _ h => h
  have hA2 : ∀ a : Nat, a < s.heap.size → ¬ (fun q : Nat => s.heap.size ≤ q) a := fun a h => Nat.not_le.mpr h
  obtain ⟨adK, adV, hS7, hR7⟩ := str_start hgv hA2
  have hE : Ex (tint, tlong, tboolean, adK, adV) (fun q : Nat => s.heap.size ≤ q) s s.heap := ⟨hS7, z_start hgv hts hA2, zq_start hgv hts hA2, fun i hi => r_start hts hR7 i hi⟩
  have hK : va_K (dC, dI) vwC (tys3 (tint, tlong, tboolean, adK, adV)) s := by
    refine ⟨hKc, fun k q hq => ?_⟩
    match k, hq with
    | 0, hq => cases hq; exact ⟨fun n z => ⟨fun k h => (by cases h), kint, gint, mint, eint⟩, fint⟩
    | 1, hq => cases hq; exact ⟨fun n z => ⟨fun k h => (by cases h), klong, glong, mlong, elong⟩, flong⟩
    | 2, hq => cases hq; exact ⟨fun n z => ⟨fun k h => (by cases h), kboolean, gboolean, mboolean, eboolean⟩, fboolean⟩
    | k + 3, hq => simp [tys3] at hq
  generalize htt : ((tint, tlong, tboolean, adK, adV) : Ty3) = t at hE hK
  have h : wd (dC, dI) t (fun q : Nat => s.heap.size ≤ q) s [] s.heap [] := ⟨hK, fun k q h => by simp at h, ⟨fun i j p q h => by simp at h, fun k q h => by simp at h⟩, va_S.rf, hA, hE⟩
  have hl := lv_entry ([.ref b]) (n := 4) (Nat.le_of_ble_eq_true rfl)
  rw [lg_entry_eq]
  generalize (lg_sl ([.ref b]) ++ List.replicate (4 - (lg_sl ([.ref b])).length) Slot.unset).toArray = ls at hl ⊢
  have hl : lv_has ls 4 [(0, .ref b)] := hl
  refine r_new (ci := 8) (fs := [.null, .null, .null, .null, .null, .null, .null, .int 0, .int 0]) (pc := 0) C h rfl i_X8 tyX8 tyX8_ok cl_L_7 ins_X8 ini_X8 (by decide +kernel) (by decide) (by decide) dL_law_0 (fun qx H h => ?_)
  have h : wd (dC, dI) t (fun q : Nat => s.heap.size ≤ q) s [(qx, .inr (8, [.null, .null, .null, .null, .null, .null, .null, .int 0, .int 0]))] H _ := h
  refine W.widen (k := 1) (n := 9) (by decide) (by decide) ?_
  refine lv_dup (pc := 3) C.1 C.2.1 dL_law_3 rfl ?_
  refine cl_n (pc := 4) (wc := [(qx, .inr (8, [.null, .null, .null, .null, .null, .null, .null, .int 0, .int 0]))]) (wr := []) (As := []) (rest := [.ref qx]) [0] [] C h rfl rfl rfl (by decide) (by decide) (by decide) (k_X8 l (dC, dI) t qx) mi_X8 lm_L_9 md_X8_init rfl ⟨by decide, by decide⟩ ⟨by decide, by decide⟩ hl.1 rfl (Nat.le_of_ble_eq_true rfl) dL_law_4 (fun ux H locs _ h => ?_)
  obtain ⟨a, ea⟩ : ∃ a : Nat → Nat, a = (fun k => if k = 0 then qx else if k = 1 then ux 0 else if k = 2 then ux 1 else if k = 3 then ux 2 else if k = 4 then ux 3 else if k = 5 then ux 4 else if k = 6 then ux 5 else if k = 7 then ux 6 else if k = 8 then ux 7 else if k = 9 then ux 8 else if k = 10 then ux 9 else if k = 11 then ux 10 else if k = 12 then ux 11 else if k = 13 then ux 12 else if k = 14 then ux 13 else if k = 15 then ux 14 else if k = 16 then ux 15 else if k = 17 then ux 16 else if k = 18 then ux 17 else if k = 19 then ux 18 else if k = 20 then ux 19 else if k = 21 then ux 20 else if k = 22 then ux 21 else if k = 23 then ux 22 else if k = 24 then ux 23 else if k = 25 then ux 24 else if k = 26 then ux 25 else if k = 27 then ux 26 else if k = 28 then ux 27 else if k = 29 then ux 28 else if k = 30 then ux 29 else if k = 31 then ux 30 else if k = 32 then ux 31 else if k = 33 then ux 32 else if k = 34 then ux 33 else if k = 35 then ux 34 else if k = 36 then ux 35 else if k = 37 then ux 36 else if k = 38 then ux 37 else if k = 39 then ux 38 else if k = 40 then ux 39 else if k = 41 then ux 40 else if k = 42 then ux 41 else if k = 43 then ux 42 else if k = 44 then ux 43 else if k = 45 then ux 44 else if k = 46 then ux 45 else if k = 47 then ux 46 else if k = 48 then ux 47 else if k = 49 then ux 48 else if k = 50 then ux 49 else if k = 51 then ux 50 else if k = 52 then ux 51 else if k = 53 then ux 52 else if k = 54 then ux 53 else 0) := ⟨_, rfl⟩
  have h : wd (dC, dI) t (fun q : Nat => s.heap.size ≤ q) s (wX t a z0X) H locs := by
    subst ea
    exact ⟨h.1, h.2.1.sub [0, 1, 2, 3, 4, 5, 6, 7, 8, 9, 10, 11, 12, 13, 14, 15, 16, 17, 18, 19, 20, 21, 22, 23, 24, 25, 26, 27, 28, 29, 30, 31, 32, 33, 34, 35, 36, 37, 38, 39, 40, 41, 42, 43, 44, 45, 46, 47, 48, 49, 50, 51, 52, 53, 54] rfl, h.2.2.1.sub [0, 1, 2, 3, 4, 5, 6, 7, 8, 9, 10, 11, 12, 13, 14, 15, 16, 17, 18, 19, 20, 21, 22, 23, 24, 25, 26, 27, 28, 29, 30, 31, 32, 33, 34, 35, 36, 37, 38, 39, 40, 41, 42, 43, 44, 45, 46, 47, 48, 49, 50, 51, 52, 53, 54] (by decide) rfl, h.2.2.2⟩
  have e0 : qx = a 0 := by rw [ea]; rfl
  rw [e0]
  clear ea e0
  refine W.widen (k := 55) (n := 6291) (by decide) (by decide) ?_
  refine lv_astore_n (lv' := [(1, .ref (a 0)), (0, .ref b)]) (pc := 7) C.1 C.2.1 dL_law_7 rfl hl (by decide) rfl (fun ls hl => ?_)
  refine r_new (ci := 9) (fs := [.int 0, .int 0, .int 0, .int 0, .null, .null, .null, .int 0, .int 0, .null, .null, .int 0, .int 0, .null, .null, .null, .null, .null, .null, .null, .null, .int 0, .int 0, .null, .null, .null, .null, .null, .null, .null, .null, .null, .null, .null, .int 0, .null, .int 0, .int 0, .int 0, .int 0, .long 0, .int 0, .int 0, .int 0, .null, .null, .null, .null, .null, .null, .null, .null, .null, .null, .null, .int 0]) (pc := 8) C h rfl i_X9 tyX9 tyX9_ok cl_L_10 ins_X9 ini_X9 (by decide +kernel) (by decide) (by decide) dL_law_8 (fun qm H h => ?_)
  refine W.widen (k := 56) (n := 6347) (by decide) (by decide) ?_
  refine lv_dup (pc := 11) C.1 C.2.1 dL_law_11 rfl ?_
  refine cl_n (pc := 12) (wc := [(qm, .inr (9, [.int 0, .int 0, .int 0, .int 0, .null, .null, .null, .int 0, .int 0, .null, .null, .int 0, .int 0, .null, .null, .null, .null, .null, .null, .null, .null, .int 0, .int 0, .null, .null, .null, .null, .null, .null, .null, .null, .null, .null, .null, .int 0, .null, .int 0, .int 0, .int 0, .int 0, .long 0, .int 0, .int 0, .int 0, .null, .null, .null, .null, .null, .null, .null, .null, .null, .null, .null, .int 0]))]) (wr := wX t a z0X) (As := []) (rest := [.ref qm]) [55] [0, 1, 2, 3, 4, 5, 6, 7, 8, 9, 10, 11, 12, 13, 14, 15, 16, 17, 18, 19, 20, 21, 22, 23, 24, 25, 26, 27, 28, 29, 30, 31, 32, 33, 34, 35, 36, 37, 38, 39, 40, 41, 42, 43, 44, 45, 46, 47, 48, 49, 50, 51, 52, 53, 54] C h rfl rfl rfl (by decide) (by decide) (by decide) (k_X9 l (dC, dI) t qm) mi_X9 lm_L_12 md_X9_init rfl ⟨by decide, by decide⟩ ⟨by decide, by decide⟩ hl.1 rfl (Nat.le_of_ble_eq_true rfl) dL_law_12 (fun um H locs _ h => ?_)
  obtain ⟨a2, ea2⟩ : ∃ a : Nat → Nat, a = (fun k => if k = 0 then qm else if k = 1 then um 0 else if k = 2 then um 1 else if k = 3 then um 2 else if k = 4 then um 3 else if k = 5 then um 4 else if k = 6 then um 5 else if k = 7 then um 6 else if k = 8 then um 7 else if k = 9 then um 8 else if k = 10 then um 9 else if k = 11 then um 10 else if k = 12 then um 11 else if k = 13 then um 12 else if k = 14 then um 13 else if k = 15 then um 14 else if k = 16 then um 15 else if k = 17 then um 16 else if k = 18 then um 17 else if k = 19 then um 18 else if k = 20 then um 19 else if k = 21 then um 20 else if k = 22 then um 21 else if k = 23 then um 22 else if k = 24 then um 23 else if k = 25 then um 24 else if k = 26 then um 25 else if k = 27 then um 26 else if k = 28 then um 27 else if k = 29 then um 28 else if k = 30 then um 29 else if k = 31 then um 30 else if k = 32 then um 31 else if k = 33 then um 32 else if k = 34 then um 33 else if k = 35 then um 34 else if k = 36 then um 35 else 0) := ⟨_, rfl⟩
  have h : wd (dC, dI) t (fun q : Nat => s.heap.size ≤ q) s (wX t a z0X ++ wM t a2 z0M) H locs := by
    subst ea2
    exact ⟨h.1, va_P.app (vP_l h.2.1) ((vP_r h.2.1).sub [0, 1, 2, 3, 4, 5, 6, 7, 8, 9, 10, 11, 12, 13, 14, 15, 16, 17, 18, 19, 20, 21, 22, 23, 24, 25, 26, 27, 28, 29, 30, 31, 32, 33, 34, 35, 36] rfl), va_D.app (vD_l h.2.2.1) ((vD_r h.2.2.1).sub [0, 1, 2, 3, 4, 5, 6, 7, 8, 9, 10, 11, 12, 13, 14, 15, 16, 17, 18, 19, 20, 21, 22, 23, 24, 25, 26, 27, 28, 29, 30, 31, 32, 33, 34, 35, 36] (by decide) rfl) (fun i j x y hx hy hxy => (va_sub_mem (ws := (fun u : Nat → Nat => [(qm, .inr (9, [.int 0, .int 0, .int 0, .int 0, .ref (u 0), .ref (u 1), .ref (u 2), .int 100, .int 0, .ref (u 3), .ref (u 4), .int 80000, .int 0, .ref (u 5), .ref (u 6), .ref (u 7), .ref (u 8), .ref (u 9), .ref (u 10), .ref (u 11), .ref (u 12), .int 0, .int 0, .ref (u 13), .ref (u 14), .ref (u 15), .ref (u 16), .ref (u 17), .ref (u 18), .ref (u 19), .ref (u 20), .ref (u 21), .ref (u 22), .ref (u 23), .int 0, .ref (u 24), .int 0, .int 0, .int 0, .int 0, .long 0, .int (-1), .int 0, .int 0, .ref (u 25), .ref (u 26), .ref (u 27), .ref (u 28), .ref (u 29), .ref (u 30), .ref (u 31), .ref (u 32), .ref (u 33), .ref (u 34), .ref (u 35), .int 0])), ((u 0), .inl (t.1, 400, .inl (fun _ => 0))), ((u 1), .inl (t.1, 400, .inl (fun _ => 0))), ((u 2), .inl (t.1, 400, .inl (fun _ => 0))), ((u 3), .inl (t.1, 4, .inl (fun _ => 0))), ((u 4), .inl (t.1, 96, .inl (fun _ => 0))), ((u 5), .inl (t.1, 16, .inl (fun _ => 0))), ((u 6), .inl (t.1, 16, .inl (fun _ => 0))), ((u 7), .inl (t.1, 16, .inl (fun _ => 0))), ((u 8), .inl (t.1, 16, .inl (fun _ => 0))), ((u 9), .inl (t.1, 64, .inl (fun _ => 0))), ((u 10), .inl (t.1, 16, .inl (fun _ => 0))), ((u 11), .inl (t.1, 16, .inl (fun _ => 0))), ((u 12), .inl (t.1, 168, .inl (fun _ => 0))), ((u 13), .inl (t.1, 20, .inl (fun _ => 0))), ((u 14), .inl (t.1, 20, .inl (fun _ => 0))), ((u 15), .inl (t.1, 20, .inl (fun _ => 0))), ((u 16), .inl (t.1, 20, .inl (fun _ => 0))), ((u 17), .inl (t.1, 5, .inl (fun _ => 0))), ((u 18), .inl (t.1, 16, .inl (fun _ => 0))), ((u 19), .inl (t.1, 16, .inl (fun _ => 0))), ((u 20), .inl (t.2.1, 120, .inr (.inl (fun _ => 0)))), ((u 21), .inl (t.2.1, 6, .inr (.inl (fun _ => 0)))), ((u 22), .inl (t.1, 5, .inl (fun _ => 0))), ((u 23), .inl (t.1, 80, .inl (fun _ => 0))), ((u 24), .inl (t.1, 300, .inl (fun _ => 0))), ((u 25), .inl (t.1, 6, .inl (fun _ => 0))), ((u 26), .inl (t.1, 6, .inl (fun _ => 0))), ((u 27), .inl (t.1, 6, .inl (fun _ => 0))), ((u 28), .inl (t.1, 6, .inl (fun _ => 0))), ((u 29), .inl (t.1, 6, .inl (fun _ => 0))), ((u 30), .inl (t.1, 6, .inl (fun _ => 0))), ((u 31), .inl (t.1, 6, .inl (fun _ => 0))), ((u 32), .inl (t.2.1, 2009, .inr (.inl (fun _ => 0)))), ((u 33), .inl (t.2.2.1, 2009, .inl (fun _ => 0))), ((u 34), .inl (t.1, 48, .inl (fun _ => 0))), ((u 35), .inl (t.1, 48, .inl (fun _ => 0)))]) um) [0, 1, 2, 3, 4, 5, 6, 7, 8, 9, 10, 11, 12, 13, 14, 15, 16, 17, 18, 19, 20, 21, 22, 23, 24, 25, 26, 27, 28, 29, 30, 31, 32, 33, 34, 35, 36] rfl hy).elim (fun k9 hk9 => vD_x h.2.2.1 hx hk9 hxy)), h.2.2.2⟩
  have e2 : qm = a2 0 := by rw [ea2]; rfl
  rw [e2]
  clear ea2 e2
  refine W.widen (k := 92) (n := 12759) (by decide) (by decide) ?_
  refine lv_astore_n (lv' := [(2, .ref (a2 0)), (1, .ref (a 0)), (0, .ref b)]) (pc := 15) C.1 C.2.1 dL_law_15 rfl hl (by decide) rfl (fun ls hl => ?_)
  refine lv_iconst (v := 0) (pc := 16) C.1 C.2.1 dL_law_16 (by decide) ?_
  refine lv_istore_n (lv' := [(3, .int 0), (2, .ref (a2 0)), (1, .ref (a 0)), (0, .ref b)]) (pc := 17) C.1 C.2.1 dL_law_17 rfl hl (by decide) rfl (fun ls hl => ?_)
  exact law_loop J hJ hL C0 (L + 1) 0 (Nat.zero_le _) (by omega) a a2 z0X z0M H _ ls hJ0 h (lv_sub hl [3, 2, 1, 0] rfl)
