section Two
variable {D : va_G} {cl : List vw_C} {A : Nat → Prop} {w1 w2 : va_W} {H : Heap} {t : Ty3} {s : State} {locs : List Loc}
theorem vP_l (h : va_P D cl (w1 ++ w2) H) : va_P D cl w1 H := fun k q hk => h k q (by rw [List.getElem?_append_left (List.getElem?_eq_some_iff.mp hk).1]; exact hk)
theorem vP_r (h : va_P D cl (w1 ++ w2) H) : va_P D cl w2 H := fun k q hk => h (w1.length + k) q (by rw [List.getElem?_append_right (by omega)]; simpa using hk)
theorem app_l {k : Nat} {q : Nat × va_E} (hk : w1[k]? = some q) : (w1 ++ w2)[k]? = some q := by rw [List.getElem?_append_left (List.getElem?_eq_some_iff.mp hk).1]; exact hk
theorem app_r {k : Nat} {q : Nat × va_E} (hk : w2[k]? = some q) : (w1 ++ w2)[w1.length + k]? = some q := by rw [List.getElem?_append_right (by omega)]; simpa using hk
theorem vD_l (h : va_D A (w1 ++ w2)) : va_D A w1 := ⟨fun i j p q hi hj e => h.1 i j p q (app_l hi) (app_l hj) e, fun k q hk => h.2 k q (app_l hk)⟩
theorem vD_r (h : va_D A (w1 ++ w2)) : va_D A w2 := ⟨fun i j p q hi hj e => by
  have := h.1 _ _ p q (app_r (w1 := w1) hi) (app_r (w1 := w1) hj) e
  omega, fun k q hk => h.2 _ q (app_r (w1 := w1) hk)⟩
theorem vD_x (h : va_D A (w1 ++ w2)) {i j : Nat} {p q : Nat × va_E} (hi : w1[i]? = some p) (hj : w2[j]? = some q) : p.1 ≠ q.1 := by
  intro e
  have h1 := h.1 _ _ p q (app_l (w2 := w2) hi) (app_r (w1 := w1) hj) e
  have h2 := (List.getElem?_eq_some_iff.mp hi).1
  omega
theorem wd_comm (h : wd D t A s (w1 ++ w2) H locs) : wd D t A s (w2 ++ w1) H locs :=
  ⟨h.1, va_P.app (vP_r h.2.1) (vP_l h.2.1), va_D.app (vD_r h.2.2.1) (vD_l h.2.2.1) (fun i j x y hx hy hxy => vD_x h.2.2.1 hy hx hxy.symm), h.2.2.2⟩
end Two
section LawCalls2
variable {p : Program} {l : Launch} {e : Env} {R : Room} {s : State} {m : MethodId} {args : Array Value} {below : List Frame} {meth : Method} {c : Code} {H : Heap} {locs : List Loc} {cells slots : Nat} {Q : State → Prop} {cc : ByteArray} {own : String} {nL pc : Nat} {ls : Array Slot} {rest : List Value} {D : va_G} {t : Ty3} {A : Nat → Prop} {S : Type} {wf : S → va_W} {w1 w2 : va_W} {y : MethodName} {b : ByteArray} {n : Nat} {r : Option FieldType} {d idx ad : Nat} {As st0 : List Value}
theorem wd_left (h : wd D t A s (w1 ++ w2) H locs) : wd D t A s w1 H locs := ⟨h.1, vP_l h.2.1, vD_l h.2.2.1, h.2.2.2⟩
theorem not_left (h : wd D t A s (w1 ++ w2) H locs) {k : Nat} {q : Nat × va_E} (hk : w2[k]? = some q) : ¬ va_A w1 H.size q.1 := by
  intro ha
  rcases ha with ⟨k2, e, hk2⟩ | hge
  · exact vD_x h.2.2.1 hk2 hk rfl
  · have := (vP_r h.2.1 k q hk).lt
    omega
theorem wd_two {z1 : S} {u : State} {H1 : Heap} {locs1 : List Loc} (h : wd D t A s (w1 ++ w2) H locs) (ht : u.heap = H1) (hB : wat D t (va_A w1 H.size) (wf z1) u) (hS : va_S A s.heap H1 locs1) (hk1 : ∀ q : Nat, q < H.size → ¬ va_A w1 H.size q → H1[q]? = H[q]?) : wd D t A s (wf z1 ++ w2) H1 locs1 := by
  have hb := wd_back (wd_left h) ht hB hS
  refine ⟨h.1, va_P.app hb.2.1 (fun k q hk => (vP_r h.2.1 k q hk).kept (hk1 q.1 (vP_r h.2.1 k q hk).lt (not_left h hk))), va_D.app hb.2.2.1 (vD_r h.2.2.1) (fun i j x y hx hy hxy => ?_), hS, h.2.2.2.2⟩
  exact not_left h hy (by rw [← hxy]; exact hB.2.2.2 i x hx)
theorem lc_i {P : Int32 → S → Prop} (C : CallFix p m c cc nL s args lw_g own) (h : wd D t A s (w1 ++ w2) H locs) (hM : CtI l D t y b n r d wf w1 (.ref ad :: As) P) (mw : MwV y b n r) (ml : Cond.methodLink own idx y ∈ lw_g) (md : MwD y As.length) (hrc : RcvOk w1 ad y.cls) (hR : d + 1 ≤ R.frames ∧ 19 + n + 40 * d ≤ R.locals) (h0 : cells ≤ R.cells ∧ slots ≤ R.slots) (hsz : ls.size = nL) (hst : st0 = As.reverse ++ .ref ad :: rest) (hWr : (rest.map fun v => v.category).sum ≤ 8) (hd : decode cc pc = .ok (.invokevirtual idx, 3))
    (kk : ∀ (v : Int32) (z1 : S) (H1 : Heap) (locs1 : List Loc), P v z1 → wd D t A s (wf z1 ++ w2) H1 locs1 → W p l e R s m args below meth c H1 locs1 cells slots Q (F0 m (pc + 3) ls (.int v :: rest))) : W p l e R s m args below meth c H locs cells slots Q (F0 m pc ls st0) := by
  obtain ⟨q, ci, T, N, fs, he, hc⟩ := hrc
  have h1 := wd_left h
  refine va_calli (va_runV (As := As) (rest := rest) C (hM H.size) ⟨callB_of As.length C.2.2.2.2 (goodW mw.2.2.2) rfl rfl rfl (C.2.2.2.2 _ mw.2.2.1) (C.2.2.2.2 _ ml) md ⟨hR.1, by show 8 + (n + 11) + 40 * d ≤ R.locals; omega⟩, C.2.2.2.2 _ mw.1, C.2.2.2.2 _ mw.2.1⟩ ⟨cpre_blind _, va_recv h1.1 h1.2.1 hc he, fun U hU hW => cpre_at h1 U hU hW⟩ rfl rfl hsz hst (lv_room hWr) hd h0) h.2.2.2.1 (fun q _ hq => wd_free h1 q hq) (wd_free h1) (fun v z1 u H1 locs1 ht hvm hP hB hz1 hk1 hS => ?_)
  exact kk v z1 H1 locs1 hP (wd_two h ht hB hS hk1)
theorem lc_l {P : Int64 → S → Prop} (C : CallFix p m c cc nL s args lw_g own) (h : wd D t A s (w1 ++ w2) H locs) (hM : CtL l D t y b n r d wf w1 (.ref ad :: As) P) (mw : MwV y b n r) (ml : Cond.methodLink own idx y ∈ lw_g) (md : MwD y As.length) (hrc : RcvOk w1 ad y.cls) (hR : d + 1 ≤ R.frames ∧ 19 + n + 40 * d ≤ R.locals) (h0 : cells ≤ R.cells ∧ slots ≤ R.slots) (hsz : ls.size = nL) (hst : st0 = As.reverse ++ .ref ad :: rest) (hWr : (rest.map fun v => v.category).sum ≤ 8) (hd : decode cc pc = .ok (.invokevirtual idx, 3))
    (kk : ∀ (v : Int64) (z1 : S) (H1 : Heap) (locs1 : List Loc), P v z1 → wd D t A s (wf z1 ++ w2) H1 locs1 → W p l e R s m args below meth c H1 locs1 cells slots Q (F0 m (pc + 3) ls (.long v :: rest))) : W p l e R s m args below meth c H locs cells slots Q (F0 m pc ls st0) := by
  obtain ⟨q, ci, T, N, fs, he, hc⟩ := hrc
  have h1 := wd_left h
  refine va_calll (va_runV (As := As) (rest := rest) C (hM H.size) ⟨callB_of As.length C.2.2.2.2 (goodW mw.2.2.2) rfl rfl rfl (C.2.2.2.2 _ mw.2.2.1) (C.2.2.2.2 _ ml) md ⟨hR.1, by show 8 + (n + 11) + 40 * d ≤ R.locals; omega⟩, C.2.2.2.2 _ mw.1, C.2.2.2.2 _ mw.2.1⟩ ⟨cpre_blind _, va_recv h1.1 h1.2.1 hc he, fun U hU hW => cpre_at h1 U hU hW⟩ rfl rfl hsz hst (lv_room hWr) hd h0) h.2.2.2.1 (fun q _ hq => wd_free h1 q hq) (wd_free h1) (fun v z1 u H1 locs1 ht hvm hP hB hz1 hk1 hS => ?_)
  exact kk v z1 H1 locs1 hP (wd_two h ht hB hS hk1)
end LawCalls2
theorem s_in {i k L : Nat} {c : Int32} (hc : c = nI k) (h : i + k < L) (hL : L < 2 ^ 31) : vp_in (nI i + c) L := by
  rw [hc, nI_add]; exact vp_in_nI h hL
theorem s_head {i L : Nat} (hi : i ≤ L) (hL : L ≤ 4608) (h : ¬ (Int32.ofNat L - 9 < nI i)) : i + 9 ≤ L := by
  have h1 : (nI L - nI 9).toInt = (L : Int) - (9 : Nat) := pk_sub_toInt (by omega) (by omega)
  have h2 : (nI i).toInt = (i : Int) := nI_toInt (by omega)
  have h3 : ¬ (nI L - nI 9 < nI i) := h
  rw [Int32.lt_iff_toInt_lt, h1, h2] at h3
  omega
-- THE STATES BEHIND THE CONSTRUCTORS
def z0X : St := (fun k => if k = 7 then -1 else if k = 106 then 100 else if k = 706 then 80000 else if k = 3402 then 10000 else if k = 5202 then 10000 else 0, fun k => if k = 5 then (fun i => if i < 168 then 100 else 0) else fun _ => 0, fun k => if k = 2215 then 1000000000000000000 else 0, fun _ _ => 0)
def z0M : St := (fun k => if k = 7 then 100 else if k = 11 then 80000 else if k = 41 then -1 else 0, fun _ _ => 0, fun _ => 0, fun _ _ => 0)
theorem va_sub_mem {ws ws' : va_W} (is : List Nat) (hs : is.filterMap (fun i => ws[i]?) = ws') {j : Nat} {y : Nat × va_E} (hy : ws'[j]? = some y) : ∃ k : Nat, ws[k]? = some y := by
  subst hs
  obtain ⟨i, -, hi⟩ := List.mem_filterMap.mp (List.mem_of_getElem? hy)
  exact ⟨i, hi⟩

def R_law : String := "PlugHoursLaw"
def lw_P (b : Addr) (xs : List Int32) (args : Array Value) (s : State) : Prop := args = #[.ref b] ∧ s.IntsAt b xs ∧ xs.length ≤ 4608 ∧ (Jvm.Cond.and given_1 narrow_1).before args s = true
def lw_Q (_ : Array Value) (s : State) (o : Outcome) (t : State) : Prop := o = .returned (some (.int 1)) ∧ Framed s o t [] 600000 7302250
def lw_Z (below : List Frame) (a : Array Value) (s : State) : State → Prop := fun t => ∃ o, t.status = .running ∧ Ended t below o ∧ lw_Q a s o t
/-- the law's own end, with 1 on the stack, nothing written that was there before, its room as the claim has it -/
theorem lw_ret {p : Program} {l : Launch} {e : Env} {s : State} {m : MethodId} {below : List Frame} {meth : Method} {c : Code} {b : Nat} (hx : p.tables.exec = Jvm.exec) (hb : c.code = code) (hr : meth.sig.returnType = ret) (hlocks : meth.locks = false) {pc : Nat} {H : Heap} {ls : Array Slot} (hdg : decode code pc = .ok (.ireturn, 1)) : W p l e room_1 s m #[Value.ref b] below meth c H [] 600000 7302250 (lw_Z below #[Value.ref b] s) (F0 m pc ls [.int 1]) := by
  intro T hT X
  obtain ⟨fs, hret, hrun, hended, hW, hframe⟩ := X.leave (v := some (.int 1)) (hlocks := hlocks) (fun h => by rw [hr] at h; cases h)
  have hmeth' : T.vm.method? m = some meth := X.method'
  refine ⟨T.setFrames fs, ?_, .returned (some (.int 1)), hrun, hended, rfl, ⟨_, rfl⟩, hW, hframe⟩
  jvm_step X.here [X.here.top, hx, hb, hdg, hmeth', hr, ret, narrow_b1]
  (try refine ⟨rfl, ?_⟩); (try refine ⟨rfl, ?_⟩)
  first | (intro acts; rw [hret _ acts rfl rfl rfl]) | rw [hret _ _ rfl rfl rfl]
  exact Steps.refl _
/-- what holds at the law's entry: the machine, the code, the tables' words (any of lw_tbl by 'hts w (by decide +kernel)'), the script of L ints xs at the cell b, what the Statement gives of the start (any of its parts by flat_of_before) -/
def lw_At (p : Program) (s : State) (m : MethodId) (meth : Method) (c : Code) (b L : Nat) (xs : Nat → Int32) : Prop :=
  p.tables.exec = Jvm.exec ∧ c.code = code ∧ meth.sig.returnType = ret ∧ c.maxLocals = 4 ∧ s.vm.findClass R_law = some m.cls ∧ (∀ w ∈ lw_tbl, w.before #[Value.ref b] s = true) ∧ va_X b L xs s s.heap ∧ b < s.heap.size ∧ meth.locks = false ∧ (Jvm.Cond.and given_1 narrow_1).before #[Value.ref b] s = true
