-- CONSTRUCTORS: rows that make cells
def rmN (d mc ms : Nat) : Room := { frames := d, cells := mc, slots := ms, locals := 40 * d }
def CtN {S : Type} (l : Launch) (D : va_G) (t : Ty3) (y : MethodName) (b : ByteArray) (n : Nat) (d mc ms : Nat) (wf : S → va_W) (w : va_W) (As : List Value) (P : S → Prop) : Prop :=
  ∀ sz : Nat, Met l y (ww y b n none) (rmN d mc ms) (cpre D t w As sz) (va_Qv P (fun z' U => wat D t (va_A w sz) (wf z') U) (va_A w sz)) mc ms (va_A w sz)
abbrev QN {S : Type} (D : va_G) (t : Ty3) (A : Nat → Prop) (wf : S → va_W) (P : S → Prop) (below : List Frame) (args : Array Value) (s : State) (mc ms : Nat) : State → Prop := MQ below (va_Qv P (fun z' U => wat D t A (wf z') U) A) args s mc ms A
def MwI (y : MethodName) (b : ByteArray) (n : Nat) : Prop := Cond.instanceMethod y ∈ lw_g ∧ Cond.initialized y.cls ∈ lw_g ∧ Cond.code y b n none ∈ lw_g
section CtorRows
variable {p : Program} {l : Launch} {e : Env} {R : Room} {s : State} {m : MethodId} {args : Array Value} {below : List Frame} {meth : Method} {c : Code} {H : Heap} {locs : List Loc} {cells slots : Nat} {Q : State → Prop} {cc : ByteArray} {own : String} {nL pc : Nat} {ls : Array Slot} {rest : List Value} {D : va_G} {t : Ty3} {A : Nat → Prop} {S : Type} {wf : S → va_W} {w : va_W} {y : MethodName} {b : ByteArray} {n : Nat} {d mc ms idx ad : Nat} {As st0 : List Value}
theorem ctN_of {P : S → Prop} (hy : plainName y.cls = true) (hn : (lg_sl As).length ≤ n)
    (body : ∀ (p : Program) (e : Env) (s : State) (m : MethodId) (args : Array Value) (below : List Frame) (meth : Method) (c : Code) (A : Nat → Prop) (ls : Array Slot), CallFix p m c b n s args lw_g y.cls → meth.sig.returnType = none → meth.locks = false → meth.name = y.name → wd D t A s w s.heap [] → lv_has ls n (lv_args 0 As) → W p l e (rmN d mc ms) s m args below meth c s.heap [] 0 0 (QN D t A wf P below args s mc ms) (F0 m 0 ls [])) : CtN l D t y b n d mc ms wf w As P := by
  intro sz
  refine Met.ofW (cc := b) (maxL := n) (ret := none) hy rfl ?_
  intro p e s m args below meth c s₁ B hml hv
  obtain ⟨rfl, hsz, ⟨hP, hK, hD0⟩, hE⟩ := hv
  subst hsz
  have hts := atoms_spec (ws := ww y b n none) B.pre
  have hown : s.vm.findClass y.cls = some m.cls := findClass_of_methodNamed B.named
  have hD := hD0.self (sz := s.heap.size)
  have hl := lv_entry As (n := n) hn
  rw [lg_entry_eq]
  exact body p e s m _ below meth c _ _ ⟨B.exec, B.bytes, hml, hown, fun w h => hts w (List.mem_cons_of_mem _ h)⟩ B.returns B.notSynchronized (name_of_methodNamed B.named B.method).1 ⟨hK, hP, hD, va_S.rf, fun q h => Or.inr h, hE⟩ hl
theorem rt_c {P : S → Prop} (u : S) (C : CallFix p m c cc nL s args lw_g own) (hr : meth.sig.returnType = none) (hlk : meth.locks = false) (h : wd D t A s w H locs) (hw : w = wf u) (hP : P u) (hd : decode cc pc = .ok (.return_, 1)) : W p l e R s m args below meth c H locs mc ms (QN D t A wf P below args s mc ms) (F0 m pc ls []) := by
  subst hw
  exact W.vret C.1 C.2.1 hr (fun x hu hW => ⟨⟨u, rfl, hP, by rw [hu]; exact h.2.1, va_K.moved hW.alike h.1, h.2.2.1⟩, h.2.2.2.1.F hu⟩) h.2.2.2.1.2.2 hd hlk
theorem r_putF (C : CallFix p m c cc nL s args lw_g own) (hin : meth.name = "<init>") (h : wd D t A s w H locs) {a q ci k N idx : Nat} {T : u_T} {cn ref : String} {fs : List Value} {v : Value} {ty : FieldType} {w' : va_W} (ty0 : Nat → FieldType) (hty : ∀ k, k < N → parseFieldDescriptor (T k).2.2.1 = some (ty0 k)) (hnm : ∀ a, a < N → ∀ b, b < N → a ≠ b → (T a).2.1 ≠ (T b).2.1) (he : w[q]? = some (a, .inr (ci, fs))) (hc : vwC[ci]? = some (cn, T, N)) (hi : ∀ x ∈ u_ws cn T N, x ∈ lw_g) (hk : k < N) (hl : Cond.fieldLink own idx ref (T k).2.1 (T k).2.2.1 ∈ lw_g) (hs : (T k).1 = ref) (hdecl : (T k).1 = own) (hfin : (T k).2.2.2 = true) (hd2 : parseFieldDescriptor (T k).2.2.1 = some ty) (hn : narrow ty v = v) (hfit : fits ty v = true) (hfl : k < fs.length) (hw : w.set q (a, .inr (ci, fs.set k v)) = w') (hd : decode cc pc = .ok (.putfield idx, 3))
    (kk : ∀ (H1 : Heap) (locs1 : List Loc), wd D t A s w' H1 locs1 → W p l e R s m args below meth c H1 locs1 cells slots Q (F0 m (pc + 3) ls rest)) : W p l e R s m args below meth c H locs cells slots Q (F0 m pc ls (v :: .ref a :: rest)) :=
  va_putF C.1 C.2.1 C.2.2.2.2 hi ty0 hty hnm C.2.2.2.1 h.1 h.2.1 h.2.2.1 h.2.2.2.1 q he hc k hk (C.2.2.2.2 _ hl) (fun x hx => by rw [← hs]; exact hx) hfin hin hdecl hd2 hn hfit hfl hd (fun H1 locs1 hP hD hS => kk H1 locs1 ⟨h.1, by rw [← hw]; exact hP, by rw [← hw]; exact hD, hS, h.2.2.2.2⟩)
theorem r_obj (C : CallFix p m c cc nL s args lw_g own) (ml : Cond.methodLink own idx objectInit ∈ lw_g) (m1 : Cond.instanceMethod objectInit ∈ lw_g) (m2 : Cond.code objectInit ⟨#[0xb1]⟩ 1 none ∈ lw_g) (hsz : ls.size = nL) (hR : 1 ≤ R.frames ∧ 20 ≤ R.locals) (hWr : (rest.map fun v => v.category).sum ≤ 8) (hd : decode cc pc = .ok (.invokespecial idx, 3)) (kk : W p l e R s m args below meth c H locs cells slots Q (F0 m (pc + 3) ls rest)) : W p l e R s m args below meth c H locs cells slots Q (F0 m pc ls (.ref ad :: rest)) :=
  W.objInit C.1 C.2.1 C.2.2.2.1 (C.2.2.2.2 _ ml) (C.2.2.2.2 _ m1) (C.2.2.2.2 _ m2) rfl (by rw [C.2.2.1]; exact hsz) rfl hd hR.1 (by have := lv_room (m := m) (pc := pc) (ls := ls) (rest := rest) hWr; show 2 * (F0 m pc ls (.ref ad :: rest)).monitorRoom + _ + 12 ≤ _; have e1 : (F0 m pc ls (.ref ad :: rest)).monitorRoom = (F0 m pc ls rest).monitorRoom := rfl; omega) kk
theorem r_newi {n : Int32} {N : Nat} (C : CallFix p m c cc nL s args lw_g own) (h : wd D t A s w H locs) (ha : Cond.arrayClass .int ∈ lw_g) (hn : ¬ n < 0) (hN : n.toNatClampNeg = N) (hb : N * componentBytes .int ≤ 536870912) (h1 : cells + 1 ≤ R.cells) (h2 : slots + N ≤ R.slots) (hd : decode cc pc = .ok (.newarray .int, 2))
    (kk : ∀ (q : Nat) (H1 : Heap), wd D t A s (w ++ [(q, .inl (t.1, N, .inl (fun _ => 0)))]) H1 locs → W p l e R s m args below meth c H1 locs (cells + 1) (slots + N) Q (F0 m (pc + 2) ls (.ref q :: rest))) : W p l e R s m args below meth c H locs cells slots Q (F0 m pc ls (.int n :: rest)) := by
  refine va_newa (atype := .int) (ty := .int) (a0 := (N, .inl (fun _ => 0))) C.1 C.2.1 (C.2.2.2.2 _ ha) rfl h.1 h.2.1 h.2.2.1 h.2.2.2.1 h.2.2.2.2.1 (fun cA => rfl) hn hN hb h1 h2 hd (fun q cA H1 hK hP hD hS => ?_)
  have e1 : s.vm.findClass ("[" ++ (FieldType.int).toString) = some cA := (hK.2 3 (cA, .int) rfl).2
  have e2 : s.vm.findClass ("[" ++ (FieldType.int).toString) = some t.1 := (hK.2 0 (t.1, .int) rfl).2
  have e3 : cA = t.1 := Option.some.inj (e1.symm.trans e2)
  subst e3
  exact kk q H1 ⟨h.1, hP, hD, hS, h.2.2.2.2⟩
theorem r_newl {n : Int32} {N : Nat} (C : CallFix p m c cc nL s args lw_g own) (h : wd D t A s w H locs) (ha : Cond.arrayClass .long ∈ lw_g) (hn : ¬ n < 0) (hN : n.toNatClampNeg = N) (hb : N * componentBytes .long ≤ 536870912) (h1 : cells + 1 ≤ R.cells) (h2 : slots + N ≤ R.slots) (hd : decode cc pc = .ok (.newarray .long, 2))
    (kk : ∀ (q : Nat) (H1 : Heap), wd D t A s (w ++ [(q, .inl (t.2.1, N, .inr (.inl (fun _ => 0))))]) H1 locs → W p l e R s m args below meth c H1 locs (cells + 1) (slots + N) Q (F0 m (pc + 2) ls (.ref q :: rest))) : W p l e R s m args below meth c H locs cells slots Q (F0 m pc ls (.int n :: rest)) := by
  refine va_newa (atype := .long) (ty := .long) (a0 := (N, .inr (.inl (fun _ => 0)))) C.1 C.2.1 (C.2.2.2.2 _ ha) rfl h.1 h.2.1 h.2.2.1 h.2.2.2.1 h.2.2.2.2.1 (fun cA => rfl) hn hN hb h1 h2 hd (fun q cA H1 hK hP hD hS => ?_)
  have e1 : s.vm.findClass ("[" ++ (FieldType.long).toString) = some cA := (hK.2 3 (cA, .long) rfl).2
  have e2 : s.vm.findClass ("[" ++ (FieldType.long).toString) = some t.2.1 := (hK.2 1 (t.2.1, .long) rfl).2
  have e3 : cA = t.2.1 := Option.some.inj (e1.symm.trans e2)
  subst e3
  exact kk q H1 ⟨h.1, hP, hD, hS, h.2.2.2.2⟩
theorem r_newz {n : Int32} {N : Nat} (C : CallFix p m c cc nL s args lw_g own) (h : wd D t A s w H locs) (ha : Cond.arrayClass .boolean ∈ lw_g) (hn : ¬ n < 0) (hN : n.toNatClampNeg = N) (hb : N * componentBytes .boolean ≤ 536870912) (h1 : cells + 1 ≤ R.cells) (h2 : slots + N ≤ R.slots) (hd : decode cc pc = .ok (.newarray .boolean, 2))
    (kk : ∀ (q : Nat) (H1 : Heap), wd D t A s (w ++ [(q, .inl (t.2.2.1, N, .inl (fun _ => 0)))]) H1 locs → W p l e R s m args below meth c H1 locs (cells + 1) (slots + N) Q (F0 m (pc + 2) ls (.ref q :: rest))) : W p l e R s m args below meth c H locs cells slots Q (F0 m pc ls (.int n :: rest)) := by
  refine va_newa (atype := .boolean) (ty := .boolean) (a0 := (N, .inl (fun _ => 0))) C.1 C.2.1 (C.2.2.2.2 _ ha) rfl h.1 h.2.1 h.2.2.1 h.2.2.2.1 h.2.2.2.2.1 (fun cA => rfl) hn hN hb h1 h2 hd (fun q cA H1 hK hP hD hS => ?_)
  have e1 : s.vm.findClass ("[" ++ (FieldType.boolean).toString) = some cA := (hK.2 3 (cA, .boolean) rfl).2
  have e2 : s.vm.findClass ("[" ++ (FieldType.boolean).toString) = some t.2.2.1 := (hK.2 2 (t.2.2.1, .boolean) rfl).2
  have e3 : cA = t.2.2.1 := Option.some.inj (e1.symm.trans e2)
  subst e3
  exact kk q H1 ⟨h.1, hP, hD, hS, h.2.2.2.2⟩
theorem r_new {ci N : Nat} {T : u_T} {cn : String} {fs : List Value} (C : CallFix p m c cc nL s args lw_g own) (h : wd D t A s w H locs) (hc : vwC[ci]? = some (cn, T, N)) (hi : ∀ x ∈ u_ws cn T N, x ∈ lw_g) (ty0 : Nat → FieldType) (hty : ∀ k, k < N → parseFieldDescriptor (T k).2.2.1 = some (ty0 k)) (hl : Cond.classLink own idx cn ∈ lw_g) (hins : Cond.instantiable cn N ∈ lw_g) (hini : Cond.initialized cn ∈ lw_g) (hfs : ∀ j, j < N → defaultValue (ty0 j) = vp_V fs j) (h1 : cells + 1 ≤ R.cells) (h2 : slots + N ≤ R.slots) (hd : decode cc pc = .ok (.new idx, 3))
    (kk : ∀ (q : Nat) (H1 : Heap), wd D t A s (w ++ [(q, .inr (ci, fs))]) H1 locs → W p l e R s m args below meth c H1 locs (cells + 1) (slots + N) Q (F0 m (pc + 3) ls (.ref q :: rest))) : W p l e R s m args below meth c H locs cells slots Q (F0 m pc ls rest) :=
  va_new C.1 C.2.1 C.2.2.2.2 hi ty0 hty C.2.2.2.1 (C.2.2.2.2 _ hl) (C.2.2.2.2 _ hins) (C.2.2.2.2 _ hini) h.1 h.2.1 h.2.2.1 h.2.2.2.1 h.2.2.2.2.1 hc hfs h1 h2 hd (fun q H1 hP hD hS => kk q H1 ⟨h.1, hP, hD, hS, h.2.2.2.2⟩)
theorem cl_n {P : S → Prop} {wc wr : va_W} (isC isR : List Nat) (C : CallFix p m c cc nL s args lw_g own) (h : wd D t A s w H locs) (hC0 : isC.filterMap (fun i => w[i]?) = wc) (hC : isC.map (fun i => w[i]?) = wc.map some) (hRr : isR.map (fun i => w[i]?) = wr.map some) (hndC : va_nd isC = true) (hnd : va_nd isR = true) (hdis : ∀ i ∈ isR, i ∉ isC) (hM : CtN l D t y b n d mc ms wf wc (.ref ad :: As) P) (mw : MwI y b n) (ml : Cond.methodLink own idx y ∈ lw_g) (md : MwD y As.length) (hyn : y.name = "<init>") (hR : d + 1 ≤ R.frames ∧ 19 + n + 40 * d ≤ R.locals) (h0 : cells + mc ≤ R.cells ∧ slots + ms ≤ R.slots) (hsz : ls.size = nL) (hst : st0 = As.reverse ++ .ref ad :: rest) (hWr : (rest.map fun v => v.category).sum ≤ 8) (hd : decode cc pc = .ok (.invokespecial idx, 3))
    (kk : ∀ (u : S) (H1 : Heap) (locs1 : List Loc), P u → wd D t A s (wr ++ wf u) H1 locs1 → W p l e R s m args below meth c H1 locs1 (cells + mc) (slots + ms) Q (F0 m (pc + 3) ls rest)) : W p l e R s m args below meth c H locs cells slots Q (F0 m pc ls st0) := by
  have hF := va_free (wc := wc) h.2.2.1 h.2.2.2.1 h.2.2.2.2.1 isC hC
  have hPc := h.2.1.sub isC hC0
  have hDc := h.2.2.1.sub isC hndC hC
  refine va_callv (va_runI (As := As) (rest := rest) C (hM H.size) ⟨callB_of As.length C.2.2.2.2 (goodW mw.2.2) rfl rfl rfl (C.2.2.2.2 _ mw.2.1) (C.2.2.2.2 _ ml) md ⟨hR.1, by show 8 + (n + 11) + 40 * d ≤ R.locals; omega⟩, hyn, C.2.2.2.2 _ mw.1⟩ ⟨cpre_blind _, fun U hU hW => ⟨rfl, by rw [hU], ⟨by rw [hU]; exact hPc, va_K.moved hW.alike h.1, hDc.weaken (fun _ _ _ _ => trivial)⟩, by rw [hU]; exact h.2.2.2.2.2.at hW h.2.2.2.1.2.1 hF⟩⟩ rfl rfl hsz hst (lv_room hWr) hd h0) h.2.2.2.1 (fun q _ hq => hF q hq) hF (fun u t2 H1 locs1 ht hvm hP hB hz1 hk1 hS => ?_)
  obtain ⟨hP1, hK1, hD1⟩ := hB
  rw [ht] at hP1
  obtain ⟨hP2, hD2⟩ := va_join (wr := wr) (w1 := wf u) h.2.1 h.2.2.1 isC isR hC hRr hnd hdis hk1 hF hP1 hD1
  exact kk u H1 locs1 hP ⟨h.1, hP2, hD2, hS, h.2.2.2.2⟩
theorem wd_eq {w' : va_W} (h : wd D t A s w H locs) (e : w = w') : wd D t A s w' H locs := e ▸ h
end CtorRows
theorem fill_step (n i : Nat) (v : Int32) (f : Nat → Int32) : upd (fun j => if j < i then v else f j) i v = fun j => if j < i + 1 then v else f j := by
  funext j
  unfold upd
  by_cases h1 : j = i
  · subst h1; simp
  · by_cases h2 : j < i
    · simp [h1, h2, Nat.lt_succ_of_lt h2]
    · have h3 : ¬ j < i + 1 := by omega
      simp [h1, h2, h3]
set_option maxHeartbeats 1000000 in
/-- Arrays.fill over any row of ints -/
theorem m_fillG (l : Launch) (D : va_G) (t : Ty3) (w : va_W) (q ad n : Nat) (f : Nat → Int32) (v : Int32) (hq : w[q]? = some (ad, .inl (t.1, n, .inl f))) (hn : n < 2 ^ 31) : CtV l D t yJ7_fill_53178 cJ7_fill_53178 4 none 0 (fun g : Nat → Int32 => w.set q (ad, .inl (t.1, n, .inl g))) w [.ref ad, .int v] (fun g => g = fun i => if i < n then v else f i) := by
  have hlt : q < w.length := (List.getElem?_eq_some_iff.mp hq).1
  refine ctV_of (by decide) (Nat.le_of_ble_eq_true rfl) ?_
  intro p e s m args below meth c A ls C hr hlk h hl
  have hl : lv_has ls 4 [(0, .ref ad), (1, .int v)] := hl
  have hs0 : w = w.set q (ad, .inl (t.1, n, .inl f)) := by
    apply List.ext_getElem?
    intro j
    rw [List.getElem?_set]
    by_cases hj : q = j
    · subst hj; rw [if_pos rfl, if_pos hlt]; exact hq
    · simp [hj]
  have hget : ∀ g : Nat → Int32, (w.set q (ad, .inl (t.1, n, .inl g)))[q]? = some (ad, .inl (t.1, n, .inl g)) := by
    intro g; rw [List.getElem?_set]; simp [hlt]
  have hset : ∀ g g2 : Nat → Int32, (w.set q (ad, .inl (t.1, n, .inl g))).set q (ad, .inl (t.1, n, .inl g2)) = w.set q (ad, .inl (t.1, n, .inl g2)) := by
    intro g g2; rw [List.set_set]
  refine lv_iconst (v := 0) (pc := 0) C.1 C.2.1 dJ7_fill_53178_0 (by decide) ?_
  refine lv_istore_n (lv' := [(2, .int 0), (0, .ref ad), (1, .int v)]) (pc := 1) C.1 C.2.1 dJ7_fill_53178_1 rfl hl (by decide) rfl (fun ls hl => ?_)
  refine lv_aload_n (pc := 2) C.1 C.2.1 dJ7_fill_53178_2 rfl (lv_at hl 1 rfl) ?_
  refine r_len (pc := 3) (v := nI n) C h hq rfl dJ7_fill_53178_3 ?_
  refine lv_istore_n (lv' := [(3, .int (nI n)), (2, .int 0), (0, .ref ad), (1, .int v)]) (pc := 4) C.1 C.2.1 dJ7_fill_53178_4 rfl hl (by decide) rfl (fun ls hl => ?_)
  have loop : ∀ (k i : Nat), i + k = n → ∀ (H : Heap) (locs : List Loc) (ls : Array Slot), wd D t A s (w.set q (ad, .inl (t.1, n, .inl (fun j => if j < i then v else f j)))) H locs → lv_has ls 4 [(3, .int (nI n)), (2, .int (nI i)), (0, .ref ad), (1, .int v)] → W p l e (rmd 0) s m args below meth c H locs 0 0 (QV D t A (fun g : Nat → Int32 => w.set q (ad, .inl (t.1, n, .inl g))) (fun g => g = fun i => if i < n then v else f i) below args s) (F0 m 5 ls []) := by
    intro k
    induction k with
    | zero =>
      intro i hi H locs ls h hl
      have hi : i = n := by omega
      subst hi
      refine lv_iload_n (pc := 5) C.1 C.2.1 dJ7_fill_53178_5 rfl (lv_at hl 1 rfl) ?_
      refine lv_iload_n (pc := 6) C.1 C.2.1 dJ7_fill_53178_6 rfl (lv_at hl 0 rfl) ?_
      refine lv_icmp_ge (tgt := 20) (pc := 7) C.1 C.2.1 dJ7_fill_53178_7 (by decide) (fun c1 => ?_) (fun c1 => absurd (nI_le (Nat.le_refl _) hn) c1)
      exact rt_v (wf := fun g : Nat → Int32 => w.set q (ad, .inl (t.1, i, .inl g))) (z := fun j => if j < i then v else f j) (pc := 20) C hr hlk h rfl dJ7_fill_53178_20
    | succ k ih =>
      intro i hi H locs ls h hl
      refine lv_iload_n (pc := 5) C.1 C.2.1 dJ7_fill_53178_5 rfl (lv_at hl 1 rfl) ?_
      refine lv_iload_n (pc := 6) C.1 C.2.1 dJ7_fill_53178_6 rfl (lv_at hl 0 rfl) ?_
      refine lv_icmp_ge (tgt := 20) (pc := 7) C.1 C.2.1 dJ7_fill_53178_7 (by decide) (fun c1 => absurd c1 (nI_ge (by omega) hn)) (fun c1 => ?_)
      refine lv_aload_n (pc := 10) C.1 C.2.1 dJ7_fill_53178_10 rfl (lv_at hl 2 rfl) ?_
      refine lv_iload_n (pc := 11) C.1 C.2.1 dJ7_fill_53178_11 rfl (lv_at hl 1 rfl) ?_
      refine lv_iload_n (pc := 12) C.1 C.2.1 dJ7_fill_53178_12 rfl (lv_at hl 3 rfl) ?_
      refine r_ist (pc := 13) C h (hget _) (hset _ _) (vp_in_nI (by omega) hn) dJ7_fill_53178_13 (fun H locs h => ?_)
      rw [nI_clamp (by omega), fill_step n i v f] at h
      refine lv_iinc (v := nI (i + 1)) (lv' := [(2, .int (nI (i + 1))), (3, .int (nI n)), (0, .ref ad), (1, .int v)]) (pc := 14) C.1 C.2.1 dJ7_fill_53178_14 hl (k := 1) rfl (nI_1 i) (by decide) rfl (fun ls hl => ?_)
      refine lv_goto (tgt := 5) (pc := 17) C.1 C.2.1 dJ7_fill_53178_17 (by decide) ?_
      exact ih (i + 1) (by omega) H locs ls h (lv_sub hl [1, 0, 2, 3] rfl)
  refine loop n 0 (by omega) s.heap [] ls ?_ hl
  exact wd_eq h (by rw [hs0]; simp)
