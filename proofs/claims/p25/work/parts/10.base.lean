/-- the tables' words that any state behind the start keeps -/
def lw_g : List Cond := lw_tbl.filter goodWord
-- THE STATE OF A SIDE: int fields, int rows, long fields, long rows (numbers of fields: 100 * cell + place; numbers of rows: the cell)
abbrev St : Type := (Nat → Int32) × (Nat → Nat → Int32) × (Nat → Int64) × (Nat → Nat → Int64)
def gI (z : St) (k : Nat) : Int32 := z.1 k
def gF (z : St) (k : Nat) : Nat → Int32 := z.2.1 k
def gJ (z : St) (k : Nat) : Int64 := z.2.2.1 k
def gG (z : St) (k : Nat) : Nat → Int64 := z.2.2.2 k
def wI (z : St) (k : Nat) (v : Int32) : St := (va_up z.1 k v, z.2.1, z.2.2.1, z.2.2.2)
def wR (z : St) (k : Nat) (f : Nat → Int32) : St := (z.1, va_up z.2.1 k f, z.2.2.1, z.2.2.2)
def wJ (z : St) (k : Nat) (v : Int64) : St := (z.1, z.2.1, va_up z.2.2.1 k v, z.2.2.2)
def wL (z : St) (k : Nat) (f : Nat → Int64) : St := (z.1, z.2.1, z.2.2.1, va_up z.2.2.2 k f)
/-- the classes of int, long and boolean rows; where the text constants and their byte rows lie -/
abbrev Ty3 : Type := ClassId × ClassId × ClassId × (Nat → Nat) × (Nat → Nat)
abbrev tys3 (t : Ty3) : List (ClassId × FieldType) := [(t.1, .int), (t.2.1, .long), (t.2.2.1, .boolean)]
abbrev vwC : List vw_C := [(RX0, TX0, 7), (RX1, TX1, 9), (RX2, TX2, 5), (RX3, TX3, 7), (RX4, TX4, 4), (RX5, TX5, 4), (RX6, TX6, 17), (RX7, TX7, 16), (RX8, TX8, 9), (RX9, TX9, 56)]
theorem i_X0 : ∀ w ∈ u_ws RX0 TX0 7, w ∈ lw_g := by decide +kernel
theorem i_X1 : ∀ w ∈ u_ws RX1 TX1 9, w ∈ lw_g := by decide +kernel
theorem i_X2 : ∀ w ∈ u_ws RX2 TX2 5, w ∈ lw_g := by decide +kernel
theorem i_X3 : ∀ w ∈ u_ws RX3 TX3 7, w ∈ lw_g := by decide +kernel
theorem i_X4 : ∀ w ∈ u_ws RX4 TX4 4, w ∈ lw_g := by decide +kernel
theorem i_X5 : ∀ w ∈ u_ws RX5 TX5 4, w ∈ lw_g := by decide +kernel
theorem i_X6 : ∀ w ∈ u_ws RX6 TX6 17, w ∈ lw_g := by decide +kernel
theorem i_X7 : ∀ w ∈ u_ws RX7 TX7 16, w ∈ lw_g := by decide +kernel
theorem i_X8 : ∀ w ∈ u_ws RX8 TX8 9, w ∈ lw_g := by decide +kernel
theorem i_X9 : ∀ w ∈ u_ws RX9 TX9 56, w ∈ lw_g := by decide +kernel
theorem all_good : lw_g.all goodWord = true := by unfold lw_g; rw [List.all_filter]; simp
theorem good_all : GoodIn lw_g lw_g := fun w hw => ⟨hw, good_of_word (List.all_eq_true.mp all_good w hw)⟩
-- TEXT CONSTANTS of the reader, by number: quiet dear job from to before ;
def strIx : List Nat := [46, 51, 56, 65, 67, 81, 40]
def strTx : List String := ["quiet", "dear", "job", "from", "to", "before", ";"]
def strB : List (List Int32) := [[113, 117, 105, 101, 116], [100, 101, 97, 114], [106, 111, 98], [102, 114, 111, 109], [116, 111], [98, 101, 102, 111, 114, 101], [59]]
def strL : List Nat := [5, 4, 3, 4, 2, 6, 1]
/-- what lies outside A and stays: the text constants, two statics of the JDK -/
def Ex (t : Ty3) (A : Nat → Prop) (U : State) (H : Heap) : Prop := vk_S 7 strL strB t.2.2.2.1 t.2.2.2.2 A U H ∧ va_Z "java/lang/String" "COMPACT_STRINGS" "Z" (.int 1) A U H ∧ va_Zq "jdk/internal/util/Preconditions" "SIOOBE_FORMATTER" "Ljava/util/function/BiFunction;" A U H ∧ ∀ i, i < 7 → vk_R "PlugHours$Reader" (strIx.getD i 0) (strTx.getD i "") (t.2.2.2.1 i) U
theorem Ex.at {t : Ty3} {A B : Nat → Prop} {s U : State} {H : Heap} (h : Ex t A s s.heap) (hW : s.WarmedH U.vm) (hk : ∀ a : Nat, a < s.heap.size → ¬ A a → H[a]? = s.heap[a]?) (hAB : ∀ q, B q → A q) : Ex t B U H :=
  ⟨(((h.1.kept hk).narrow hAB).moved hW.alike), (((h.2.1.kept hk).narrow hAB).moved hW.alike), (((h.2.2.1.kept hk).narrow hAB).moved hW.alike), fun i hi => (h.2.2.2 i hi).warm hW⟩
theorem Ex.calling {t : Ty3} {A : Nat → Prop} {U : State} {g : JFrame} {mk : MethodId} {a : Array Value} (h : Ex t A U U.heap) : Ex t A (U.calling g mk a) (U.calling g mk a).heap :=
  ⟨vk_S.moved (u := U) (U := U.calling g mk a) (Vm.Alike.refl U.vm) h.1, va_Z.moved (u := U) (U := U.calling g mk a) (Vm.Alike.refl U.vm) h.2.1, va_Zq.moved (u := U) (U := U.calling g mk a) (Vm.Alike.refl U.vm) h.2.2.1, fun i hi => vk_R.same (u := U) rfl (h.2.2.2 i hi)⟩
def wat (D : va_G) (t : Ty3) (A : Nat → Prop) (w : va_W) (U : State) : Prop := va_P D vwC w U.heap ∧ va_K D vwC (tys3 t) U ∧ va_D A w
def wd (D : va_G) (t : Ty3) (A : Nat → Prop) (s : State) (w : va_W) (H : Heap) (locs : List Loc) : Prop := va_K D vwC (tys3 t) s ∧ va_P D vwC w H ∧ va_D A w ∧ va_S A s.heap H locs ∧ (∀ q : Nat, s.heap.size ≤ q → A q) ∧ Ex t A s s.heap
def rmd (d : Nat) : Room := { frames := d, cells := 0, slots := 0, locals := 40 * d }
def ww (y : MethodName) (b : ByteArray) (n : Nat) (r : Option FieldType) : List Cond := .code y b n r :: lw_g
def cpre (D : va_G) (t : Ty3) (w : va_W) (As : List Value) (sz : Nat) : Array Value → State → Prop := va_Pc As (fun U => U.heap.size = sz ∧ wat D t (fun _ => True) w U ∧ Ex t (va_A w sz) U U.heap)
-- CONTRACTS: from the world w the method returns, with P of its answer and of the new state; nothing else is changed, nothing made
def CtI {S : Type} (l : Launch) (D : va_G) (t : Ty3) (y : MethodName) (b : ByteArray) (n : Nat) (r : Option FieldType) (d : Nat) (wf : S → va_W) (w : va_W) (As : List Value) (P : Int32 → S → Prop) : Prop :=
  ∀ sz : Nat, Met l y (ww y b n r) (rmd d) (cpre D t w As sz) (va_Qi P (fun z' U => wat D t (va_A w sz) (wf z') U) (va_A w sz)) 0 0 (va_A w sz)
def CtL {S : Type} (l : Launch) (D : va_G) (t : Ty3) (y : MethodName) (b : ByteArray) (n : Nat) (r : Option FieldType) (d : Nat) (wf : S → va_W) (w : va_W) (As : List Value) (P : Int64 → S → Prop) : Prop :=
  ∀ sz : Nat, Met l y (ww y b n r) (rmd d) (cpre D t w As sz) (va_Ql P (fun z' U => wat D t (va_A w sz) (wf z') U) (va_A w sz)) 0 0 (va_A w sz)
def CtV {S : Type} (l : Launch) (D : va_G) (t : Ty3) (y : MethodName) (b : ByteArray) (n : Nat) (r : Option FieldType) (d : Nat) (wf : S → va_W) (w : va_W) (As : List Value) (P : S → Prop) : Prop :=
  ∀ sz : Nat, Met l y (ww y b n r) (rmd d) (cpre D t w As sz) (va_Qv P (fun z' U => wat D t (va_A w sz) (wf z') U) (va_A w sz)) 0 0 (va_A w sz)
abbrev QI {S : Type} (D : va_G) (t : Ty3) (A : Nat → Prop) (wf : S → va_W) (P : Int32 → S → Prop) (below : List Frame) (args : Array Value) (s : State) : State → Prop := MQ below (va_Qi P (fun z' U => wat D t A (wf z') U) A) args s 0 0 A
abbrev QL {S : Type} (D : va_G) (t : Ty3) (A : Nat → Prop) (wf : S → va_W) (P : Int64 → S → Prop) (below : List Frame) (args : Array Value) (s : State) : State → Prop := MQ below (va_Ql P (fun z' U => wat D t A (wf z') U) A) args s 0 0 A
abbrev QV {S : Type} (D : va_G) (t : Ty3) (A : Nat → Prop) (wf : S → va_W) (P : S → Prop) (below : List Frame) (args : Array Value) (s : State) : State → Prop := MQ below (va_Qv P (fun z' U => wat D t A (wf z') U) A) args s 0 0 A
section Starts
variable {l : Launch} {D : va_G} {t : Ty3} {y : MethodName} {b : ByteArray} {n : Nat} {r : Option FieldType} {d : Nat} {S : Type} {wf : S → va_W} {w : va_W} {As : List Value}
theorem ctI_of {P : Int32 → S → Prop} (hy : plainName y.cls = true) (hn : (lg_sl As).length ≤ n)
    (body : ∀ (p : Program) (e : Env) (s : State) (m : MethodId) (args : Array Value) (below : List Frame) (meth : Method) (c : Code) (A : Nat → Prop) (ls : Array Slot), CallFix p m c b n s args lw_g y.cls → meth.sig.returnType = r → meth.locks = false → wd D t A s w s.heap [] → lv_has ls n (lv_args 0 As) → W p l e (rmd d) s m args below meth c s.heap [] 0 0 (QI D t A wf P below args s) (F0 m 0 ls [])) : CtI l D t y b n r d wf w As P := by
  intro sz
  refine Met.ofW (cc := b) (maxL := n) (ret := r) hy rfl ?_
  intro p e s m args below meth c s₁ B hml hv
  obtain ⟨rfl, hsz, ⟨hP, hK, hD0⟩, hE⟩ := hv
  subst hsz
  have hts := atoms_spec (ws := ww y b n r) B.pre
  have hown : s.vm.findClass y.cls = some m.cls := findClass_of_methodNamed B.named
  have hD := hD0.self (sz := s.heap.size)
  have hl := lv_entry As (n := n) hn
  rw [lg_entry_eq]
  exact body p e s m _ below meth c _ _ ⟨B.exec, B.bytes, hml, hown, fun w h => hts w (List.mem_cons_of_mem _ h)⟩ B.returns B.notSynchronized ⟨hK, hP, hD, va_S.rf, fun q h => Or.inr h, hE⟩ hl
theorem ctL_of {P : Int64 → S → Prop} (hy : plainName y.cls = true) (hn : (lg_sl As).length ≤ n)
    (body : ∀ (p : Program) (e : Env) (s : State) (m : MethodId) (args : Array Value) (below : List Frame) (meth : Method) (c : Code) (A : Nat → Prop) (ls : Array Slot), CallFix p m c b n s args lw_g y.cls → meth.sig.returnType = r → meth.locks = false → wd D t A s w s.heap [] → lv_has ls n (lv_args 0 As) → W p l e (rmd d) s m args below meth c s.heap [] 0 0 (QL D t A wf P below args s) (F0 m 0 ls [])) : CtL l D t y b n r d wf w As P := by
  intro sz
  refine Met.ofW (cc := b) (maxL := n) (ret := r) hy rfl ?_
  intro p e s m args below meth c s₁ B hml hv
  obtain ⟨rfl, hsz, ⟨hP, hK, hD0⟩, hE⟩ := hv
  subst hsz
  have hts := atoms_spec (ws := ww y b n r) B.pre
  have hown : s.vm.findClass y.cls = some m.cls := findClass_of_methodNamed B.named
  have hD := hD0.self (sz := s.heap.size)
  have hl := lv_entry As (n := n) hn
  rw [lg_entry_eq]
  exact body p e s m _ below meth c _ _ ⟨B.exec, B.bytes, hml, hown, fun w h => hts w (List.mem_cons_of_mem _ h)⟩ B.returns B.notSynchronized ⟨hK, hP, hD, va_S.rf, fun q h => Or.inr h, hE⟩ hl
theorem ctV_of {P : S → Prop} (hy : plainName y.cls = true) (hn : (lg_sl As).length ≤ n)
    (body : ∀ (p : Program) (e : Env) (s : State) (m : MethodId) (args : Array Value) (below : List Frame) (meth : Method) (c : Code) (A : Nat → Prop) (ls : Array Slot), CallFix p m c b n s args lw_g y.cls → meth.sig.returnType = r → meth.locks = false → wd D t A s w s.heap [] → lv_has ls n (lv_args 0 As) → W p l e (rmd d) s m args below meth c s.heap [] 0 0 (QV D t A wf P below args s) (F0 m 0 ls [])) : CtV l D t y b n r d wf w As P := by
  intro sz
  refine Met.ofW (cc := b) (maxL := n) (ret := r) hy rfl ?_
  intro p e s m args below meth c s₁ B hml hv
  obtain ⟨rfl, hsz, ⟨hP, hK, hD0⟩, hE⟩ := hv
  subst hsz
  have hts := atoms_spec (ws := ww y b n r) B.pre
  have hown : s.vm.findClass y.cls = some m.cls := findClass_of_methodNamed B.named
  have hD := hD0.self (sz := s.heap.size)
  have hl := lv_entry As (n := n) hn
  rw [lg_entry_eq]
  exact body p e s m _ below meth c _ _ ⟨B.exec, B.bytes, hml, hown, fun w h => hts w (List.mem_cons_of_mem _ h)⟩ B.returns B.notSynchronized ⟨hK, hP, hD, va_S.rf, fun q h => Or.inr h, hE⟩ hl
end Starts
section Rows
variable {p : Program} {l : Launch} {e : Env} {R : Room} {s : State} {m : MethodId} {args : Array Value} {below : List Frame} {meth : Method} {c : Code} {H : Heap} {locs : List Loc} {cells slots : Nat} {Q : State → Prop} {cc : ByteArray} {own : String} {nL pc : Nat} {ls : Array Slot} {rest : List Value} {D : va_G} {t : Ty3} {A : Nat → Prop} {S : Type} {wf : S → va_W} {z : S} {w : va_W}
theorem rt_i {P : Int32 → S → Prop} {v : Int32} (C : CallFix p m c cc nL s args lw_g own) (hr : meth.sig.returnType = some .int) (hlk : meth.locks = false) (h : wd D t A s (wf z) H locs) (hP : P v z) (hd : decode cc pc = .ok (.ireturn, 1)) : W p l e R s m args below meth c H locs 0 0 (QI D t A wf P below args s) (F0 m pc ls [.int v]) :=
  W.iret C.1 C.2.1 hr (fun u hu hW => ⟨⟨v, z, rfl, hP, by rw [hu]; exact h.2.1, va_K.moved hW.alike h.1, h.2.2.1⟩, h.2.2.2.1.F hu⟩) h.2.2.2.1.2.2 hd hlk
theorem rt_z {P : Int32 → S → Prop} {v : Int32} (C : CallFix p m c cc nL s args lw_g own) (hr : meth.sig.returnType = some .boolean) (hlk : meth.locks = false) (h : wd D t A s (wf z) H locs) (hv : v = 0 ∨ v = 1) (hP : P v z) (hd : decode cc pc = .ok (.ireturn, 1)) : W p l e R s m args below meth c H locs 0 0 (QI D t A wf P below args s) (F0 m pc ls [.int v]) :=
  W.zret C.1 C.2.1 hr (by rcases hv with rfl | rfl <;> rfl) (fun u hu hW => ⟨⟨v, z, rfl, hP, by rw [hu]; exact h.2.1, va_K.moved hW.alike h.1, h.2.2.1⟩, h.2.2.2.1.F hu⟩) h.2.2.2.1.2.2 hd hlk
theorem rt_l {P : Int64 → S → Prop} {v : Int64} (C : CallFix p m c cc nL s args lw_g own) (hr : meth.sig.returnType = some .long) (hlk : meth.locks = false) (h : wd D t A s (wf z) H locs) (hP : P v z) (hd : decode cc pc = .ok (.lreturn, 1)) : W p l e R s m args below meth c H locs 0 0 (QL D t A wf P below args s) (F0 m pc ls [.long v]) :=
  W.lret C.1 C.2.1 hr (fun u hu hW => ⟨⟨v, z, rfl, hP, by rw [hu]; exact h.2.1, va_K.moved hW.alike h.1, h.2.2.1⟩, h.2.2.2.1.F hu⟩) h.2.2.2.1.2.2 hd hlk
theorem rt_v {P : S → Prop} (C : CallFix p m c cc nL s args lw_g own) (hr : meth.sig.returnType = none) (hlk : meth.locks = false) (h : wd D t A s (wf z) H locs) (hP : P z) (hd : decode cc pc = .ok (.return_, 1)) : W p l e R s m args below meth c H locs 0 0 (QV D t A wf P below args s) (F0 m pc ls []) :=
  W.vret C.1 C.2.1 hr (fun u hu hW => ⟨⟨z, rfl, hP, by rw [hu]; exact h.2.1, va_K.moved hW.alike h.1, h.2.2.1⟩, h.2.2.2.1.F hu⟩) h.2.2.2.1.2.2 hd hlk
theorem r_get (C : CallFix p m c cc nL s args lw_g own) (h : wd D t A s w H locs) {a q ci k N idx : Nat} {T : u_T} {cn ref : String} {fs : List Value} {v : Value} (he : w[q]? = some (a, .inr (ci, fs))) (hc : vwC[ci]? = some (cn, T, N)) (hi : ∀ x ∈ u_ws cn T N, x ∈ lw_g) (hk : k < N) (hl : Cond.fieldLink own idx ref (T k).2.1 (T k).2.2.1 ∈ lw_g) (hs : (T k).1 = ref) (hv : fs[k]? = some v) (hd : decode cc pc = .ok (.getfield idx, 3))
    (kk : W p l e R s m args below meth c H locs cells slots Q (F0 m (pc + 3) ls (v :: rest))) : W p l e R s m args below meth c H locs cells slots Q (F0 m pc ls (.ref a :: rest)) :=
  va_get C.1 C.2.1 C.2.2.2.2 hi C.2.2.2.1 h.1 h.2.1 q he hc k hk (C.2.2.2.2 _ hl) (fun x hx => by rw [← hs]; exact hx) hv hd kk
theorem r_put (C : CallFix p m c cc nL s args lw_g own) (h : wd D t A s w H locs) {a q ci k N idx : Nat} {T : u_T} {cn ref : String} {fs : List Value} {v : Value} {ty : FieldType} {w' : va_W} (ty0 : Nat → FieldType) (hty : ∀ k, k < N → parseFieldDescriptor (T k).2.2.1 = some (ty0 k)) (hnm : ∀ a, a < N → ∀ b, b < N → a ≠ b → (T a).2.1 ≠ (T b).2.1) (he : w[q]? = some (a, .inr (ci, fs))) (hc : vwC[ci]? = some (cn, T, N)) (hi : ∀ x ∈ u_ws cn T N, x ∈ lw_g) (hk : k < N) (hl : Cond.fieldLink own idx ref (T k).2.1 (T k).2.2.1 ∈ lw_g) (hs : (T k).1 = ref) (hfin : (T k).2.2.2 = false) (hd2 : parseFieldDescriptor (T k).2.2.1 = some ty) (hn : narrow ty v = v) (hfit : fits ty v = true) (hfl : k < fs.length) (hw : w.set q (a, .inr (ci, fs.set k v)) = w') (hd : decode cc pc = .ok (.putfield idx, 3))
    (kk : ∀ (H1 : Heap) (locs1 : List Loc), wd D t A s w' H1 locs1 → W p l e R s m args below meth c H1 locs1 cells slots Q (F0 m (pc + 3) ls rest)) : W p l e R s m args below meth c H locs cells slots Q (F0 m pc ls (v :: .ref a :: rest)) :=
  va_put C.1 C.2.1 C.2.2.2.2 hi ty0 hty hnm C.2.2.2.1 h.1 h.2.1 h.2.2.1 h.2.2.2.1 q he hc k hk (C.2.2.2.2 _ hl) (fun x hx => by rw [← hs]; exact hx) hfin hd2 hn hfit hfl hd (fun H1 locs1 hP hD hS => kk H1 locs1 ⟨h.1, by rw [← hw]; exact hP, by rw [← hw]; exact hD, hS, h.2.2.2.2⟩)
theorem r_ild (C : CallFix p m c cc nL s args lw_g own) (h : wd D t A s w H locs) {a q n : Nat} {f : Nat → Int32} {i : Int32} (ha : w[q]? = some (a, .inl (t.1, n, .inl f))) (hin : vp_in i n) (hd : decode cc pc = .ok (.iaload, 1))
    (kk : W p l e R s m args below meth c H locs cells slots Q (F0 m (pc + 1) ls (.int (f i.toNatClampNeg) :: rest))) : W p l e R s m args below meth c H locs cells slots Q (F0 m pc ls (.int i :: .ref a :: rest)) :=
  va_iald C.1 C.2.1 h.1 h.2.1 q 0 ha rfl hin hd kk
theorem r_lld (C : CallFix p m c cc nL s args lw_g own) (h : wd D t A s w H locs) {a q n : Nat} {f : Nat → Int64} {i : Int32} (ha : w[q]? = some (a, .inl (t.2.1, n, .inr (.inl f)))) (hin : vp_in i n) (hd : decode cc pc = .ok (.laload, 1))
    (kk : W p l e R s m args below meth c H locs cells slots Q (F0 m (pc + 1) ls (.long (f i.toNatClampNeg) :: rest))) : W p l e R s m args below meth c H locs cells slots Q (F0 m pc ls (.int i :: .ref a :: rest)) :=
  va_lald C.1 C.2.1 h.1 h.2.1 q 1 ha rfl hin hd kk
theorem r_zld (C : CallFix p m c cc nL s args lw_g own) (h : wd D t A s w H locs) {a q n : Nat} {f : Nat → Int32} {i : Int32} (ha : w[q]? = some (a, .inl (t.2.2.1, n, .inl f))) (hin : vp_in i n) (hd : decode cc pc = .ok (.baload, 1))
    (kk : W p l e R s m args below meth c H locs cells slots Q (F0 m (pc + 1) ls (.int (f i.toNatClampNeg) :: rest))) : W p l e R s m args below meth c H locs cells slots Q (F0 m pc ls (.int i :: .ref a :: rest)) :=
  va_zald C.1 C.2.1 h.1 h.2.1 q 2 ha rfl hin hd kk
theorem r_ist (C : CallFix p m c cc nL s args lw_g own) (h : wd D t A s w H locs) {a q n : Nat} {f : Nat → Int32} {i x : Int32} {w' : va_W} (ha : w[q]? = some (a, .inl (t.1, n, .inl f))) (hw : w.set q (a, .inl (t.1, n, .inl (upd f i.toNatClampNeg x))) = w') (hin : vp_in i n) (hd : decode cc pc = .ok (.iastore, 1))
    (kk : ∀ (H1 : Heap) (locs1 : List Loc), wd D t A s w' H1 locs1 → W p l e R s m args below meth c H1 locs1 cells slots Q (F0 m (pc + 1) ls rest)) : W p l e R s m args below meth c H locs cells slots Q (F0 m pc ls (.int x :: .int i :: .ref a :: rest)) :=
  va_iast C.1 C.2.1 h.1 h.2.1 h.2.2.1 h.2.2.2.1 q 0 ha rfl hin hd (fun H1 locs1 hP hD hS => kk H1 locs1 ⟨h.1, by rw [← hw]; exact hP, by rw [← hw]; exact hD, hS, h.2.2.2.2⟩)
theorem r_lst (C : CallFix p m c cc nL s args lw_g own) (h : wd D t A s w H locs) {a q n : Nat} {f : Nat → Int64} {i : Int32} {x : Int64} {w' : va_W} (ha : w[q]? = some (a, .inl (t.2.1, n, .inr (.inl f)))) (hw : w.set q (a, .inl (t.2.1, n, .inr (.inl (vp_updL f i.toNatClampNeg x)))) = w') (hin : vp_in i n) (hd : decode cc pc = .ok (.lastore, 1))
    (kk : ∀ (H1 : Heap) (locs1 : List Loc), wd D t A s w' H1 locs1 → W p l e R s m args below meth c H1 locs1 cells slots Q (F0 m (pc + 1) ls rest)) : W p l e R s m args below meth c H locs cells slots Q (F0 m pc ls (.long x :: .int i :: .ref a :: rest)) :=
  va_last C.1 C.2.1 h.1 h.2.1 h.2.2.1 h.2.2.2.1 q 1 ha rfl hin hd (fun H1 locs1 hP hD hS => kk H1 locs1 ⟨h.1, by rw [← hw]; exact hP, by rw [← hw]; exact hD, hS, h.2.2.2.2⟩)
theorem r_zst (C : CallFix p m c cc nL s args lw_g own) (h : wd D t A s w H locs) {a q n : Nat} {f : Nat → Int32} {i x : Int32} {w' : va_W} (ha : w[q]? = some (a, .inl (t.2.2.1, n, .inl f))) (hw : w.set q (a, .inl (t.2.2.1, n, .inl (upd f i.toNatClampNeg (vp_nar .boolean x)))) = w') (hin : vp_in i n) (hd : decode cc pc = .ok (.bastore, 1))
    (kk : ∀ (H1 : Heap) (locs1 : List Loc), wd D t A s w' H1 locs1 → W p l e R s m args below meth c H1 locs1 cells slots Q (F0 m (pc + 1) ls rest)) : W p l e R s m args below meth c H locs cells slots Q (F0 m pc ls (.int x :: .int i :: .ref a :: rest)) :=
  va_zast C.1 C.2.1 h.1 h.2.1 h.2.2.1 h.2.2.2.1 q 2 ha rfl hin hd (fun H1 locs1 hP hD hS => kk H1 locs1 ⟨h.1, by rw [← hw]; exact hP, by rw [← hw]; exact hD, hS, h.2.2.2.2⟩)
end Rows
section CallRows
variable {p : Program} {l : Launch} {e : Env} {R : Room} {s : State} {m : MethodId} {args : Array Value} {below : List Frame} {meth : Method} {c : Code} {H : Heap} {locs : List Loc} {cells slots : Nat} {Q : State → Prop} {cc : ByteArray} {own : String} {nL pc : Nat} {ls : Array Slot} {rest : List Value} {D : va_G} {t : Ty3} {A : Nat → Prop} {S : Type} {wf : S → va_W} {w : va_W} {y : MethodName} {b : ByteArray} {n : Nat} {r : Option FieldType} {d idx ad : Nat} {As st0 : List Value}
def RcvOk (w : va_W) (ad : Nat) (cn : String) : Prop := ∃ (q ci : Nat) (T : u_T) (N : Nat) (fs : List Value), w[q]? = some (ad, .inr (ci, fs)) ∧ vwC[ci]? = some (cn, T, N)
def MwV (y : MethodName) (b : ByteArray) (n : Nat) (r : Option FieldType) : Prop := Cond.instanceMethod y ∈ lw_g ∧ Cond.selects y.cls y y ∈ lw_g ∧ Cond.initialized y.cls ∈ lw_g ∧ Cond.code y b n r ∈ lw_g
def MwS (y : MethodName) (b : ByteArray) (n : Nat) (r : Option FieldType) : Prop := Cond.static y ∈ lw_g ∧ Cond.initialized y.cls ∈ lw_g ∧ Cond.code y b n r ∈ lw_g
def MwD (y : MethodName) (k : Nat) : Prop := y.cls ≠ "java/lang/invoke/MethodHandle" ∧ y.cls ≠ "java/lang/invoke/VarHandle" ∧ (parseMethodDescriptor y.desc).map (fun d => d.parameters.length) = some k
theorem goodW (hc : Cond.code y b n r ∈ lw_g) : GoodIn lw_g (ww y b n r) := by
  intro x hx
  rcases List.mem_cons.mp hx with rfl | hx
  · exact good_all _ hc
  · exact good_all _ hx
theorem wd_free (h : wd D t A s w H locs) : ∀ q, va_A w H.size q → A q := by
  intro q hq
  rcases hq with ⟨k, e, hk⟩ | hk
  · exact h.2.2.1.2 k _ hk
  · exact h.2.2.2.2.1 q (Nat.le_trans h.2.2.2.1.1 hk)
theorem cpre_blind (sz : Nat) : FrameBlind (cpre D t w As sz) := fun a U g mk q => by
  obtain ⟨q0, q1, ⟨qP, qK, qD⟩, qE⟩ := q
  exact ⟨q0, q1, ⟨qP, va_K.moved (u := U) (U := U.calling g mk a) (Vm.Alike.refl U.vm) qK, qD⟩, qE.calling⟩
theorem cpre_at (h : wd D t A s w H locs) (U : State) (hU : U.heap = H) (hW : s.WarmedH U.vm) : cpre D t w As H.size As.toArray U := ⟨rfl, by rw [hU], ⟨by rw [hU]; exact h.2.1, va_K.moved hW.alike h.1, h.2.2.1.weaken (fun _ _ _ _ => trivial)⟩, by rw [hU]; exact h.2.2.2.2.2.at hW h.2.2.2.1.2.1 (wd_free h)⟩
theorem wd_back {z1 : S} {u : State} {H1 : Heap} {locs1 : List Loc} (h : wd D t A s w H locs) (ht : u.heap = H1) (hB : wat D t (va_A w H.size) (wf z1) u) (hS : va_S A s.heap H1 locs1) : wd D t A s (wf z1) H1 locs1 := ⟨h.1, by rw [← ht]; exact hB.1, hB.2.2.weaken (fun k q _ hq => wd_free h q.1 hq), hS, h.2.2.2.2⟩
theorem cl_vi {P : Int32 → S → Prop} (C : CallFix p m c cc nL s args lw_g own) (h : wd D t A s w H locs) (hM : CtI l D t y b n r d wf w (.ref ad :: As) P) (mw : MwV y b n r) (ml : Cond.methodLink own idx y ∈ lw_g) (md : MwD y As.length) (hrc : RcvOk w ad y.cls) (hR : d + 1 ≤ R.frames ∧ 19 + n + 40 * d ≤ R.locals) (h0 : cells ≤ R.cells ∧ slots ≤ R.slots) (hsz : ls.size = nL) (hst : st0 = As.reverse ++ .ref ad :: rest) (hWr : (rest.map fun v => v.category).sum ≤ 8) (hd : decode cc pc = .ok (.invokevirtual idx, 3))
    (kk : ∀ (v : Int32) (z1 : S) (H1 : Heap) (locs1 : List Loc), P v z1 → wd D t A s (wf z1) H1 locs1 → W p l e R s m args below meth c H1 locs1 cells slots Q (F0 m (pc + 3) ls (.int v :: rest))) : W p l e R s m args below meth c H locs cells slots Q (F0 m pc ls st0) := by
  obtain ⟨q, ci, T, N, fs, he, hc⟩ := hrc
  refine va_calli (va_runV (As := As) (rest := rest) C (hM H.size) ⟨callB_of As.length C.2.2.2.2 (goodW mw.2.2.2) rfl rfl rfl (C.2.2.2.2 _ mw.2.2.1) (C.2.2.2.2 _ ml) md ⟨hR.1, by show 8 + (n + 11) + 40 * d ≤ R.locals; omega⟩, C.2.2.2.2 _ mw.1, C.2.2.2.2 _ mw.2.1⟩ ⟨cpre_blind _, va_recv h.1 h.2.1 hc he, fun U hU hW => cpre_at h U hU hW⟩ rfl rfl hsz hst (lv_room hWr) hd h0) h.2.2.2.1 (fun q _ hq => wd_free h q hq) (wd_free h) (fun v z1 u H1 locs1 ht hvm hP hB hz1 hk1 hS => ?_)
  exact kk v z1 H1 locs1 hP (wd_back h ht hB hS)
theorem cl_vl {P : Int64 → S → Prop} (C : CallFix p m c cc nL s args lw_g own) (h : wd D t A s w H locs) (hM : CtL l D t y b n r d wf w (.ref ad :: As) P) (mw : MwV y b n r) (ml : Cond.methodLink own idx y ∈ lw_g) (md : MwD y As.length) (hrc : RcvOk w ad y.cls) (hR : d + 1 ≤ R.frames ∧ 19 + n + 40 * d ≤ R.locals) (h0 : cells ≤ R.cells ∧ slots ≤ R.slots) (hsz : ls.size = nL) (hst : st0 = As.reverse ++ .ref ad :: rest) (hWr : (rest.map fun v => v.category).sum ≤ 8) (hd : decode cc pc = .ok (.invokevirtual idx, 3))
    (kk : ∀ (v : Int64) (z1 : S) (H1 : Heap) (locs1 : List Loc), P v z1 → wd D t A s (wf z1) H1 locs1 → W p l e R s m args below meth c H1 locs1 cells slots Q (F0 m (pc + 3) ls (.long v :: rest))) : W p l e R s m args below meth c H locs cells slots Q (F0 m pc ls st0) := by
  obtain ⟨q, ci, T, N, fs, he, hc⟩ := hrc
  refine va_calll (va_runV (As := As) (rest := rest) C (hM H.size) ⟨callB_of As.length C.2.2.2.2 (goodW mw.2.2.2) rfl rfl rfl (C.2.2.2.2 _ mw.2.2.1) (C.2.2.2.2 _ ml) md ⟨hR.1, by show 8 + (n + 11) + 40 * d ≤ R.locals; omega⟩, C.2.2.2.2 _ mw.1, C.2.2.2.2 _ mw.2.1⟩ ⟨cpre_blind _, va_recv h.1 h.2.1 hc he, fun U hU hW => cpre_at h U hU hW⟩ rfl rfl hsz hst (lv_room hWr) hd h0) h.2.2.2.1 (fun q _ hq => wd_free h q hq) (wd_free h) (fun v z1 u H1 locs1 ht hvm hP hB hz1 hk1 hS => ?_)
  exact kk v z1 H1 locs1 hP (wd_back h ht hB hS)
theorem cl_vv {P : S → Prop} (C : CallFix p m c cc nL s args lw_g own) (h : wd D t A s w H locs) (hM : CtV l D t y b n r d wf w (.ref ad :: As) P) (mw : MwV y b n r) (ml : Cond.methodLink own idx y ∈ lw_g) (md : MwD y As.length) (hrc : RcvOk w ad y.cls) (hR : d + 1 ≤ R.frames ∧ 19 + n + 40 * d ≤ R.locals) (h0 : cells ≤ R.cells ∧ slots ≤ R.slots) (hsz : ls.size = nL) (hst : st0 = As.reverse ++ .ref ad :: rest) (hWr : (rest.map fun v => v.category).sum ≤ 8) (hd : decode cc pc = .ok (.invokevirtual idx, 3))
    (kk : ∀ (z1 : S) (H1 : Heap) (locs1 : List Loc), P z1 → wd D t A s (wf z1) H1 locs1 → W p l e R s m args below meth c H1 locs1 cells slots Q (F0 m (pc + 3) ls rest)) : W p l e R s m args below meth c H locs cells slots Q (F0 m pc ls st0) := by
  obtain ⟨q, ci, T, N, fs, he, hc⟩ := hrc
  refine va_callv (va_runV (As := As) (rest := rest) C (hM H.size) ⟨callB_of As.length C.2.2.2.2 (goodW mw.2.2.2) rfl rfl rfl (C.2.2.2.2 _ mw.2.2.1) (C.2.2.2.2 _ ml) md ⟨hR.1, by show 8 + (n + 11) + 40 * d ≤ R.locals; omega⟩, C.2.2.2.2 _ mw.1, C.2.2.2.2 _ mw.2.1⟩ ⟨cpre_blind _, va_recv h.1 h.2.1 hc he, fun U hU hW => cpre_at h U hU hW⟩ rfl rfl hsz hst (lv_room hWr) hd h0) h.2.2.2.1 (fun q _ hq => wd_free h q hq) (wd_free h) (fun z1 u H1 locs1 ht hvm hP hB hz1 hk1 hS => ?_)
  exact kk z1 H1 locs1 hP (wd_back h ht hB hS)
theorem cl_si {P : Int32 → S → Prop} (C : CallFix p m c cc nL s args lw_g own) (h : wd D t A s w H locs) (hM : CtI l D t y b n r d wf w As P) (mw : MwS y b n r) (ml : Cond.methodLink own idx y ∈ lw_g) (md : MwD y As.length) (hR : d + 1 ≤ R.frames ∧ 19 + n + 40 * d ≤ R.locals) (h0 : cells ≤ R.cells ∧ slots ≤ R.slots) (hsz : ls.size = nL) (hst : st0 = As.reverse ++ rest) (hWr : (rest.map fun v => v.category).sum ≤ 8) (hd : decode cc pc = .ok (.invokestatic idx, 3))
    (kk : ∀ (v : Int32) (z1 : S) (H1 : Heap) (locs1 : List Loc), P v z1 → wd D t A s (wf z1) H1 locs1 → W p l e R s m args below meth c H1 locs1 cells slots Q (F0 m (pc + 3) ls (.int v :: rest))) : W p l e R s m args below meth c H locs cells slots Q (F0 m pc ls st0) := by
  refine va_calli (va_runS (As := As) (rest := rest) C (hM H.size) ⟨callB_of As.length C.2.2.2.2 (goodW mw.2.2) rfl rfl rfl (C.2.2.2.2 _ mw.2.1) (C.2.2.2.2 _ ml) md ⟨hR.1, by show 8 + (n + 11) + 40 * d ≤ R.locals; omega⟩, C.2.2.2.2 _ mw.1⟩ ⟨cpre_blind _, fun U hU hW => cpre_at h U hU hW⟩ rfl rfl hsz hst (lv_room hWr) hd h0) h.2.2.2.1 (fun q _ hq => wd_free h q hq) (wd_free h) (fun v z1 u H1 locs1 ht hvm hP hB hz1 hk1 hS => ?_)
  exact kk v z1 H1 locs1 hP (wd_back h ht hB hS)
theorem cl_sv {P : S → Prop} (C : CallFix p m c cc nL s args lw_g own) (h : wd D t A s w H locs) (hM : CtV l D t y b n r d wf w As P) (mw : MwS y b n r) (ml : Cond.methodLink own idx y ∈ lw_g) (md : MwD y As.length) (hR : d + 1 ≤ R.frames ∧ 19 + n + 40 * d ≤ R.locals) (h0 : cells ≤ R.cells ∧ slots ≤ R.slots) (hsz : ls.size = nL) (hst : st0 = As.reverse ++ rest) (hWr : (rest.map fun v => v.category).sum ≤ 8) (hd : decode cc pc = .ok (.invokestatic idx, 3))
    (kk : ∀ (z1 : S) (H1 : Heap) (locs1 : List Loc), P z1 → wd D t A s (wf z1) H1 locs1 → W p l e R s m args below meth c H1 locs1 cells slots Q (F0 m (pc + 3) ls rest)) : W p l e R s m args below meth c H locs cells slots Q (F0 m pc ls st0) := by
  refine va_callv (va_runS (As := As) (rest := rest) C (hM H.size) ⟨callB_of As.length C.2.2.2.2 (goodW mw.2.2) rfl rfl rfl (C.2.2.2.2 _ mw.2.1) (C.2.2.2.2 _ ml) md ⟨hR.1, by show 8 + (n + 11) + 40 * d ≤ R.locals; omega⟩, C.2.2.2.2 _ mw.1⟩ ⟨cpre_blind _, fun U hU hW => cpre_at h U hU hW⟩ rfl rfl hsz hst (lv_room hWr) hd h0) h.2.2.2.1 (fun q _ hq => wd_free h q hq) (wd_free h) (fun z1 u H1 locs1 ht hvm hP hB hz1 hk1 hS => ?_)
  exact kk z1 H1 locs1 hP (wd_back h ht hB hS)
theorem r_max {x y : Int32} (C : CallFix p m c cc nL s args lw_g own) (ml : Cond.methodLink own idx Lib.Math.max.name ∈ lw_g) (m1 : Cond.static Lib.Math.max.name ∈ lw_g) (m2 : Cond.initialized "java/lang/Math" ∈ lw_g) (m3 : Cond.code Lib.Math.max.name Lib.Math.max.code 2 (some .int) ∈ lw_g) (hR : 1 ≤ R.frames ∧ 21 ≤ R.locals) (h0 : cells ≤ R.cells ∧ slots ≤ R.slots) (hsz : ls.size = nL) (hWr : (rest.map fun v => v.category).sum ≤ 8) (hd : decode cc pc = .ok (.invokestatic idx, 3))
    (kk : W p l e R s m args below meth c H locs cells slots Q (F0 m (pc + 3) ls (.int (if x < y then y else x) :: rest))) : W p l e R s m args below meth c H locs cells slots Q (F0 m pc ls (.int y :: .int x :: rest)) :=
  va_mmax C.1 C.2.1 (C.2.2.1.trans hsz.symm) C.2.2.2.1 (C.2.2.2.2 _ ml) (C.2.2.2.2 _ m1) (C.2.2.2.2 _ m2) (C.2.2.2.2 _ m3) hR.1 (by omega) h0.1 h0.2 hd kk
end CallRows
