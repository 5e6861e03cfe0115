/-! ===== contracts over the functional heap: their ends, calls by them, their beginnings ===== -/
def h_me {α : Type} (f : GH) (a ci : Nat) (k : Option α) : Option α := match h_fs f a ci with
  | some _ => k
  | none => none
theorem h_me_eq {α : Type} {f : GH} {a ci : Nat} {k : Option α} {o : α} (h : h_me f a ci k = some o) : (∃ fs, f a = some (.inr (ci, fs))) ∧ k = some o := by
  unfold h_me at h
  split at h
  · rename_i fs hfs
    exact ⟨⟨fs, h_fs_eq hfs⟩, h⟩
  · cases h
def g_pst (V : Nat → Nat) (D : va_G) (cT : Nat → ClassId) (f : GH) (n : Nat) (t : State) : Prop := t.heap.size = n ∧ g_hd V D cT f t.heap
def g_Ri (o : Int32) (n : Nat) : Array Value → State → Outcome → State → Prop := va_Qi (fun r (_ : Unit) => r = o) (fun _ t => t.heap.size = n) g_no
def g_Rf (o : UInt32) (n : Nat) : Array Value → State → Outcome → State → Prop := va_Qf (fun r (_ : Unit) => r = o) (fun _ t => t.heap.size = n) g_no
def g_Rd (o : UInt64) (n : Nat) : Array Value → State → Outcome → State → Prop := va_Qd (fun r (_ : Unit) => r = o) (fun _ t => t.heap.size = n) g_no
def g_Rr (o n : Nat) : Array Value → State → Outcome → State → Prop := va_Qr (fun (_ : Unit) => True) (fun _ a t => a = o ∧ t.heap.size = n) g_no
def g_Rv (_ : Unit) (n : Nat) : Array Value → State → Outcome → State → Prop := va_Qv (fun (_ : Unit) => True) (fun _ t => t.heap.size = n) g_no
def g_Wi (V : Nat → Nat) (D : va_G) (cT : Nat → ClassId) (o : Int32) (f : GH) (n : Nat) : Array Value → State → Outcome → State → Prop := va_Qi (fun r (_ : Unit) => r = o) (fun _ t => g_pst V D cT f n t) (g_A V)
def g_Wf (V : Nat → Nat) (D : va_G) (cT : Nat → ClassId) (o : UInt32) (f : GH) (n : Nat) : Array Value → State → Outcome → State → Prop := va_Qf (fun r (_ : Unit) => r = o) (fun _ t => g_pst V D cT f n t) (g_A V)
def g_Wd (V : Nat → Nat) (D : va_G) (cT : Nat → ClassId) (o : UInt64) (f : GH) (n : Nat) : Array Value → State → Outcome → State → Prop := va_Qd (fun r (_ : Unit) => r = o) (fun _ t => g_pst V D cT f n t) (g_A V)
def g_Wr (V : Nat → Nat) (D : va_G) (cT : Nat → ClassId) (o : Nat) (f : GH) (n : Nat) : Array Value → State → Outcome → State → Prop := va_Qr (fun (_ : Unit) => True) (fun _ a t => a = o ∧ g_pst V D cT f n t) (g_A V)
def g_Wv (V : Nat → Nat) (D : va_G) (cT : Nat → ClassId) (f : GH) (n : Nat) : Array Value → State → Outcome → State → Prop := va_Qv (fun (_ : Unit) => True) (fun _ t => g_pst V D cT f n t) (g_A V)
/-- the words of a method of ours: by whichever call -/
def g_C (y : MethodName) (cc : ByteArray) (n : Nat) (ret : Option FieldType) (k : Nat) : Prop := Cond.code y cc n ret ∈ g_B ∧ Cond.initialized y.cls ∈ g_B ∧ (y.cls ≠ "java/lang/invoke/MethodHandle" ∧ y.cls ≠ "java/lang/invoke/VarHandle" ∧ (parseMethodDescriptor y.desc).map (fun d => d.parameters.length) = some k)
def g_CV (y : MethodName) (cc : ByteArray) (n : Nat) (ret : Option FieldType) (k : Nat) : Prop := g_C y cc n ret k ∧ Cond.instanceMethod y ∈ g_B ∧ Cond.selects y.cls y y ∈ g_B
def g_CS (y : MethodName) (cc : ByteArray) (n : Nat) (ret : Option FieldType) (k : Nat) : Prop := g_C y cc n ret k ∧ Cond.static y ∈ g_B
def g_CI (y : MethodName) (cc : ByteArray) (n : Nat) (k : Nat) : Prop := g_C y cc n none k ∧ y.name = "<init>" ∧ Cond.instanceMethod y ∈ g_B
theorem g_good {w0 : Cond} (h : w0 ∈ g_B) : GoodIn g_B (w0 :: g_B) := by
  intro w hw
  rcases List.mem_cons.mp hw with rfl | hw
  · exact ⟨h, good_of_word (g_Bg _ h)⟩
  · exact ⟨hw, good_of_word (g_Bg _ hw)⟩
section GC
variable {p : Program} {l : Launch} {e : Env} {R : Room} {s : State} {m : MethodId} {args : Array Value} {below : List Frame} {meth : Method} {c : Code} {H : Heap} {locs : List Loc} {cells slots : Nat} {Q : State → Prop}
variable {cc : ByteArray} {pc nL : Nat} {ls : Array Slot} {rest st0 As : List Value} {A : Nat → Prop} {V : Nat → Nat} {g f f1 : GH} {D : va_G} {cT : Nat → ClassId} {n n1 : Nat} {free : Addr → Prop}
variable {y : MethodName} {bytes : ByteArray} {maxL mc ms index j b ci : Nat} {ret : Option FieldType} {rm : Room} {own : String} {Qc : Array Value → State → Outcome → State → Prop} {a : Array Value}
theorem g_callB (hB : ∀ w ∈ g_B, w.before args s = true) (k : g_C y bytes maxL ret j) (hl : Cond.methodLink own index y ∈ g_B) (hrc : rm.cells = mc) (hrs : rm.slots = ms) (hR : rm.frames + 1 ≤ R.frames ∧ 8 + (maxL + 11) + rm.locals ≤ R.locals) : CallB R s args own index y bytes maxL ret (Cond.code y bytes maxL ret :: g_B) rm mc ms j :=
  callB_of j hB (g_good k.1) rfl hrc hrs (hB _ k.2.1) (hB _ hl) k.2.2 hR
theorem g_runV (C0 : CallFix p m c cc nL s args g_B own) (hM : Met l y (Cond.code y bytes maxL ret :: g_B) rm (va_Pc (.ref b :: As) (g_I V g D cT f n)) Qc mc ms free) (k : g_CV y bytes maxL ret j) (hl : Cond.methodLink own index y ∈ g_B) (hrc : rm.cells = mc) (hrs : rm.slots = ms) (hR : rm.frames + 1 ≤ R.frames ∧ 8 + (maxL + 11) + rm.locals ≤ R.locals)
    (hI : g_at A V g D cT f n s H locs) {q : vw_C} (hc : vwCl[ci]? = some q) (hq : q.1 = y.cls) (he : ∃ fs, f b = some (.inr (ci, fs))) (hn : As.length = j) (hsize : ls.size = nL) (hst : st0 = As.reverse ++ .ref b :: rest) (hrest : (rest.map fun v => v.category).sum ≤ 8) (hdg : decode cc pc = .ok (.invokevirtual index, 3)) (hf : cells + mc ≤ R.cells ∧ slots + ms ≤ R.slots) :
    va_Run p l e R s m args below meth c H locs cells slots mc ms (F0 m pc ls st0) rest (Qc (Value.ref b :: As).toArray) free := by
  obtain ⟨fs, he⟩ := he
  have hp := g_preV hI (as := As) hc he
  rw [hq] at hp
  exact va_runV C0 hM ⟨g_callB C0.2.2.2.2 k.1 hl hrc hrs hR, C0.2.2.2.2 _ k.2.1, C0.2.2.2.2 _ k.2.2⟩ hp rfl hn hsize hst (lv_room hrest) hdg hf
theorem g_runS (C0 : CallFix p m c cc nL s args g_B own) (hM : Met l y (Cond.code y bytes maxL ret :: g_B) rm (va_Pc As (g_I V g D cT f n)) Qc mc ms free) (k : g_CS y bytes maxL ret j) (hl : Cond.methodLink own index y ∈ g_B) (hrc : rm.cells = mc) (hrs : rm.slots = ms) (hR : rm.frames + 1 ≤ R.frames ∧ 8 + (maxL + 11) + rm.locals ≤ R.locals)
    (hI : g_at A V g D cT f n s H locs) (hn : As.length = j) (hsize : ls.size = nL) (hst : st0 = As.reverse ++ rest) (hrest : (rest.map fun v => v.category).sum ≤ 8) (hdg : decode cc pc = .ok (.invokestatic index, 3)) (hf : cells + mc ≤ R.cells ∧ slots + ms ≤ R.slots) :
    va_Run p l e R s m args below meth c H locs cells slots mc ms (F0 m pc ls st0) rest (Qc As.toArray) free :=
  va_runS C0 hM ⟨g_callB C0.2.2.2.2 k.1 hl hrc hrs hR, C0.2.2.2.2 _ k.2⟩ (g_preS hI) rfl hn hsize hst (lv_room hrest) hdg hf
theorem g_runI (C0 : CallFix p m c cc nL s args g_B own) (hM : Met l y (Cond.code y bytes maxL none :: g_B) rm (va_Pc (.ref b :: As) (g_I V g D cT f n)) Qc mc ms free) (k : g_CI y bytes maxL j) (hl : Cond.methodLink own index y ∈ g_B) (hrc : rm.cells = mc) (hrs : rm.slots = ms) (hR : rm.frames + 1 ≤ R.frames ∧ 8 + (maxL + 11) + rm.locals ≤ R.locals)
    (hI : g_at A V g D cT f n s H locs) (hn : As.length = j) (hsize : ls.size = nL) (hst : st0 = As.reverse ++ .ref b :: rest) (hrest : (rest.map fun v => v.category).sum ≤ 8) (hdg : decode cc pc = .ok (.invokespecial index, 3)) (hf : cells + mc ≤ R.cells ∧ slots + ms ≤ R.slots) :
    va_Run p l e R s m args below meth c H locs cells slots mc ms (F0 m pc ls st0) rest (Qc (Value.ref b :: As).toArray) free :=
  va_runI C0 hM ⟨g_callB C0.2.2.2.2 k.1 hl hrc hrs hR, k.2.1, C0.2.2.2.2 _ k.2.2⟩ (g_preS hI) rfl hn hsize hst (lv_room hrest) hdg hf
/-- behind a reader -/
theorem gr_at (hI : g_at A V g D cT f n s H locs) {t : State} {H1 : Heap} {locs1 : List Loc} (ht : t.heap = H1) (hn : t.heap.size = n) (hk : ∀ q : Nat, q < H.size → ¬ g_no q → H1[q]? = H[q]?) (hS : va_S A s.heap H1 locs1) : g_at A V g D cT f n s H1 locs1 :=
  g_kept hI (by rw [← ht]; exact hn) (fun q hq => hk q hq (fun z => z)) hS
/-- behind a writer -/
theorem gw_at (hI : g_at (g_A V) V g D cT f n s H locs) {t : State} {H1 : Heap} {locs1 : List Loc} (ht : t.heap = H1) (hp : g_pst V D cT f1 n1 t) (hS : va_S (g_A V) s.heap H1 locs1) : g_at (g_A V) V g D cT f1 n1 s H1 locs1 :=
  ⟨by rw [← ht]; exact hp.1, hI.2.1, by rw [← ht]; exact hp.2, hI.2.2.2.1, hI.2.2.2.2.1, hI.2.2.2.2.2.1, hS, fun _ h => h⟩
theorem gr_i {o : Int32} (hr : va_Run p l e R s m args below meth c H locs cells slots 0 0 (F0 m pc ls st0) rest (g_Ri o n a) g_no) (hI : g_at A V g D cT f n s H locs)
    (kk : ∀ (H1 : Heap) (locs1 : List Loc), g_at A V g D cT f n s H1 locs1 → W p l e R s m args below meth c H1 locs1 cells slots Q (F0 m (pc + 3) ls (.int o :: rest))) : W p l e R s m args below meth c H locs cells slots Q (F0 m pc ls st0) :=
  va_calli hr hI.2.2.2.2.2.2.1 (fun _ _ h => h.elim) (fun _ h => h.elim) (fun r _ t H1 locs1 ht _ hw hB _ hk hS => by rw [show r = o from hw]; exact kk H1 locs1 (gr_at hI ht hB hk hS))
theorem gr_v {o : Unit} (hr : va_Run p l e R s m args below meth c H locs cells slots 0 0 (F0 m pc ls st0) rest (g_Rv o n a) g_no) (hI : g_at A V g D cT f n s H locs)
    (kk : ∀ (H1 : Heap) (locs1 : List Loc), g_at A V g D cT f n s H1 locs1 → W p l e R s m args below meth c H1 locs1 cells slots Q (F0 m (pc + 3) ls rest)) : W p l e R s m args below meth c H locs cells slots Q (F0 m pc ls st0) :=
  va_callv hr hI.2.2.2.2.2.2.1 (fun _ _ h => h.elim) (fun _ h => h.elim) (fun _ t H1 locs1 ht _ _ hB _ hk hS => kk H1 locs1 (gr_at hI ht hB hk hS))
theorem gr_f {o : UInt32} (hr : va_Run p l e R s m args below meth c H locs cells slots 0 0 (F0 m pc ls st0) rest (g_Rf o n a) g_no) (hI : g_at A V g D cT f n s H locs)
    (kk : ∀ (H1 : Heap) (locs1 : List Loc), g_at A V g D cT f n s H1 locs1 → W p l e R s m args below meth c H1 locs1 cells slots Q (F0 m (pc + 3) ls (.float o :: rest))) : W p l e R s m args below meth c H locs cells slots Q (F0 m pc ls st0) :=
  va_callf hr hI.2.2.2.2.2.2.1 (fun _ _ h => h.elim) (fun _ h => h.elim) (fun r _ t H1 locs1 ht _ hw hB _ hk hS => by rw [show r = o from hw]; exact kk H1 locs1 (gr_at hI ht hB hk hS))
theorem gr_d {o : UInt64} (hr : va_Run p l e R s m args below meth c H locs cells slots 0 0 (F0 m pc ls st0) rest (g_Rd o n a) g_no) (hI : g_at A V g D cT f n s H locs)
    (kk : ∀ (H1 : Heap) (locs1 : List Loc), g_at A V g D cT f n s H1 locs1 → W p l e R s m args below meth c H1 locs1 cells slots Q (F0 m (pc + 3) ls (.double o :: rest))) : W p l e R s m args below meth c H locs cells slots Q (F0 m pc ls st0) :=
  va_calld hr hI.2.2.2.2.2.2.1 (fun _ _ h => h.elim) (fun _ h => h.elim) (fun r _ t H1 locs1 ht _ hw hB _ hk hS => by rw [show r = o from hw]; exact kk H1 locs1 (gr_at hI ht hB hk hS))
theorem gr_r {o : Nat} (hr : va_Run p l e R s m args below meth c H locs cells slots 0 0 (F0 m pc ls st0) rest (g_Rr o n a) g_no) (hI : g_at A V g D cT f n s H locs)
    (kk : ∀ (H1 : Heap) (locs1 : List Loc), g_at A V g D cT f n s H1 locs1 → W p l e R s m args below meth c H1 locs1 cells slots Q (F0 m (pc + 3) ls (.ref o :: rest))) : W p l e R s m args below meth c H locs cells slots Q (F0 m pc ls st0) :=
  va_callr hr hI.2.2.2.2.2.2.1 (fun _ _ h => h.elim) (fun _ h => h.elim) (fun _ r t H1 locs1 ht _ _ hB _ hk hS => by rw [show r = o from hB.1]; exact kk H1 locs1 (gr_at hI ht hB.2 hk hS))
theorem gw_i {o : Int32} (hr : va_Run p l e R s m args below meth c H locs cells slots mc ms (F0 m pc ls st0) rest (g_Wi V D cT o f1 n1 a) (g_A V)) (hI : g_at (g_A V) V g D cT f n s H locs)
    (kk : ∀ (H1 : Heap) (locs1 : List Loc), g_at (g_A V) V g D cT f1 n1 s H1 locs1 → W p l e R s m args below meth c H1 locs1 (cells + mc) (slots + ms) Q (F0 m (pc + 3) ls (.int o :: rest))) : W p l e R s m args below meth c H locs cells slots Q (F0 m pc ls st0) :=
  va_calli hr hI.2.2.2.2.2.2.1 (fun _ _ h => h) (fun _ h => h) (fun r _ t H1 locs1 ht _ hw hB _ hk hS => by rw [show r = o from hw]; exact kk H1 locs1 (gw_at hI ht hB hS))
theorem gw_f {o : UInt32} (hr : va_Run p l e R s m args below meth c H locs cells slots mc ms (F0 m pc ls st0) rest (g_Wf V D cT o f1 n1 a) (g_A V)) (hI : g_at (g_A V) V g D cT f n s H locs)
    (kk : ∀ (H1 : Heap) (locs1 : List Loc), g_at (g_A V) V g D cT f1 n1 s H1 locs1 → W p l e R s m args below meth c H1 locs1 (cells + mc) (slots + ms) Q (F0 m (pc + 3) ls (.float o :: rest))) : W p l e R s m args below meth c H locs cells slots Q (F0 m pc ls st0) :=
  va_callf hr hI.2.2.2.2.2.2.1 (fun _ _ h => h) (fun _ h => h) (fun r _ t H1 locs1 ht _ hw hB _ hk hS => by rw [show r = o from hw]; exact kk H1 locs1 (gw_at hI ht hB hS))
theorem gw_d {o : UInt64} (hr : va_Run p l e R s m args below meth c H locs cells slots mc ms (F0 m pc ls st0) rest (g_Wd V D cT o f1 n1 a) (g_A V)) (hI : g_at (g_A V) V g D cT f n s H locs)
    (kk : ∀ (H1 : Heap) (locs1 : List Loc), g_at (g_A V) V g D cT f1 n1 s H1 locs1 → W p l e R s m args below meth c H1 locs1 (cells + mc) (slots + ms) Q (F0 m (pc + 3) ls (.double o :: rest))) : W p l e R s m args below meth c H locs cells slots Q (F0 m pc ls st0) :=
  va_calld hr hI.2.2.2.2.2.2.1 (fun _ _ h => h) (fun _ h => h) (fun r _ t H1 locs1 ht _ hw hB _ hk hS => by rw [show r = o from hw]; exact kk H1 locs1 (gw_at hI ht hB hS))
theorem gw_r {o : Nat} (hr : va_Run p l e R s m args below meth c H locs cells slots mc ms (F0 m pc ls st0) rest (g_Wr V D cT o f1 n1 a) (g_A V)) (hI : g_at (g_A V) V g D cT f n s H locs)
    (kk : ∀ (H1 : Heap) (locs1 : List Loc), g_at (g_A V) V g D cT f1 n1 s H1 locs1 → W p l e R s m args below meth c H1 locs1 (cells + mc) (slots + ms) Q (F0 m (pc + 3) ls (.ref o :: rest))) : W p l e R s m args below meth c H locs cells slots Q (F0 m pc ls st0) :=
  va_callr hr hI.2.2.2.2.2.2.1 (fun _ _ h => h) (fun _ h => h) (fun _ r t H1 locs1 ht _ _ hB _ hk hS => by rw [show r = o from hB.1]; exact kk H1 locs1 (gw_at hI ht hB.2 hS))
theorem gw_v (hr : va_Run p l e R s m args below meth c H locs cells slots mc ms (F0 m pc ls st0) rest (g_Wv V D cT f1 n1 a) (g_A V)) (hI : g_at (g_A V) V g D cT f n s H locs)
    (kk : ∀ (H1 : Heap) (locs1 : List Loc), g_at (g_A V) V g D cT f1 n1 s H1 locs1 → W p l e R s m args below meth c H1 locs1 (cells + mc) (slots + ms) Q (F0 m (pc + 3) ls rest)) : W p l e R s m args below meth c H locs cells slots Q (F0 m pc ls st0) :=
  va_callv hr hI.2.2.2.2.2.2.1 (fun _ _ h => h) (fun _ h => h) (fun _ t H1 locs1 ht _ _ hB _ hk hS => kk H1 locs1 (gw_at hI ht hB hS))
-- ends
theorem ge_Ri (hx : p.tables.exec = Jvm.exec) (hb : c.code = cc) (hlocks : meth.locks = false) {ty : FieldType} (hr : meth.sig.returnType = some ty) {v o : Int32} (hn : narrow ty (.int v) = .int v) (hI : g_at g_no V g D cT f n s H locs) (hq : some v = some o) (hdg : decode cc pc = .ok (.ireturn, 1)) : W p l e R s m args below meth c H locs 0 0 (MQ below (g_Ri o n) args s 0 0 g_no) (F0 m pc ls [.int v]) :=
  W.zret hx hb hr hn (fun t ht _ => ⟨⟨v, (), rfl, Option.some.inj hq, by show t.heap.size = n; rw [ht]; exact hI.1⟩, hI.2.2.2.2.2.2.1.F ht⟩) hI.2.2.2.2.2.2.1.2.2 hdg hlocks
theorem ge_Wi (hx : p.tables.exec = Jvm.exec) (hb : c.code = cc) (hlocks : meth.locks = false) {ty : FieldType} (hr : meth.sig.returnType = some ty) {v o : Int32} (hn : narrow ty (.int v) = .int v) (hI : g_at (g_A V) V g D cT f n s H locs) (hv : v = o) (hf : f = f1) (hdg : decode cc pc = .ok (.ireturn, 1)) : W p l e R s m args below meth c H locs cells slots (MQ below (g_Wi V D cT o f1 n) args s cells slots (g_A V)) (F0 m pc ls [.int v]) :=
  W.zret hx hb hr hn (fun t ht _ => ⟨⟨v, (), rfl, hv, by rw [ht]; exact hI.1, by rw [ht, ← hf]; exact hI.2.2.1⟩, hI.2.2.2.2.2.2.1.F ht⟩) hI.2.2.2.2.2.2.1.2.2 hdg hlocks
theorem ge_Wv (hx : p.tables.exec = Jvm.exec) (hb : c.code = cc) (hlocks : meth.locks = false) (hr : meth.sig.returnType = none) (hI : g_at (g_A V) V g D cT f n s H locs) (hf : f = f1) (hdg : decode cc pc = .ok (.return_, 1)) : W p l e R s m args below meth c H locs cells slots (MQ below (g_Wv V D cT f1 n) args s cells slots (g_A V)) (F0 m pc ls []) :=
  W.vret hx hb hr (fun t ht _ => ⟨⟨(), rfl, trivial, by rw [ht]; exact hI.1, by rw [ht, ← hf]; exact hI.2.2.1⟩, hI.2.2.2.2.2.2.1.F ht⟩) hI.2.2.2.2.2.2.1.2.2 hdg hlocks
theorem ge_Rv (hx : p.tables.exec = Jvm.exec) (hb : c.code = cc) (hlocks : meth.locks = false) (hr : meth.sig.returnType = none) {o : Unit} (hI : g_at g_no V g D cT f n s H locs) (hdg : decode cc pc = .ok (.return_, 1)) : W p l e R s m args below meth c H locs 0 0 (MQ below (g_Rv o n) args s 0 0 g_no) (F0 m pc ls []) :=
  W.vret hx hb hr (fun t ht _ => ⟨⟨(), rfl, trivial, by show t.heap.size = n; rw [ht]; exact hI.1⟩, hI.2.2.2.2.2.2.1.F ht⟩) hI.2.2.2.2.2.2.1.2.2 hdg hlocks
theorem ge_Rr (hx : p.tables.exec = Jvm.exec) (hb : c.code = cc) (hlocks : meth.locks = false) {rt : FieldType} (hr : meth.sig.returnType = some rt) (hrt : (∃ n, rt = .object n) ∨ ∃ t, rt = .array t) {v o : Nat} (hI : g_at g_no V g D cT f n s H locs) (hq : some v = some o) (hdg : decode cc pc = .ok (.areturn, 1)) : W p l e R s m args below meth c H locs 0 0 (MQ below (g_Rr o n) args s 0 0 g_no) (F0 m pc ls [.ref v]) :=
  W.aret hx hb hr hrt (Or.inr ⟨v, rfl⟩) (fun t ht _ => ⟨⟨(), v, rfl, trivial, Option.some.inj hq, by show t.heap.size = n; rw [ht]; exact hI.1⟩, hI.2.2.2.2.2.2.1.F ht⟩) hI.2.2.2.2.2.2.1.2.2 hdg hlocks
theorem ge_Wr (hx : p.tables.exec = Jvm.exec) (hb : c.code = cc) (hlocks : meth.locks = false) {rt : FieldType} (hr : meth.sig.returnType = some rt) (hrt : (∃ n, rt = .object n) ∨ ∃ t, rt = .array t) {v o : Nat} (hI : g_at (g_A V) V g D cT f n s H locs) (hv : v = o) (hf : f = f1) (hdg : decode cc pc = .ok (.areturn, 1)) : W p l e R s m args below meth c H locs cells slots (MQ below (g_Wr V D cT o f1 n) args s cells slots (g_A V)) (F0 m pc ls [.ref v]) :=
  W.aret hx hb hr hrt (Or.inr ⟨v, rfl⟩) (fun t ht _ => ⟨⟨(), v, rfl, trivial, hv, by rw [ht]; exact hI.1, by rw [ht, ← hf]; exact hI.2.2.1⟩, hI.2.2.2.2.2.2.1.F ht⟩) hI.2.2.2.2.2.2.1.2.2 hdg hlocks
theorem ge_Rd (hx : p.tables.exec = Jvm.exec) (hb : c.code = cc) (hlocks : meth.locks = false) (hr : meth.sig.returnType = some .double) {v o : UInt64} (hI : g_at g_no V g D cT f n s H locs) (hq : some v = some o) (hdg : decode cc pc = .ok (.dreturn, 1)) : W p l e R s m args below meth c H locs 0 0 (MQ below (g_Rd o n) args s 0 0 g_no) (F0 m pc ls [.double v]) :=
  W.dret hx hb hr (fun t ht _ => ⟨⟨v, (), rfl, Option.some.inj hq, by show t.heap.size = n; rw [ht]; exact hI.1⟩, hI.2.2.2.2.2.2.1.F ht⟩) hI.2.2.2.2.2.2.1.2.2 hdg hlocks
theorem ge_Rf (hx : p.tables.exec = Jvm.exec) (hb : c.code = cc) (hlocks : meth.locks = false) (hr : meth.sig.returnType = some .float) {v o : UInt32} (hI : g_at g_no V g D cT f n s H locs) (hq : some v = some o) (hdg : decode cc pc = .ok (.freturn, 1)) : W p l e R s m args below meth c H locs 0 0 (MQ below (g_Rf o n) args s 0 0 g_no) (F0 m pc ls [.float v]) :=
  W.fret hx hb hr (fun t ht _ => ⟨⟨v, (), rfl, Option.some.inj hq, by show t.heap.size = n; rw [ht]; exact hI.1⟩, hI.2.2.2.2.2.2.1.F ht⟩) hI.2.2.2.2.2.2.1.2.2 hdg hlocks
theorem ge_Wd (hx : p.tables.exec = Jvm.exec) (hb : c.code = cc) (hlocks : meth.locks = false) (hr : meth.sig.returnType = some .double) {v o : UInt64} (hI : g_at (g_A V) V g D cT f n s H locs) (hv : v = o) (hf : f = f1) (hdg : decode cc pc = .ok (.dreturn, 1)) : W p l e R s m args below meth c H locs cells slots (MQ below (g_Wd V D cT o f1 n) args s cells slots (g_A V)) (F0 m pc ls [.double v]) :=
  W.dret hx hb hr (fun t ht _ => ⟨⟨v, (), rfl, hv, by rw [ht]; exact hI.1, by rw [ht, ← hf]; exact hI.2.2.1⟩, hI.2.2.2.2.2.2.1.F ht⟩) hI.2.2.2.2.2.2.1.2.2 hdg hlocks
theorem ge_Wf (hx : p.tables.exec = Jvm.exec) (hb : c.code = cc) (hlocks : meth.locks = false) (hr : meth.sig.returnType = some .float) {v o : UInt32} (hI : g_at (g_A V) V g D cT f n s H locs) (hv : v = o) (hf : f = f1) (hdg : decode cc pc = .ok (.freturn, 1)) : W p l e R s m args below meth c H locs cells slots (MQ below (g_Wf V D cT o f1 n) args s cells slots (g_A V)) (F0 m pc ls [.float v]) :=
  W.fret hx hb hr (fun t ht _ => ⟨⟨v, (), rfl, hv, by rw [ht]; exact hI.1, by rw [ht, ← hf]; exact hI.2.2.1⟩, hI.2.2.2.2.2.2.1.F ht⟩) hI.2.2.2.2.2.2.1.2.2 hdg hlocks
end GC
/-- a method's beginning -/
theorem g_begin {l : Launch} {y : MethodName} {rm : Room} {V : Nat → Nat} {g f : GH} {D : va_G} {cT : Nat → ClassId} {n : Nat} {Qc : Array Value → State → Outcome → State → Prop} {mc ms maxL : Nat} {free : Addr → Prop} {cc : ByteArray} {ret : Option FieldType} {own : String} (As : List Value) (lv : List (Nat × Value)) (A : Nat → Prop) (hA : ∀ q, A q → g_A V q) (hy : plainName y.cls = true) (hown : y.cls = own) (hsz : (lg_sl As).length ≤ maxL) (hlv : lv_args 0 As = lv)
    (body : ∀ (p : Program) (e : Env) (s : State) (m : MethodId) (args : Array Value) (below : List Frame) (meth : Method) (c : Code), p.tables.exec = Jvm.exec → c.code = cc → meth.sig.returnType = ret → meth.locks = false → meth.name = y.name → CallFix p m c cc maxL s args g_B own → g_at A V g D cT f n s s.heap [] → ∀ ls : Array Slot, lv_has ls maxL lv → W p l e rm s m args below meth c s.heap [] 0 0 (MQ below Qc args s mc ms free) (F0 m 0 ls [])) :
    Met l y (Cond.code y cc maxL ret :: g_B) rm (va_Pc As (g_I V g D cT f n)) Qc mc ms free := by
  refine Met.ofW (cc := cc) (maxL := maxL) (ret := ret) hy rfl ?_
  intro p e s m args below meth c s₁ B hml hv
  obtain ⟨rfl, hv⟩ := hv
  have hts := atoms_spec (ws := Cond.code y cc maxL ret :: g_B) B.pre
  have hl := lv_entry As hsz
  rw [lg_entry_eq]
  generalize (lg_sl As ++ List.replicate (maxL - (lg_sl As).length) Slot.unset).toArray = ls at hl ⊢
  rw [hlv] at hl
  exact body p e s m _ below meth c B.exec B.bytes B.returns B.notSynchronized (name_of_methodNamed B.named B.method).1 ⟨B.exec, B.bytes, hml, by rw [← hown]; exact findClass_of_methodNamed B.named, fun w hw => hts w (List.mem_cons_of_mem _ hw)⟩ (g_start A hA hv) ls hl
