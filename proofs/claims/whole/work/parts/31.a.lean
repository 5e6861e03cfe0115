/-! ===== the law's helpers: what they catch ===== -/
def g_Wn (V : Nat → Nat) (D : va_G) (cT : Nat → ClassId) (o : Int32 × GH) (n : Nat) : Array Value → State → Outcome → State → Prop := va_Qi (fun r (_ : Unit) => r = o.1) (fun _ t => n ≤ t.heap.size ∧ g_hd V D cT o.2 t.heap) (g_A V)
theorem gh_ofW {l : Launch} {y : MethodName} {ws ws' : List Cond} {rm : Room} {Pc : Array Value → State → Prop} {Qc : Array Value → State → Outcome → State → Prop} {mc ms : Nat} {free : Addr → Prop} {cc : ByteArray} {maxL : Nat} {ret : Option FieldType} {hh : List (Nat × Nat × Nat × Nat)}
    (hy : plainName y.cls = true) (hw : ws = Cond.codeWith y cc maxL ret hh :: ws')
    (body : ∀ p e s m args below meth c s₁, BodyLoose p l y (headSpec ws rm) cc maxL ret e s m args below meth c s₁ → c.maxLocals = maxL → Pc args s →
      W p l e (headSpec ws rm).room s m args below meth c s.heap [] 0 0 (MQ below Qc args s mc ms free) (entryFrame m args maxL)) : Met l y ws rm Pc Qc mc ms free := by
  refine MetFree.of_bodyS (code := cc) (maxLocals := maxL) (ret := ret) hy ?_ ?_
  · intro args s m h hn
    obtain ⟨m9, meth, c, hn9, h1, h2, h3, h4, -, h5, h6, -⟩ := Cond.codeWith_spec (atoms_spec (ws := ws) h _ (by rw [hw]; exact List.mem_cons_self))
    cases hn.symm.trans hn9
    exact ⟨meth, c, h1, h2, h3, h4, h5, h6⟩
  · intro p e s m args below meth c s₁ B hml hP _
    have hh0 : s₁.heap = s.heap := by rw [B.state]; rfl
    obtain ⟨t, a1, o, b1, b2, b3⟩ := body p e s m args below meth c s₁ B hml hP s₁ hh0 (Stand.of_body B)
    exact ⟨t, o, a1, b1, b2, ⟨b3.1, b3.2⟩⟩
theorem gh_begin {l : Launch} {y : MethodName} {rm : Room} {V : Nat → Nat} {g f : GH} {D : va_G} {cT : Nat → ClassId} {n : Nat} {Qc : Array Value → State → Outcome → State → Prop} {mc ms maxL : Nat} {free : Addr → Prop} {cc : ByteArray} {ret : Option FieldType} {hh : List (Nat × Nat × Nat × Nat)} {own : String} (As : List Value) (lv : List (Nat × Value)) (hy : plainName y.cls = true) (hown : y.cls = own) (hsz : (lg_sl As).length ≤ maxL) (hlv : lv_args 0 As = lv)
    (body : ∀ (p : Program) (e : Env) (s : State) (m : MethodId) (args : Array Value) (below : List Frame) (meth : Method) (c : Code), p.tables.exec = Jvm.exec → c.code = cc → meth.sig.returnType = ret → meth.locks = false → CallFix p m c cc maxL s args g_B own → c.exceptionTable.toList = tableOf hh → g_at (g_A V) V g D cT f n s s.heap [] → ∀ ls : Array Slot, lv_has ls maxL lv → W p l e rm s m args below meth c s.heap [] 0 0 (MQ below Qc args s mc ms free) (F0 m 0 ls [])) :
    Met l y (Cond.codeWith y cc maxL ret hh :: g_B) rm (va_Pc As (g_I V g D cT f n)) Qc mc ms free := by
  refine gh_ofW (cc := cc) (maxL := maxL) (ret := ret) hy rfl ?_
  intro p e s m args below meth c s₁ B hml hv
  obtain ⟨rfl, hv⟩ := hv
  have hts := atoms_spec (ws := Cond.codeWith y cc maxL ret hh :: g_B) B.pre
  have hl := lv_entry As hsz
  rw [lg_entry_eq]
  generalize (lg_sl As ++ List.replicate (maxL - (lg_sl As).length) Slot.unset).toArray = ls at hl ⊢
  rw [hlv] at hl
  exact body p e s m _ below meth c B.exec B.bytes B.returns B.notSynchronized ⟨B.exec, B.bytes, hml, by rw [← hown]; exact findClass_of_methodNamed B.named, fun w hw => hts w (List.mem_cons_of_mem _ hw)⟩ (vx_table (x := y) B (hts _ List.mem_cons_self)) (g_start (g_A V) (fun _ h => h) hv) ls hl
section GH
variable {p : Program} {l : Launch} {e : Env} {R : Room} {s : State} {m : MethodId} {args : Array Value} {below : List Frame} {meth : Method} {c : Code} {H : Heap} {locs : List Loc} {cells slots : Nat} {Q : State → Prop}
variable {cc : ByteArray} {pc nL : Nat} {ls : Array Slot} {rest st0 As : List Value} {V : Nat → Nat} {g f f1 : GH} {D : va_G} {cT : Nat → ClassId} {n n1 : Nat} {free : Addr → Prop}
variable {mc ms : Nat} {own name : String} {Qa : State → Outcome → State → Prop}
theorem gh_cR {α : Type} {z : Nat} (hr : vx_Run p l e R s m args below meth c H locs cells slots mc ms (F0 m pc ls st0) rest Qa (g_XX V D cT f (.inl z : Nat ⊕ α)) g_no) (hno : ∀ st v t, ¬ Qa st (.returned v) t) (hI : g_at (g_A V) V g D cT f n s H locs) (hown : s.vm.findClass own = some m.cls) (pre : List ExceptionTableEntry) (x : ExceptionTableEntry) (suf : List ExceptionTableEntry) (hsplit : c.exceptionTable.toList = pre ++ x :: suf)
    (hpass : ∀ y ∈ pre, covers y pc = false ∨ (y.catchType ≠ 0 ∧ ∃ nm : String, (Cond.classLink own y.catchType nm).before args s = true ∧ va_Nc (g_en z) nm s)) (hx : covers x pc = true) (h0 : x.catchType ≠ 0) (hlink : (Cond.classLink own x.catchType name).before args s = true) (hcast : (Cond.castable (g_en z) name).before args s = true)
    (kk : ∀ (H1 : Heap) (locs1 : List Loc) (q9 : Nat), g_at (g_A V) V g D cT f H1.size s H1 locs1 → W p l e R s m args below meth c H1 locs1 (cells + mc) (slots + ms) Q (F0 m x.handlerPc ls [.ref q9])) : W p l e R s m args below meth c H locs cells slots Q (F0 m pc ls st0) := by
  refine gx_thrown (A1 := g_no) (AX := g_no) hr hno hI.2.2.2.2.2.2.1 (fun _ h => h.elim) (fun E st t h => h.choose_spec.2.2) (fun _ h => h.elim) (fun E ce q9 st t H1 locs1 ht9 hst hx9 hS hce hv hcl => ?_)
  obtain ⟨k, hk, ⟨hE, hd⟩, -⟩ := hx9
  obtain rfl := Sum.inl.inj hk
  subst hE
  exact vx_catch hown pre x suf hsplit hpass hx h0 hlink hcast hce hv hcl (kk H1 locs1 q9 ⟨rfl, hI.2.1, by rw [← ht9]; exact hd, hI.2.2.2.1, hI.2.2.2.2.1, hI.2.2.2.2.2.1, hS, hI.2.2.2.2.2.2.2⟩)
theorem gh_cW {α : Type} {z : Nat × GH} (hr : vx_Run p l e R s m args below meth c H locs cells slots mc ms (F0 m pc ls st0) rest Qa (g_YX V D cT (.inl z : (Nat × GH) ⊕ α)) (g_A V)) (hno : ∀ st v t, ¬ Qa st (.returned v) t) (hI : g_at (g_A V) V g D cT f n s H locs) (hown : s.vm.findClass own = some m.cls) (pre : List ExceptionTableEntry) (x : ExceptionTableEntry) (suf : List ExceptionTableEntry) (hsplit : c.exceptionTable.toList = pre ++ x :: suf)
    (hpass : ∀ y ∈ pre, covers y pc = false ∨ (y.catchType ≠ 0 ∧ ∃ nm : String, (Cond.classLink own y.catchType nm).before args s = true ∧ va_Nc (g_en z.1) nm s)) (hx : covers x pc = true) (h0 : x.catchType ≠ 0) (hlink : (Cond.classLink own x.catchType name).before args s = true) (hcast : (Cond.castable (g_en z.1) name).before args s = true)
    (kk : ∀ (H1 : Heap) (locs1 : List Loc) (q9 : Nat), g_at (g_A V) V g D cT z.2 H1.size s H1 locs1 → W p l e R s m args below meth c H1 locs1 (cells + mc) (slots + ms) Q (F0 m x.handlerPc ls [.ref q9])) : W p l e R s m args below meth c H locs cells slots Q (F0 m pc ls st0) := by
  refine gx_thrown (A1 := g_no) (AX := g_A V) hr hno hI.2.2.2.2.2.2.1 (fun _ h => h) (fun E st t h => h.choose_spec.2.2) (fun _ h => h) (fun E ce q9 st t H1 locs1 ht9 hst hx9 hS hce hv hcl => ?_)
  obtain ⟨k, hk, ⟨hE, hd⟩, -⟩ := hx9
  obtain rfl := Sum.inl.inj hk
  subst hE
  exact vx_catch hown pre x suf hsplit hpass hx h0 hlink hcast hce hv hcl (kk H1 locs1 q9 ⟨rfl, hI.2.1, by rw [← ht9]; exact hd, hI.2.2.2.1, hI.2.2.2.2.1, hI.2.2.2.2.2.1, hS, hI.2.2.2.2.2.2.2⟩)
theorem ge_Ni (hx : p.tables.exec = Jvm.exec) (hb : c.code = cc) (hlocks : meth.locks = false) (hr : meth.sig.returnType = some .int) {v : Int32} {o : Int32 × GH} {n0 : Nat} (hn0 : s.heap.size = n0) (hI : g_at (g_A V) V g D cT f n s H locs) (hq : some (v, f) = some o) (hdg : decode cc pc = .ok (.ireturn, 1)) : W p l e R s m args below meth c H locs cells slots (MQ below (g_Wn V D cT o n0) args s cells slots (g_A V)) (F0 m pc ls [.int v]) := by
  obtain rfl := Option.some.inj hq
  exact W.zret hx hb hr rfl (fun t ht _ => ⟨⟨v, (), rfl, rfl, by rw [ht, ← hn0]; exact hI.2.2.2.2.2.2.1.1, by rw [ht]; exact hI.2.2.1⟩, hI.2.2.2.2.2.2.1.F ht⟩) hI.2.2.2.2.2.2.1.2.2 hdg hlocks
/-- words of exceptions: a class is its own, two are not each other's -/
theorem gh_ca (hI : g_at (g_A V) V g D cT f n s H locs) {i : Nat} {a b : String} (h : g_nw[i]? = some (.castable a b)) : (Cond.castable a b).before args s = true := va_Nw.use rfl (g_nwx hI h)
theorem gh_nc (hI : g_at (g_A V) V g D cT f n s H locs) {i : Nat} {a b : String} (h : g_nc[i]? = some (a, b)) : va_Nc a b s := g_ncx hI h
end GH
