/-! ===== exceptions, nest mates, null answers ===== -/
def g_en (k : Nat) : String := match k with
  | 0 => "java/lang/IndexOutOfBoundsException"
  | 1 => "java/lang/IllegalArgumentException"
  | _ => "java/lang/IllegalStateException"
def x_b {ξ ξ' α β : Type} (x : Option (ξ ⊕ α)) (c : ξ → ξ') (k : α → Option (ξ' ⊕ β)) : Option (ξ' ⊕ β) := match x with
  | none => none
  | some (.inl z) => some (.inl (c z))
  | some (.inr a) => k a
theorem x_b_eq {ξ ξ' α β : Type} {x : Option (ξ ⊕ α)} {c : ξ → ξ'} {k : α → Option (ξ' ⊕ β)} {o : ξ' ⊕ β} (h : x_b x c k = some o) : (∃ z, x = some (.inl z) ∧ o = .inl (c z)) ∨ ∃ a, x = some (.inr a) ∧ k a = some o := by
  unfold x_b at h
  split at h
  · cases h
  · exact Or.inl ⟨_, rfl, (Option.some.inj h).symm⟩
  · exact Or.inr ⟨_, rfl, h⟩
def g_Rq (o : Option Nat) (n : Nat) : Array Value → State → Outcome → State → Prop := va_Qq (fun r (_ : Unit) => r = o) (fun _ t => t.heap.size = n) g_no
def g_Xi (o : Nat ⊕ Int32) (n : Nat) : Array Value → State → Outcome → State → Prop := va_Qi (fun r (_ : Unit) => o = .inr r) (fun _ t => t.heap.size = n) g_no
def g_Xf (o : Nat ⊕ UInt32) (n : Nat) : Array Value → State → Outcome → State → Prop := va_Qf (fun r (_ : Unit) => o = .inr r) (fun _ t => t.heap.size = n) g_no
def g_Xd (o : Nat ⊕ UInt64) (n : Nat) : Array Value → State → Outcome → State → Prop := va_Qd (fun r (_ : Unit) => o = .inr r) (fun _ t => t.heap.size = n) g_no
def g_Xr (o : Nat ⊕ Nat) (n : Nat) : Array Value → State → Outcome → State → Prop := va_Qr (fun (_ : Unit) => True) (fun _ a t => o = .inr a ∧ t.heap.size = n) g_no
def g_Xv (o : Nat ⊕ Unit) (n : Nat) : Array Value → State → Outcome → State → Prop := va_Qv (fun (_ : Unit) => o = .inr ()) (fun _ t => t.heap.size = n) g_no
def g_XX {α : Type} (V : Nat → Nat) (D : va_G) (cT : Nat → ClassId) (f : GH) (o : Nat ⊕ α) : String → State → State → Prop := vx_X (fun (k : Nat) => o = .inl k) (fun E k t => E = g_en k ∧ g_hd V D cT f t.heap) g_no
def g_Yi (V : Nat → Nat) (D : va_G) (cT : Nat → ClassId) (o : (Nat × GH) ⊕ (Int32 × GH)) (n : Nat) : Array Value → State → Outcome → State → Prop := va_Qi (fun r (f1 : GH) => o = .inr (r, f1)) (fun f1 t => g_pst V D cT f1 n t) (g_A V)
def g_Zi (V : Nat → Nat) (D : va_G) (cT : Nat → ClassId) (o : (Nat × GH) ⊕ (Int32 × GH × Nat)) : Array Value → State → Outcome → State → Prop := va_Qi (fun r (u : GH × Nat) => o = .inr (r, u)) (fun u t => g_pst V D cT u.1 u.2 t) (g_A V)
def g_Yv (V : Nat → Nat) (D : va_G) (cT : Nat → ClassId) (o : (Nat × GH) ⊕ GH) (n : Nat) : Array Value → State → Outcome → State → Prop := va_Qv (fun (f1 : GH) => o = .inr f1) (fun f1 t => g_pst V D cT f1 n t) (g_A V)
def g_YX {α : Type} (V : Nat → Nat) (D : va_G) (cT : Nat → ClassId) (o : (Nat × GH) ⊕ α) : String → State → State → Prop := vx_X (fun (u : Nat × GH) => o = .inl u) (fun E u t => E = g_en u.1 ∧ g_hd V D cT u.2 t.heap) (g_A V)
section GX
variable {p : Program} {l : Launch} {e : Env} {R : Room} {s : State} {m : MethodId} {args : Array Value} {below : List Frame} {meth : Method} {c : Code} {H : Heap} {locs : List Loc} {cells slots : Nat} {Q : State → Prop}
variable {cc : ByteArray} {pc nL : Nat} {ls : Array Slot} {rest st0 As : List Value} {A : Nat → Prop} {V : Nat → Nat} {g f f1 : GH} {D : va_G} {cT : Nat → ClassId} {n n1 : Nat} {free : Addr → Prop}
variable {y : MethodName} {bytes : ByteArray} {maxL mc ms mc1 ms1 index j b ci : Nat} {ret : Option FieldType} {rm : Room} {own : String} {Qc : Array Value → State → Outcome → State → Prop} {a : Array Value} {XC : String → State → State → Prop}
theorem gr_q {o : Option Nat} (hr : va_Run p l e R s m args below meth c H locs cells slots 0 0 (F0 m pc ls st0) rest (g_Rq o n a) g_no) (hI : g_at A V g D cT f n s H locs)
    (kk : ∀ (H1 : Heap) (locs1 : List Loc), g_at A V g D cT f n s H1 locs1 → W p l e R s m args below meth c H1 locs1 cells slots Q (F0 m (pc + 3) ls (va_rf o :: rest))) : W p l e R s m args below meth c H locs cells slots Q (F0 m pc ls st0) :=
  va_callq hr hI.2.2.2.2.2.2.1 (fun _ _ h => h.elim) (fun _ h => h.elim) (fun r _ t H1 locs1 ht _ hw hB _ hk hS => by rw [show r = o from hw]; exact kk H1 locs1 (gr_at hI ht hB hk hS))
theorem ge_Rq (hx : p.tables.exec = Jvm.exec) (hb : c.code = cc) (hlocks : meth.locks = false) {rt : FieldType} (hr : meth.sig.returnType = some rt) (hrt : (∃ n, rt = .object n) ∨ ∃ t, rt = .array t) {v o : Option Nat} (hI : g_at g_no V g D cT f n s H locs) (hq : some v = some o) (hdg : decode cc pc = .ok (.areturn, 1)) : W p l e R s m args below meth c H locs 0 0 (MQ below (g_Rq o n) args s 0 0 g_no) (F0 m pc ls [va_rf v]) :=
  W.aret hx hb hr hrt (show va_rf v = .null ∨ ∃ a, va_rf v = .ref a by cases v with | none => exact Or.inl rfl | some x => exact Or.inr ⟨x, rfl⟩) (fun t ht _ => ⟨⟨v, (), rfl, Option.some.inj hq, by show t.heap.size = n; rw [ht]; exact hI.1⟩, hI.2.2.2.2.2.2.1.F ht⟩) hI.2.2.2.2.2.2.1.2.2 hdg hlocks
/-- nest mates -/
theorem g_runSN {host : String} {j0 : Nat} (C0 : CallFix p m c cc nL s args g_B own) (hM : Met l y (Cond.code y bytes maxL ret :: g_B) rm (va_Pc As (g_I V g D cT f n)) Qc mc ms free) (k : g_CS y bytes maxL ret j) (hl : g_nw[j0]? = some (Cond.methodLinkNest own index y host)) (hrc : rm.cells = mc) (hrs : rm.slots = ms) (hR : rm.frames + 1 ≤ R.frames ∧ 8 + (maxL + 11) + rm.locals ≤ R.locals)
    (hI : g_at A V g D cT f n s H locs) (hn : As.length = j) (hsize : ls.size = nL) (hst : st0 = As.reverse ++ rest) (hrest : (rest.map fun v => v.category).sum ≤ 8) (hdg : decode cc pc = .ok (.invokestatic index, 3)) (hf : cells + mc ≤ R.cells ∧ slots + ms ≤ R.slots) :
    va_Run p l e R s m args below meth c H locs cells slots mc ms (F0 m pc ls st0) rest (Qc As.toArray) free :=
  va_runSN (host := host) C0 hM ⟨va_cnB j C0.2.2.2.2 (g_good k.1.1) rfl hrc hrs (g_nwx hI hl) (C0.2.2.2.2 _ k.1.2.1) k.1.2.2 hR, C0.2.2.2.2 _ k.2, trivial⟩ (g_preS hI) rfl hn hsize hst (lv_room hrest) hdg hf
theorem g_runIN {host : String} {j0 : Nat} (C0 : CallFix p m c cc nL s args g_B own) (hM : Met l y (Cond.code y bytes maxL none :: g_B) rm (va_Pc (.ref b :: As) (g_I V g D cT f n)) Qc mc ms free) (k : g_CI y bytes maxL j) (hl : g_nw[j0]? = some (Cond.methodLinkNest own index y host)) (hrc : rm.cells = mc) (hrs : rm.slots = ms) (hR : rm.frames + 1 ≤ R.frames ∧ 8 + (maxL + 11) + rm.locals ≤ R.locals)
    (hI : g_at A V g D cT f n s H locs) (hn : As.length = j) (hsize : ls.size = nL) (hst : st0 = As.reverse ++ .ref b :: rest) (hrest : (rest.map fun v => v.category).sum ≤ 8) (hdg : decode cc pc = .ok (.invokespecial index, 3)) (hf : cells + mc ≤ R.cells ∧ slots + ms ≤ R.slots) :
    va_Run p l e R s m args below meth c H locs cells slots mc ms (F0 m pc ls st0) rest (Qc (Value.ref b :: As).toArray) free :=
  va_runIN (host := host) C0 hM ⟨va_cnB j C0.2.2.2.2 (g_good k.1.1) rfl hrc hrs (g_nwx hI hl) (C0.2.2.2.2 _ k.1.2.1) k.1.2.2 hR, k.2.1, C0.2.2.2.2 _ k.2.2⟩ (g_preS hI) rfl hn hsize hst (lv_room hrest) hdg hf
/-- calls of what may throw -/
theorem g_runVX (C0 : CallFix p m c cc nL s args g_B own) (hM : vx_Met l y (Cond.code y bytes maxL ret :: g_B) rm (va_Pc (.ref b :: As) (g_I V g D cT f n)) Qc XC mc ms free) (k : g_CV y bytes maxL ret j) (hl : Cond.methodLink own index y ∈ g_B) (hrc : rm.cells = mc) (hrs : rm.slots = ms) (hR : rm.frames + 1 ≤ R.frames ∧ 8 + (maxL + 11) + rm.locals ≤ R.locals)
    (hI : g_at A V g D cT f n s H locs) {q : vw_C} (hc : vwCl[ci]? = some q) (hq : q.1 = y.cls) (he : ∃ fs, f b = some (.inr (ci, fs))) (hn : As.length = j) (hsize : ls.size = nL) (hst : st0 = As.reverse ++ .ref b :: rest) (hrest : (rest.map fun v => v.category).sum ≤ 8) (hdg : decode cc pc = .ok (.invokevirtual index, 3)) (hf : cells + mc ≤ R.cells ∧ slots + ms ≤ R.slots) :
    vx_Run p l e R s m args below meth c H locs cells slots mc ms (F0 m pc ls st0) rest (Qc (Value.ref b :: As).toArray) XC free := by
  obtain ⟨fs, he⟩ := he
  have hp := g_preV hI (as := As) hc he
  rw [hq] at hp
  exact vx_runV C0 hM ⟨g_callB C0.2.2.2.2 k.1 hl hrc hrs hR, C0.2.2.2.2 _ k.2.1, C0.2.2.2.2 _ k.2.2⟩ hp rfl hn hsize hst (lv_room hrest) hdg hf
theorem g_runSX (C0 : CallFix p m c cc nL s args g_B own) (hM : vx_Met l y (Cond.code y bytes maxL ret :: g_B) rm (va_Pc As (g_I V g D cT f n)) Qc XC mc ms free) (k : g_CS y bytes maxL ret j) (hl : Cond.methodLink own index y ∈ g_B) (hrc : rm.cells = mc) (hrs : rm.slots = ms) (hR : rm.frames + 1 ≤ R.frames ∧ 8 + (maxL + 11) + rm.locals ≤ R.locals)
    (hI : g_at A V g D cT f n s H locs) (hn : As.length = j) (hsize : ls.size = nL) (hst : st0 = As.reverse ++ rest) (hrest : (rest.map fun v => v.category).sum ≤ 8) (hdg : decode cc pc = .ok (.invokestatic index, 3)) (hf : cells + mc ≤ R.cells ∧ slots + ms ≤ R.slots) :
    vx_Run p l e R s m args below meth c H locs cells slots mc ms (F0 m pc ls st0) rest (Qc As.toArray) XC free :=
  vx_runS C0 hM ⟨g_callB C0.2.2.2.2 k.1 hl hrc hrs hR, C0.2.2.2.2 _ k.2⟩ (g_preS hI) rfl hn hsize hst (lv_room hrest) hdg hf
/-- behind such a call that returned: only the return is possible -/
theorem gx_ret {Qa : State → Outcome → State → Prop} {XCa : String → State → State → Prop} (hr : vx_Run p l e R s m args below meth c H locs cells slots mc ms (F0 m pc ls st0) rest Qa XCa free) (hno : ∀ E st t, ¬ XCa E st t) : va_Run p l e R s m args below meth c H locs cells slots mc ms (F0 m pc ls st0) rest Qa free := by
  intro T hT X
  rcases hr T hT X with h | ⟨q, st₀, t, T', L, E, ce, h0, X', hL, e1, e2, hx, -⟩
  · exact h
  · exact absurd hx (hno E st₀ t)
theorem gx_noX {α : Type} {o : Nat ⊕ α} {v : α} (h : o = .inr v) : ∀ E st t, ¬ g_XX V D cT f o E st t := by
  rintro E st t ⟨k, hk, -⟩
  rw [h] at hk
  cases hk
theorem gx_noY {α : Type} {o : (Nat × GH) ⊕ α} {v : α} (h : o = .inr v) : ∀ E st t, ¬ g_YX V D cT o E st t := by
  rintro E st t ⟨k, hk, -⟩
  rw [h] at hk
  cases hk
-- the rows behind a reader that may throw and returned
theorem gx_i {v : Int32} (hr : vx_Run p l e R s m args below meth c H locs cells slots mc ms (F0 m pc ls st0) rest (g_Xi (.inr v) n a) (g_XX V D cT f (.inr v : Nat ⊕ Int32)) g_no) (hI : g_at A V g D cT f n s H locs)
    (kk : ∀ (H1 : Heap) (locs1 : List Loc), g_at A V g D cT f n s H1 locs1 → W p l e R s m args below meth c H1 locs1 (cells + mc) (slots + ms) Q (F0 m (pc + 3) ls (.int v :: rest))) : W p l e R s m args below meth c H locs cells slots Q (F0 m pc ls st0) :=
  va_calli (gx_ret hr (gx_noX rfl)) hI.2.2.2.2.2.2.1 (fun _ _ h => h.elim) (fun _ h => h.elim) (fun r _ t H1 locs1 ht _ hw hB _ hk hS => by rw [show r = v from (Sum.inr.inj hw).symm]; exact kk H1 locs1 (gr_at hI ht hB hk hS))
theorem gx_v {v : Unit} (hr : vx_Run p l e R s m args below meth c H locs cells slots mc ms (F0 m pc ls st0) rest (g_Xv (.inr v) n a) (g_XX V D cT f (.inr v : Nat ⊕ Unit)) g_no) (hI : g_at A V g D cT f n s H locs)
    (kk : ∀ (H1 : Heap) (locs1 : List Loc), g_at A V g D cT f n s H1 locs1 → W p l e R s m args below meth c H1 locs1 (cells + mc) (slots + ms) Q (F0 m (pc + 3) ls rest)) : W p l e R s m args below meth c H locs cells slots Q (F0 m pc ls st0) :=
  va_callv (gx_ret hr (gx_noX rfl)) hI.2.2.2.2.2.2.1 (fun _ _ h => h.elim) (fun _ h => h.elim) (fun _ t H1 locs1 ht _ _ hB _ hk hS => kk H1 locs1 (gr_at hI ht hB hk hS))
theorem gx_r {v : Nat} (hr : vx_Run p l e R s m args below meth c H locs cells slots mc ms (F0 m pc ls st0) rest (g_Xr (.inr v) n a) (g_XX V D cT f (.inr v : Nat ⊕ Nat)) g_no) (hI : g_at A V g D cT f n s H locs)
    (kk : ∀ (H1 : Heap) (locs1 : List Loc), g_at A V g D cT f n s H1 locs1 → W p l e R s m args below meth c H1 locs1 (cells + mc) (slots + ms) Q (F0 m (pc + 3) ls (.ref v :: rest))) : W p l e R s m args below meth c H locs cells slots Q (F0 m pc ls st0) :=
  va_callr (gx_ret hr (gx_noX rfl)) hI.2.2.2.2.2.2.1 (fun _ _ h => h.elim) (fun _ h => h.elim) (fun _ r t H1 locs1 ht _ _ hB _ hk hS => by rw [show r = v from (Sum.inr.inj hB.1).symm]; exact kk H1 locs1 (gr_at hI ht hB.2 hk hS))
theorem gx_d {v : UInt64} (hr : vx_Run p l e R s m args below meth c H locs cells slots mc ms (F0 m pc ls st0) rest (g_Xd (.inr v) n a) (g_XX V D cT f (.inr v : Nat ⊕ UInt64)) g_no) (hI : g_at A V g D cT f n s H locs)
    (kk : ∀ (H1 : Heap) (locs1 : List Loc), g_at A V g D cT f n s H1 locs1 → W p l e R s m args below meth c H1 locs1 (cells + mc) (slots + ms) Q (F0 m (pc + 3) ls (.double v :: rest))) : W p l e R s m args below meth c H locs cells slots Q (F0 m pc ls st0) :=
  va_calld (gx_ret hr (gx_noX rfl)) hI.2.2.2.2.2.2.1 (fun _ _ h => h.elim) (fun _ h => h.elim) (fun r _ t H1 locs1 ht _ hw hB _ hk hS => by rw [show r = v from (Sum.inr.inj hw).symm]; exact kk H1 locs1 (gr_at hI ht hB hk hS))
theorem gx_f {v : UInt32} (hr : vx_Run p l e R s m args below meth c H locs cells slots mc ms (F0 m pc ls st0) rest (g_Xf (.inr v) n a) (g_XX V D cT f (.inr v : Nat ⊕ UInt32)) g_no) (hI : g_at A V g D cT f n s H locs)
    (kk : ∀ (H1 : Heap) (locs1 : List Loc), g_at A V g D cT f n s H1 locs1 → W p l e R s m args below meth c H1 locs1 (cells + mc) (slots + ms) Q (F0 m (pc + 3) ls (.float v :: rest))) : W p l e R s m args below meth c H locs cells slots Q (F0 m pc ls st0) :=
  va_callf (gx_ret hr (gx_noX rfl)) hI.2.2.2.2.2.2.1 (fun _ _ h => h.elim) (fun _ h => h.elim) (fun r _ t H1 locs1 ht _ hw hB _ hk hS => by rw [show r = v from (Sum.inr.inj hw).symm]; exact kk H1 locs1 (gr_at hI ht hB hk hS))
theorem gy_i {v : Int32 × GH} (hr : vx_Run p l e R s m args below meth c H locs cells slots mc ms (F0 m pc ls st0) rest (g_Yi V D cT (.inr v) n a) (g_YX V D cT (.inr v : (Nat × GH) ⊕ (Int32 × GH))) (g_A V)) (hI : g_at (g_A V) V g D cT f n s H locs)
    (kk : ∀ (H1 : Heap) (locs1 : List Loc), g_at (g_A V) V g D cT v.2 n s H1 locs1 → W p l e R s m args below meth c H1 locs1 (cells + mc) (slots + ms) Q (F0 m (pc + 3) ls (.int v.1 :: rest))) : W p l e R s m args below meth c H locs cells slots Q (F0 m pc ls st0) :=
  va_calli (gx_ret hr (gx_noY rfl)) hI.2.2.2.2.2.2.1 (fun _ _ h => h) (fun _ h => h) (fun r u t H1 locs1 ht _ hw hB _ hk hS => by have hv := Sum.inr.inj hw; rw [hv] at kk; exact kk H1 locs1 (gw_at hI ht hB hS))
theorem gz_i {v : Int32 × GH × Nat} (hr : vx_Run p l e R s m args below meth c H locs cells slots mc ms (F0 m pc ls st0) rest (g_Zi V D cT (.inr v) a) (g_YX V D cT (.inr v : (Nat × GH) ⊕ (Int32 × GH × Nat))) (g_A V)) (hI : g_at (g_A V) V g D cT f n s H locs)
    (kk : ∀ (H1 : Heap) (locs1 : List Loc), g_at (g_A V) V g D cT v.2.1 v.2.2 s H1 locs1 → W p l e R s m args below meth c H1 locs1 (cells + mc) (slots + ms) Q (F0 m (pc + 3) ls (.int v.1 :: rest))) : W p l e R s m args below meth c H locs cells slots Q (F0 m pc ls st0) :=
  va_calli (gx_ret hr (gx_noY rfl)) hI.2.2.2.2.2.2.1 (fun _ _ h => h) (fun _ h => h) (fun r u t H1 locs1 ht _ hw hB _ hk hS => by have hv := Sum.inr.inj hw; rw [hv] at kk; exact kk H1 locs1 (gw_at hI ht hB hS))
theorem gy_v {v : GH} (hr : vx_Run p l e R s m args below meth c H locs cells slots mc ms (F0 m pc ls st0) rest (g_Yv V D cT (.inr v) n a) (g_YX V D cT (.inr v : (Nat × GH) ⊕ GH)) (g_A V)) (hI : g_at (g_A V) V g D cT f n s H locs)
    (kk : ∀ (H1 : Heap) (locs1 : List Loc), g_at (g_A V) V g D cT v n s H1 locs1 → W p l e R s m args below meth c H1 locs1 (cells + mc) (slots + ms) Q (F0 m (pc + 3) ls rest)) : W p l e R s m args below meth c H locs cells slots Q (F0 m pc ls st0) :=
  va_callv (gx_ret hr (gx_noY rfl)) hI.2.2.2.2.2.2.1 (fun _ _ h => h) (fun _ h => h) (fun u t H1 locs1 ht _ hw hB _ hk hS => by have hv := Sum.inr.inj hw; rw [hv] at kk; exact kk H1 locs1 (gw_at hI ht hB hS))
/-- no return is possible -/
theorem no_i {z : Nat} : ∀ st v t, ¬ g_Xi (.inl z) n a st (.returned v) t := by rintro st v t ⟨⟨r, u, -, h, -⟩, -⟩; cases h
theorem no_d {z : Nat} : ∀ st v t, ¬ g_Xd (.inl z) n a st (.returned v) t := by rintro st v t ⟨⟨r, u, -, h, -⟩, -⟩; cases h
theorem no_f {z : Nat} : ∀ st v t, ¬ g_Xf (.inl z) n a st (.returned v) t := by rintro st v t ⟨⟨r, u, -, h, -⟩, -⟩; cases h
theorem no_v {z : Nat} : ∀ st v t, ¬ g_Xv (.inl z) n a st (.returned v) t := by rintro st v t ⟨⟨u, -, h, -⟩, -⟩; cases h
theorem no_r {z : Nat} : ∀ st v t, ¬ g_Xr (.inl z) n a st (.returned v) t := by rintro st v t ⟨⟨u, r, -, -, h, -⟩, -⟩; cases h
theorem noy_i {z : Nat × GH} : ∀ st v t, ¬ g_Yi V D cT (.inl z) n a st (.returned v) t := by rintro st v t ⟨⟨r, u, -, h, -⟩, -⟩; cases h
theorem noz_i {z : Nat × GH} : ∀ st v t, ¬ g_Zi V D cT (.inl z) a st (.returned v) t := by rintro st v t ⟨⟨r, u, -, h, -⟩, -⟩; cases h
theorem noy_v {z : Nat × GH} : ∀ st v t, ¬ g_Yv V D cT (.inl z) n a st (.returned v) t := by rintro st v t ⟨⟨u, -, h, -⟩, -⟩; cases h
/-- it threw: from here by a row of the throwing state -/
theorem gx_thrown {Qa : State → Outcome → State → Prop} {XCa : String → State → State → Prop} (hr : vx_Run p l e R s m args below meth c H locs cells slots mc ms (F0 m pc ls st0) rest Qa XCa free) (hno : ∀ st v t, ¬ Qa st (.returned v) t) {A1 AX : Nat → Prop} (hS : va_S A s.heap H locs) (hf : ∀ q, free q → A q) (hF : ∀ E st t, XCa E st t → va_F AX st t) (hAX : ∀ q, AX q → A q)
    (kx : ∀ (E : String) (ce : Cell) (q9 : Addr) (st t : State) (H1 : Heap) (locs1 : List Loc), t.heap = H1 → st.heap = H → XCa E st t → va_S A s.heap H1 locs1 → H1[q9]? = some ce → ce.vm = .none → s.vm.findClass E = some ce.cls → vx_W p l e R s m args below meth c H1 locs1 (cells + mc) (slots + ms) Q (F0 m pc ls rest) q9) : W p l e R s m args below meth c H locs cells slots Q (F0 m pc ls st0) := by
  intro T hT X
  rcases hr T hT X with ⟨v, st₀, t, T', L, h0, X', hL, e1, e2, hq, -⟩ | ⟨q, st₀, t, T', L, E, ce, h0, X', hL, e1, e2, hx, hce, hcv, hcl, st⟩
  · exact absurd hq (hno st₀ v t)
  · obtain ⟨k1, k2, k3⟩ := vx_keep h0 e1 hS (fun q _ h => hAX q h) hf hL (hF E st₀ t hx)
    obtain ⟨t2, a1, b1⟩ := kx E ce q st₀ t T'.heap (locs ++ L) e1.symm h0 hx k3 (by rw [e1]; exact hce) hcv hcl T' rfl X'
    exact ⟨t2, st.trans a1, b1⟩
/-- a reader threw in a reader: it goes on -/
theorem gt_RR {α β : Type} {z : Nat} {o : Nat ⊕ β} (hlocks : meth.locks = false) (ht : ∀ x ∈ c.exceptionTable.toList, False) (hr : vx_Run p l e R s m args below meth c H locs cells slots mc ms (F0 m pc ls st0) rest (Qc a) (g_XX V D cT f (.inl z : Nat ⊕ α)) g_no) (hno : ∀ st v t, ¬ Qc a st (.returned v) t) (hI : g_at g_no V g D cT f n s H locs) (hq : o = .inl z) (hc : cells + mc ≤ mc1) (hs : slots + ms ≤ ms1) {Q1 : Array Value → State → Outcome → State → Prop} :
    W p l e R s m args below meth c H locs cells slots (vx_MQ below Q1 (g_XX V D cT f o) args s mc1 ms1 g_no) (F0 m pc ls st0) := by
  refine gx_thrown (A1 := g_no) (AX := g_no) hr hno hI.2.2.2.2.2.2.1 (fun _ h => h) (fun E st t h => h.choose_spec.2.2) (fun _ h => h) (fun E ce q9 st t H1 locs1 ht9 hst hx hS hce hv hcl => ?_)
  obtain ⟨k, hk, ⟨hE, hd⟩, -⟩ := hx
  obtain rfl := Sum.inl.inj hk
  refine vx_out (fun x hx => (ht x hx).elim) hlocks hce hv hcl (fun t1 h1 _ => ⟨z, hq, ⟨hE, by rw [h1, ← ht9]; exact hd⟩, hS.F h1⟩) (fun q h => hS.2.2 q h) hc hs
/-- a reader threw in a writer -/
theorem gt_RW {α β : Type} {z : Nat} {o : (Nat × GH) ⊕ β} (hlocks : meth.locks = false) (ht : ∀ x ∈ c.exceptionTable.toList, False) (hr : vx_Run p l e R s m args below meth c H locs cells slots mc ms (F0 m pc ls st0) rest (Qc a) (g_XX V D cT f (.inl z : Nat ⊕ α)) g_no) (hno : ∀ st v t, ¬ Qc a st (.returned v) t) (hI : g_at (g_A V) V g D cT f n s H locs) (hq : o = .inl (z, f)) (hc : cells + mc ≤ mc1) (hs : slots + ms ≤ ms1) {Q1 : Array Value → State → Outcome → State → Prop} :
    W p l e R s m args below meth c H locs cells slots (vx_MQ below Q1 (g_YX V D cT o) args s mc1 ms1 (g_A V)) (F0 m pc ls st0) := by
  refine gx_thrown (A1 := g_no) (AX := g_no) hr hno hI.2.2.2.2.2.2.1 (fun _ h => h.elim) (fun E st t h => h.choose_spec.2.2) (fun _ h => h.elim) (fun E ce q9 st t H1 locs1 ht9 hst hx hS hce hv hcl => ?_)
  obtain ⟨k, hk, ⟨hE, hd⟩, -⟩ := hx
  obtain rfl := Sum.inl.inj hk
  refine vx_out (fun x hx => (ht x hx).elim) hlocks hce hv hcl (fun t1 h1 _ => ⟨(z, f), hq, ⟨hE, by rw [h1, ← ht9]; exact hd⟩, hS.F h1⟩) (fun q h => hS.2.2 q h) hc hs
/-- a writer threw in a writer -/
theorem gt_WW {α β : Type} {z : Nat × GH} {o : (Nat × GH) ⊕ β} (hlocks : meth.locks = false) (ht : ∀ x ∈ c.exceptionTable.toList, False) (hr : vx_Run p l e R s m args below meth c H locs cells slots mc ms (F0 m pc ls st0) rest (Qc a) (g_YX V D cT (.inl z : (Nat × GH) ⊕ α)) (g_A V)) (hno : ∀ st v t, ¬ Qc a st (.returned v) t) (hI : g_at (g_A V) V g D cT f n s H locs) (hq : o = .inl z) (hc : cells + mc ≤ mc1) (hs : slots + ms ≤ ms1) {Q1 : Array Value → State → Outcome → State → Prop} :
    W p l e R s m args below meth c H locs cells slots (vx_MQ below Q1 (g_YX V D cT o) args s mc1 ms1 (g_A V)) (F0 m pc ls st0) := by
  refine gx_thrown (A1 := g_no) (AX := g_A V) hr hno hI.2.2.2.2.2.2.1 (fun _ h => h) (fun E st t h => h.choose_spec.2.2) (fun _ h => h) (fun E ce q9 st t H1 locs1 ht9 hst hx hS hce hv hcl => ?_)
  obtain ⟨k, hk, ⟨hE, hd⟩, -⟩ := hx
  obtain rfl := Sum.inl.inj hk
  refine vx_out (fun x hx => (ht x hx).elim) hlocks hce hv hcl (fun t1 h1 _ => ⟨z, hq, ⟨hE, by rw [h1, ← ht9]; exact hd⟩, hS.F h1⟩) (fun q h => hS.2.2 q h) hc hs
/-- what a throw of one's own owes -/
theorem g_thrR {β : Type} {k : Nat} {o : Nat ⊕ β} (hI : g_at g_no V g D cT f n s H locs) (hq : some (.inl k) = some o) : ∀ t : State, s.vm.Alike t.vm → H.size ≤ t.heap.size → (∀ q : Nat, q < H.size → t.heap[q]? = H[q]?) → g_XX V D cT f o (g_en k) s t := by
  intro t _ h1 h2
  refine ⟨k, (Option.some.inj hq).symm, ⟨rfl, fun a e he => ⟨(hI.2.2.1 a e he).1, (hI.2.2.1 a e he).2.kept (h2 a (hI.2.2.1 a e he).2.lt)⟩⟩, Nat.le_trans hI.2.2.2.2.2.2.1.1 h1, fun q h3 h4 => ?_⟩
  rw [h2 q (Nat.lt_of_lt_of_le h3 hI.2.2.2.2.2.2.1.1)]
  exact hI.2.2.2.2.2.2.1.2.1 q h3 h4
theorem g_thrW {β : Type} {k : Nat} {o : (Nat × GH) ⊕ β} (hI : g_at (g_A V) V g D cT f n s H locs) (hq : some (.inl (k, f)) = some o) : ∀ t : State, s.vm.Alike t.vm → H.size ≤ t.heap.size → (∀ q : Nat, q < H.size → t.heap[q]? = H[q]?) → g_YX V D cT o (g_en k) s t := by
  intro t _ h1 h2
  refine ⟨(k, f), (Option.some.inj hq).symm, ⟨rfl, fun a e he => ⟨(hI.2.2.1 a e he).1, (hI.2.2.1 a e he).2.kept (h2 a (hI.2.2.1 a e he).2.lt)⟩⟩, Nat.le_trans hI.2.2.2.2.2.2.1.1 h1, fun q h3 h4 => ?_⟩
  rw [h2 q (Nat.lt_of_lt_of_le h3 hI.2.2.2.2.2.2.1.1)]
  exact hI.2.2.2.2.2.2.1.2.1 q h3 h4
theorem g_uns (hI : g_at A V g D cT f n s H locs) : vx_Zq Bundle.tN "UNASSIGNED_STACK" Bundle.steD A s s.heap := hI.2.2.2.2.2.1.2.2.2.1.narrow (g_inA hI)
theorem g_sup (hI : g_at A V g D cT f n s H locs) : vx_Zq Bundle.tN "SUPPRESSED_SENTINEL" Bundle.listD A s s.heap := hI.2.2.2.2.2.1.2.2.2.2.1.narrow (g_inA hI)
-- ends of methods that may throw, and returned
theorem ge_Xi (hx : p.tables.exec = Jvm.exec) (hb : c.code = cc) (hlocks : meth.locks = false) {ty : FieldType} (hr : meth.sig.returnType = some ty) {v : Int32} {o : Nat ⊕ Int32} (hn : narrow ty (.int v) = .int v) (hI : g_at g_no V g D cT f n s H locs) (hq : some (.inr v) = some o) (hdg : decode cc pc = .ok (.ireturn, 1)) : W p l e R s m args below meth c H locs cells slots (vx_MQ below (g_Xi o n) XC args s cells slots g_no) (F0 m pc ls [.int v]) :=
  vx_ret (W.zret hx hb hr hn (fun t ht _ => ⟨⟨v, (), rfl, (Option.some.inj hq).symm, by show t.heap.size = n; rw [ht]; exact hI.1⟩, hI.2.2.2.2.2.2.1.F ht⟩) hI.2.2.2.2.2.2.1.2.2 hdg hlocks)
theorem ge_Xd (hx : p.tables.exec = Jvm.exec) (hb : c.code = cc) (hlocks : meth.locks = false) (hr : meth.sig.returnType = some .double) {v : UInt64} {o : Nat ⊕ UInt64} (hI : g_at g_no V g D cT f n s H locs) (hq : some (.inr v) = some o) (hdg : decode cc pc = .ok (.dreturn, 1)) : W p l e R s m args below meth c H locs cells slots (vx_MQ below (g_Xd o n) XC args s cells slots g_no) (F0 m pc ls [.double v]) :=
  vx_ret (W.dret hx hb hr (fun t ht _ => ⟨⟨v, (), rfl, (Option.some.inj hq).symm, by show t.heap.size = n; rw [ht]; exact hI.1⟩, hI.2.2.2.2.2.2.1.F ht⟩) hI.2.2.2.2.2.2.1.2.2 hdg hlocks)
theorem ge_Xf (hx : p.tables.exec = Jvm.exec) (hb : c.code = cc) (hlocks : meth.locks = false) (hr : meth.sig.returnType = some .float) {v : UInt32} {o : Nat ⊕ UInt32} (hI : g_at g_no V g D cT f n s H locs) (hq : some (.inr v) = some o) (hdg : decode cc pc = .ok (.freturn, 1)) : W p l e R s m args below meth c H locs cells slots (vx_MQ below (g_Xf o n) XC args s cells slots g_no) (F0 m pc ls [.float v]) :=
  vx_ret (W.fret hx hb hr (fun t ht _ => ⟨⟨v, (), rfl, (Option.some.inj hq).symm, by show t.heap.size = n; rw [ht]; exact hI.1⟩, hI.2.2.2.2.2.2.1.F ht⟩) hI.2.2.2.2.2.2.1.2.2 hdg hlocks)
theorem ge_Xr (hx : p.tables.exec = Jvm.exec) (hb : c.code = cc) (hlocks : meth.locks = false) {rt : FieldType} (hr : meth.sig.returnType = some rt) (hrt : (∃ n, rt = .object n) ∨ ∃ t, rt = .array t) {v : Nat} {o : Nat ⊕ Nat} (hI : g_at g_no V g D cT f n s H locs) (hq : some (.inr v) = some o) (hdg : decode cc pc = .ok (.areturn, 1)) : W p l e R s m args below meth c H locs cells slots (vx_MQ below (g_Xr o n) XC args s cells slots g_no) (F0 m pc ls [.ref v]) :=
  vx_ret (W.aret hx hb hr hrt (Or.inr ⟨v, rfl⟩) (fun t ht _ => ⟨⟨(), v, rfl, trivial, (Option.some.inj hq).symm, by rw [ht]; exact hI.1⟩, hI.2.2.2.2.2.2.1.F ht⟩) hI.2.2.2.2.2.2.1.2.2 hdg hlocks)
theorem ge_Xv (hx : p.tables.exec = Jvm.exec) (hb : c.code = cc) (hlocks : meth.locks = false) (hr : meth.sig.returnType = none) {o : Nat ⊕ Unit} (hI : g_at g_no V g D cT f n s H locs) (hq : some (.inr ()) = some o) (hdg : decode cc pc = .ok (.return_, 1)) : W p l e R s m args below meth c H locs cells slots (vx_MQ below (g_Xv o n) XC args s cells slots g_no) (F0 m pc ls []) :=
  vx_ret (W.vret hx hb hr (fun t ht _ => ⟨⟨(), rfl, (Option.some.inj hq).symm, by show t.heap.size = n; rw [ht]; exact hI.1⟩, hI.2.2.2.2.2.2.1.F ht⟩) hI.2.2.2.2.2.2.1.2.2 hdg hlocks)
theorem ge_Yi (hx : p.tables.exec = Jvm.exec) (hb : c.code = cc) (hlocks : meth.locks = false) {ty : FieldType} (hr : meth.sig.returnType = some ty) {v : Int32} {o : (Nat × GH) ⊕ (Int32 × GH)} (hn : narrow ty (.int v) = .int v) (hI : g_at (g_A V) V g D cT f n s H locs) (hq : some (.inr (v, f)) = some o) (hdg : decode cc pc = .ok (.ireturn, 1)) : W p l e R s m args below meth c H locs cells slots (vx_MQ below (g_Yi V D cT o n) XC args s cells slots (g_A V)) (F0 m pc ls [.int v]) :=
  vx_ret (W.zret hx hb hr hn (fun t ht _ => ⟨⟨v, f, rfl, (Option.some.inj hq).symm, by rw [ht]; exact hI.1, by rw [ht]; exact hI.2.2.1⟩, hI.2.2.2.2.2.2.1.F ht⟩) hI.2.2.2.2.2.2.1.2.2 hdg hlocks)
theorem ge_Zi (hx : p.tables.exec = Jvm.exec) (hb : c.code = cc) (hlocks : meth.locks = false) {ty : FieldType} (hr : meth.sig.returnType = some ty) {v : Int32} {o : (Nat × GH) ⊕ (Int32 × GH × Nat)} (hn : narrow ty (.int v) = .int v) (hI : g_at (g_A V) V g D cT f n s H locs) (hq : some (.inr (v, f, n)) = some o) (hdg : decode cc pc = .ok (.ireturn, 1)) : W p l e R s m args below meth c H locs cells slots (vx_MQ below (g_Zi V D cT o) XC args s cells slots (g_A V)) (F0 m pc ls [.int v]) :=
  vx_ret (W.zret hx hb hr hn (fun t ht _ => ⟨⟨v, (f, n), rfl, (Option.some.inj hq).symm, by rw [ht]; exact hI.1, by rw [ht]; exact hI.2.2.1⟩, hI.2.2.2.2.2.2.1.F ht⟩) hI.2.2.2.2.2.2.1.2.2 hdg hlocks)
theorem ge_Yv (hx : p.tables.exec = Jvm.exec) (hb : c.code = cc) (hlocks : meth.locks = false) (hr : meth.sig.returnType = none) {o : (Nat × GH) ⊕ GH} (hI : g_at (g_A V) V g D cT f n s H locs) (hq : some (.inr f) = some o) (hdg : decode cc pc = .ok (.return_, 1)) : W p l e R s m args below meth c H locs cells slots (vx_MQ below (g_Yv V D cT o n) XC args s cells slots (g_A V)) (F0 m pc ls []) :=
  vx_ret (W.vret hx hb hr (fun t ht _ => ⟨⟨f, rfl, (Option.some.inj hq).symm, by rw [ht]; exact hI.1, by rw [ht]; exact hI.2.2.1⟩, hI.2.2.2.2.2.2.1.F ht⟩) hI.2.2.2.2.2.2.1.2.2 hdg hlocks)
end GX
/-- the beginning of a method that may throw -/
theorem g_beginX {l : Launch} {y : MethodName} {rm : Room} {V : Nat → Nat} {g f : GH} {D : va_G} {cT : Nat → ClassId} {n : Nat} {Qc : Array Value → State → Outcome → State → Prop} {XC : String → State → State → Prop} {mc ms maxL : Nat} {free : Addr → Prop} {cc : ByteArray} {ret : Option FieldType} {own : String} (As : List Value) (lv : List (Nat × Value)) (A : Nat → Prop) (hA : ∀ q, A q → g_A V q) (hy : plainName y.cls = true) (hown : y.cls = own) (hsz : (lg_sl As).length ≤ maxL) (hlv : lv_args 0 As = lv)
    (body : ∀ (p : Program) (e : Env) (s : State) (m : MethodId) (args : Array Value) (below : List Frame) (meth : Method) (c : Code), p.tables.exec = Jvm.exec → c.code = cc → meth.sig.returnType = ret → meth.locks = false → (∀ x ∈ c.exceptionTable.toList, False) → CallFix p m c cc maxL s args g_B own → g_at A V g D cT f n s s.heap [] → ∀ ls : Array Slot, lv_has ls maxL lv → W p l e rm s m args below meth c s.heap [] 0 0 (vx_MQ below Qc XC args s mc ms free) (F0 m 0 ls [])) :
    vx_Met l y (Cond.code y cc maxL ret :: g_B) rm (va_Pc As (g_I V g D cT f n)) Qc XC mc ms free := by
  refine vx_ofW (cc := cc) (maxL := maxL) (ret := ret) hy rfl ?_
  intro p e s m args below meth c s₁ B hml ht hv
  obtain ⟨rfl, hv⟩ := hv
  have hts := atoms_spec (ws := Cond.code y cc maxL ret :: g_B) B.pre
  have hl := lv_entry As hsz
  rw [lg_entry_eq]
  generalize (lg_sl As ++ List.replicate (maxL - (lg_sl As).length) Slot.unset).toArray = ls at hl ⊢
  rw [hlv] at hl
  exact body p e s m _ below meth c B.exec B.bytes B.returns B.notSynchronized ht ⟨B.exec, B.bytes, hml, by rw [← hown]; exact findClass_of_methodNamed B.named, fun w hw => hts w (List.mem_cons_of_mem _ hw)⟩ (g_start A hA hv) ls hl
