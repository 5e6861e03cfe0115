/-! ===== receivers that stand from the start; inherited methods; super; arrays of a computed length; bytes copied ===== -/
def h_o (k : Nat) : Option Nat := if k = 0 then none else some (k - 1)
/-- an array of numbers of a length up to m -/
def h_nv (f : GH) (n t : Nat) (k : Int32) (m : Nat) : Option GH := if ¬ k < 0 ∧ k.toNatClampNeg ≤ m then some (h_up f n (.inl (t, k.toNatClampNeg, .inl (fun _ => 0)))) else none
theorem h_nv_eq {f f1 : GH} {n t m : Nat} {k : Int32} (h : h_nv f n t k m = some f1) : ¬ k < 0 ∧ k.toNatClampNeg ≤ m ∧ f1 = h_up f n (.inl (t, k.toNatClampNeg, .inl (fun _ => 0))) := by
  unfold h_nv at h
  split at h
  · rename_i hc
    cases h
    exact ⟨hc.1, hc.2, rfl⟩
  · cases h
/-- bytes copied -/
def h_cpb (f : GH) (a0 : Nat) (sp : Int32) (a : Nat) (dp n : Int32) : Option GH := match h_ai f a0 1, h_ai f a 1 with
  | some x, some y => if ¬ sp < 0 ∧ ¬ dp < 0 ∧ ¬ n < 0 ∧ sp.toNatClampNeg + n.toNatClampNeg ≤ x.1 ∧ dp.toNatClampNeg + n.toNatClampNeg ≤ y.1 ∧ ∀ i, i < n.toNatClampNeg → fits .byte (.int (x.2 (sp.toNatClampNeg + i))) = true then some (h_up f a (.inl (1, y.1, .inl (va_cpy x.2 y.2 sp.toNatClampNeg dp.toNatClampNeg n.toNatClampNeg)))) else none
  | _, _ => none
theorem h_cpb_eq {f f1 : GH} {a0 a : Nat} {sp dp n : Int32} (h : h_cpb f a0 sp a dp n = some f1) : ∃ n0 r0 n1 r1, f a0 = some (.inl (1, n0, .inl r0)) ∧ f a = some (.inl (1, n1, .inl r1)) ∧ ¬ sp < 0 ∧ ¬ dp < 0 ∧ ¬ n < 0 ∧ sp.toNatClampNeg + n.toNatClampNeg ≤ n0 ∧ dp.toNatClampNeg + n.toNatClampNeg ≤ n1 ∧ (∀ i, i < n.toNatClampNeg → fits .byte (.int (r0 (sp.toNatClampNeg + i))) = true) ∧ f1 = h_up f a (.inl (1, n1, .inl (va_cpy r0 r1 sp.toNatClampNeg dp.toNatClampNeg n.toNatClampNeg))) := by
  unfold h_cpb at h
  split at h
  · rename_i x y hx hy
    split at h
    · rename_i hc
      cases h
      exact ⟨x.1, x.2, y.1, y.2, h_ai_eq hx, h_ai_eq hy, hc.1, hc.2.1, hc.2.2.1, hc.2.2.2.1, hc.2.2.2.2.1, hc.2.2.2.2.2, rfl⟩
    · cases h
  · cases h
section GS
variable {p : Program} {l : Launch} {e : Env} {R : Room} {s : State} {m : MethodId} {args : Array Value} {below : List Frame} {meth : Method} {c : Code} {H : Heap} {locs : List Loc} {cells slots : Nat} {Q : State → Prop}
variable {cc : ByteArray} {pc nL : Nat} {ls : Array Slot} {rest st0 As : List Value} {A : Nat → Prop} {V : Nat → Nat} {g f f1 : GH} {D : va_G} {cT : Nat → ClassId} {n n1 : Nat} {free : Addr → Prop}
variable {y x : MethodName} {bytes : ByteArray} {maxL mc ms index j b ci : Nat} {ret : Option FieldType} {rm : Room} {own C owner : String} {Qc : Array Value → State → Outcome → State → Prop} {a : Array Value}
theorem g_preVs (hI : g_at A V g D cT f n s H locs) {as : List Value} (he : ∃ fs, gO g b = some (.inr (ci, fs))) : PreV s H (g_cn ci) b (va_Pc (.ref b :: as) (g_I V g D cT f n)) as := by
  obtain ⟨fs, he⟩ := he
  obtain ⟨cell, h1, h2, h3, h4⟩ := (hI.2.2.2.1.2 b _ he).1
  exact ⟨g_blind, ⟨cell, by rw [hI.2.2.2.2.2.2.1.2.1 b (Array.getElem?_eq_some_iff.mp h1).1 (fun z => h4 (g_inA hI b z))]; exact h1, h2, h3⟩, fun _ hU hW => ⟨rfl, g_at_I hI hU hW⟩⟩
theorem g_runVs (C0 : CallFix p m c cc nL s args g_B own) (hM : Met l y (Cond.code y bytes maxL ret :: g_B) rm (va_Pc (.ref b :: As) (g_I V g D cT f n)) Qc mc ms free) (k : g_CV y bytes maxL ret j) (hl : Cond.methodLink own index y ∈ g_B) (hrc : rm.cells = mc) (hrs : rm.slots = ms) (hR : rm.frames + 1 ≤ R.frames ∧ 8 + (maxL + 11) + rm.locals ≤ R.locals)
    (hI : g_at A V g D cT f n s H locs) (hq : g_cn ci = y.cls) (he : ∃ fs, gO g b = some (.inr (ci, fs))) (hn : As.length = j) (hsize : ls.size = nL) (hst : st0 = As.reverse ++ .ref b :: rest) (hrest : (rest.map fun v => v.category).sum ≤ 8) (hdg : decode cc pc = .ok (.invokevirtual index, 3)) (hf : cells + mc ≤ R.cells ∧ slots + ms ≤ R.slots) :
    va_Run p l e R s m args below meth c H locs cells slots mc ms (F0 m pc ls st0) rest (Qc (Value.ref b :: As).toArray) free := by
  have hp := g_preVs hI (as := As) he
  rw [hq] at hp
  exact va_runV C0 hM ⟨g_callB C0.2.2.2.2 k.1 hl hrc hrs hR, C0.2.2.2.2 _ k.2.1, C0.2.2.2.2 _ k.2.2⟩ hp rfl hn hsize hst (lv_room hrest) hdg hf
/-- the words of an inherited method, called by the name x on an object of class C -/
def g_CU (C owner : String) (x y : MethodName) (bytes : ByteArray) (maxL : Nat) (ret : Option FieldType) (j : Nat) : Prop := (Cond.code y bytes maxL ret ∈ g_B ∧ Cond.initialized y.cls ∈ g_B) ∧ Cond.instanceMethod y ∈ g_B ∧ Cond.sameMethod x.cls owner x.name x.desc ∈ g_B ∧ Cond.selects C x y ∈ g_B ∧ y = ⟨owner, x.name, x.desc⟩ ∧ owner ≠ "java/lang/invoke/MethodHandle" ∧ owner ≠ "java/lang/invoke/VarHandle" ∧ (parseMethodDescriptor x.desc).map (fun d => d.parameters.length) = some j
theorem g_goodU (k : g_CU C owner x y bytes maxL ret j) (hl : Cond.methodLink own index x ∈ g_B) : GoodIn g_B (va_wsU own index C owner x y (Cond.code y bytes maxL ret :: g_B)) := by
  intro w hw
  have h2 : w ∈ g_B := by
    rcases List.mem_append.mp hw with h | h
    · simp only [List.mem_cons, List.not_mem_nil, or_false] at h
      rcases h with rfl | rfl | rfl | rfl | rfl
      · exact hl
      · exact k.2.2.1
      · exact k.2.2.2.1
      · exact k.2.1
      · exact k.1.2
    · rcases List.mem_cons.mp h with rfl | h
      · exact k.1.1
      · exact h
  exact ⟨h2, good_of_word (g_Bg _ h2)⟩
theorem g_runU (C0 : CallFix p m c cc nL s args g_B own) (hM : Met l y (Cond.code y bytes maxL ret :: g_B) rm (va_Pc (.ref b :: As) (g_I V g D cT f n)) Qc mc ms free) (k : g_CU C owner x y bytes maxL ret j) (hl : Cond.methodLink own index x ∈ g_B) (hrc : rm.cells = mc) (hrs : rm.slots = ms) (hR : rm.frames + 1 ≤ R.frames ∧ 8 + (maxL + 11) + rm.locals ≤ R.locals)
    (hI : g_at A V g D cT f n s H locs) {q : vw_C} (hc : vwCl[ci]? = some q) (hq : q.1 = C) (he : ∃ fs, f b = some (.inr (ci, fs))) (hn : As.length = j) (hsize : ls.size = nL) (hst : st0 = As.reverse ++ .ref b :: rest) (hrest : (rest.map fun v => v.category).sum ≤ 8) (hdg : decode cc pc = .ok (.invokevirtual index, 3)) (hf : cells + mc ≤ R.cells ∧ slots + ms ≤ R.slots) :
    va_Run p l e R s m args below meth c H locs cells slots mc ms (F0 m pc ls st0) rest (Qc (Value.ref b :: As).toArray) free := by
  obtain ⟨fs, he⟩ := he
  have hp := g_preV hI (as := As) hc he
  rw [hq] at hp
  exact va_runU C0 hM (va_cwU j C0.2.2.2.2 (g_goodU k hl) rfl hrc hrs k.2.2.2.2.1 k.2.2.2.2.2 hR) hp rfl hn hsize hst (lv_room hrest) hdg hf
theorem g_runUs (C0 : CallFix p m c cc nL s args g_B own) (hM : Met l y (Cond.code y bytes maxL ret :: g_B) rm (va_Pc (.ref b :: As) (g_I V g D cT f n)) Qc mc ms free) (k : g_CU C owner x y bytes maxL ret j) (hl : Cond.methodLink own index x ∈ g_B) (hrc : rm.cells = mc) (hrs : rm.slots = ms) (hR : rm.frames + 1 ≤ R.frames ∧ 8 + (maxL + 11) + rm.locals ≤ R.locals)
    (hI : g_at A V g D cT f n s H locs) (hq : g_cn ci = C) (he : ∃ fs, gO g b = some (.inr (ci, fs))) (hn : As.length = j) (hsize : ls.size = nL) (hst : st0 = As.reverse ++ .ref b :: rest) (hrest : (rest.map fun v => v.category).sum ≤ 8) (hdg : decode cc pc = .ok (.invokevirtual index, 3)) (hf : cells + mc ≤ R.cells ∧ slots + ms ≤ R.slots) :
    va_Run p l e R s m args below meth c H locs cells slots mc ms (F0 m pc ls st0) rest (Qc (Value.ref b :: As).toArray) free := by
  have hp := g_preVs hI (as := As) he
  rw [hq] at hp
  exact va_runU C0 hM (va_cwU j C0.2.2.2.2 (g_goodU k hl) rfl hrc hrs k.2.2.2.2.1 k.2.2.2.2.2 hR) hp rfl hn hsize hst (lv_room hrest) hdg hf
/-- super.m(..) -/
def g_CSU (own : String) (y : MethodName) (bytes : ByteArray) (maxL : Nat) (ret : Option FieldType) (j : Nat) : Prop := (Cond.code y bytes maxL ret ∈ g_B ∧ Cond.initialized y.cls ∈ g_B) ∧ Cond.instanceMethod y ∈ g_B ∧ Cond.sameMethod y.cls y.cls y.name y.desc ∈ g_B ∧ Cond.superclass own y.cls ∈ g_B ∧ y.name ≠ "<init>" ∧ (parseMethodDescriptor y.desc).map (fun d => d.parameters.length) = some j
theorem g_runSU (C0 : CallFix p m c cc nL s args g_B own) (hM : Met l y (Cond.code y bytes maxL ret :: g_B) rm (va_Pc (.ref b :: As) (g_I V g D cT f n)) Qc mc ms free) (k : g_CSU own y bytes maxL ret j) (hl : Cond.methodLink own index y ∈ g_B) (hrc : rm.cells = mc) (hrs : rm.slots = ms) (hR : rm.frames + 1 ≤ R.frames ∧ 8 + (maxL + 11) + rm.locals ≤ R.locals)
    (hI : g_at A V g D cT f n s H locs) {q : vw_C} (hc : vwCl[ci]? = some q) (he : ∃ fs, f b = some (.inr (ci, fs))) (hn : As.length = j) (hsize : ls.size = nL) (hst : st0 = As.reverse ++ .ref b :: rest) (hrest : (rest.map fun v => v.category).sum ≤ 8) (hdg : decode cc pc = .ok (.invokespecial index, 3)) (hf : cells + mc ≤ R.cells ∧ slots + ms ≤ R.slots) :
    va_Run p l e R s m args below meth c H locs cells slots mc ms (F0 m pc ls st0) rest (Qc (Value.ref b :: As).toArray) free := by
  obtain ⟨fs, he⟩ := he
  have hp := g_preV hI (as := As) hc he
  have hG : GoodIn g_B (va_wsSU own index y (Cond.code y bytes maxL ret :: g_B)) := by
    intro w hw
    have h2 : w ∈ g_B := by
      rcases List.mem_append.mp hw with h | h
      · simp only [List.mem_cons, List.not_mem_nil, or_false] at h
        rcases h with rfl | rfl | rfl | rfl | rfl
        · exact hl
        · exact k.2.2.1
        · exact k.2.2.2.1
        · exact k.2.1
        · exact k.1.2
      · rcases List.mem_cons.mp h with rfl | h
        · exact k.1.1
        · exact h
    exact ⟨h2, good_of_word (g_Bg _ h2)⟩
  exact va_runSU (hI.2.2.2.2.1.1 ci _ hc).2 C0 hM (va_cwSU j C0.2.2.2.2 hG rfl hrc hrs k.2.2.2.2 hR) hp rfl hn hsize hst (lv_room hrest) hdg hf
theorem fa_newv (hx : p.tables.exec = Jvm.exec) (hb : c.code = cc) (hB : ∀ w ∈ g_B, w.before args s = true) {atype : ArrayType} (harr : Cond.arrayClass (newarray.typeOf atype) ∈ g_B) {M t : Nat} (hty : newarray.typeOf atype = g_tyn t) (ht : t < 8) (ht1 : t < 2)
    (hI : g_at (g_A V) V g D cT f n s H locs) {k : Int32} (hM : M ≤ 100000) (hcells : cells + 1 ≤ R.cells) (hslots : slots + M ≤ R.slots) (hq : h_nv f n t k M = some f1) (hdg : decode cc pc = .ok (.newarray atype, 2))
    (kk : ∀ (H1 : Heap) (locs1 : List Loc), g_at (g_A V) V g D cT f1 (n + 1) s H1 locs1 → W p l e R s m args below meth c H1 locs1 (cells + 1) (slots + M) Q (F0 m (pc + 2) ls (.ref n :: rest))) : W p l e R s m args below meth c H locs cells slots Q (F0 m pc ls (.int k :: rest)) := by
  obtain ⟨h0, h1, rfl⟩ := h_nv_eq hq
  refine fa_newa (N := k.toNatClampNeg) (t := t) hx hb hB harr hty ht hI (k := k) (a0 := (k.toNatClampNeg, .inl (fun _ => 0))) (fun cA => ?_) h0 rfl ?_ hcells (by omega) rfl hdg (fun H1 locs1 hI1 => ?_)
  · have : t = 0 ∨ t = 1 := by omega
    rcases this with rfl | rfl <;> rfl
  · have : componentBytes (newarray.typeOf atype) ≤ 8 := by cases atype <;> decide
    exact Nat.le_trans (Nat.mul_le_mul (Nat.le_trans h1 hM) this) (by decide)
  · exact W.widen (k := cells + 1) (n := slots + M) (Nat.le_refl _) (by omega) (kk H1 locs1 hI1)
theorem fa_cpb (hexec : p.tables.exec = Jvm.exec) (hb : c.code = cc) (hml : c.maxLocals = ls.size) (hB : ∀ w ∈ g_B, w.before args s = true) {own : String} {index : Nat} (hown : s.vm.findClass own = some m.cls) (hlink : Cond.methodLink own index arraycopyName ∈ g_B) (hnat : Cond.native arraycopyName ∈ g_B) (hstat : Cond.static arraycopyName ∈ g_B) (hini : Cond.initialized "java/lang/System" ∈ g_B)
    (hI : g_at (g_A V) V g D cT f n s H locs) {a0 a : Nat} {sp dp k : Int32} (hq : h_cpb f a0 sp a dp k = some f1) (hframes : 1 ≤ R.frames) (hlocals : (rest.map fun v => v.category).sum + (nativeFrameWords "java/lang/System" "arraycopy" 5 + 11) ≤ R.locals) (hdg : decode cc pc = .ok (.invokestatic index, 3))
    (kk : ∀ (H1 : Heap) (locs1 : List Loc), g_at (g_A V) V g D cT f1 n s H1 locs1 → W p l e R s m args below meth c H1 locs1 cells slots Q (F0 m (pc + 3) ls rest)) : W p l e R s m args below meth c H locs cells slots Q (F0 m pc ls (.int k :: .int dp :: .ref a :: .int sp :: .ref a0 :: rest)) := by
  obtain ⟨n0, r0, n1, r1, he0, he, h1, h2, h3, h4, h5, h6, rfl⟩ := h_cpb_eq hq
  have nn : ∀ z : Int32, ¬ z < 0 → z.toInt = (z.toNatClampNeg : Int) := by
    intro z hz
    have hz0 : (0 : Int) ≤ z.toInt := by
      have := Int32.not_lt.mp hz
      simpa using Int32.le_iff_toInt_le.mp this
    show z.toInt = ((z.toInt.toNat : Nat) : Int)
    omega
  have hK := hI.2.2.2.2.1
  intro T hT X
  have hc0 : H[a0]? = some (vp_cell (cT 1) (n0, .inl r0)) := (hI.2.2.1 a0 _ he0).2
  have hc1 : H[a]? = some (vp_cell (cT 1) (n1, .inl r1)) := (hI.2.2.1 a _ he).2
  obtain ⟨-, k0, hk0, cm0, hkk0⟩ := (hK.2 1 _ (g_tys_at cT (t := 1) (by decide))).1 n0 (fun j => .int (r0 j))
  obtain ⟨-, k1, hk1, cm1, hkk1⟩ := (hK.2 1 _ (g_tys_at cT (t := 1) (by decide))).1 n1 (fun j => .int (r1 j))
  obtain ⟨vm', X', step⟩ := X.arraycopy hexec hown (hB _ hlink) (hB _ hnat) (hB _ hstat) (hB _ hini) (src := a0) (dst := a) (cs := vp_cell (cT 1) (n0, .inl r0)) (cd := vp_cell (cT 1) (n1, .inl r1)) (srcPos := sp) (destPos := dp) (n := k) (by rw [hT]; exact hc0) (by rw [hT]; exact hc1)
    (fun _ h => by cases h) (fun _ h => by cases h) (fun h => by cases h) (fun h => by cases h) hk0 hk1 hkk0 hkk1 (by simp [g_tyn, refKind]) h1 h2 h3
    (by rw [nn sp h1, nn k h3]; show ¬ _ > ((arrV (cT 1) n0 (fun j => .int (r0 j))).slots.size : Int); rw [arrV_size]; omega)
    (by rw [nn dp h2, nn k h3]; show ¬ _ > ((arrV (cT 1) n1 (fun j => .int (r1 j))).slots.size : Int); rw [arrV_size]; omega)
    (fun vm₁ _ i hi => by
      have e : (vp_cell (cT 1) (n0, .inl r0)).slots.getD (sp.toNatClampNeg + i) .null = .int (r0 (sp.toNatClampNeg + i)) := by
        show (arrV (cT 1) n0 (fun j => .int (r0 j))).slots.getD _ _ = _
        rw [Array.getD_eq_getD_getElem?, arrV_read _ _ (by omega)]
        rfl
      exact ⟨by rw [e]; exact h6 i hi, by rw [e]; exact trivial⟩)
    (g := F0 m pc ls (.int k :: .int dp :: .ref a :: .int sp :: .ref a0 :: rest)) rfl (by rw [hml]) (rest := rest) rfl (by rw [hb]; exact hdg) hframes (by show 2 * 0 + _ + _ ≤ _; omega)
  have e1 : copied (vp_cell (cT 1) (n0, .inl r0)) (vp_cell (cT 1) (n1, .inl r1)) sp dp k = vp_cell (cT 1) (n1, .inl (va_cpy r0 r1 sp.toNatClampNeg dp.toNatClampNeg k.toNatClampNeg)) := va_copied (fun z => .int z) (cT 1) (cT 1) r0 r1 h4
  rw [e1] at X' step
  have hl : a < H.size := (Array.getElem?_eq_some_iff.mp hc1).1
  have hheap : ((T.setVm vm').setCell a (vp_cell (cT 1) (n1, .inl (va_cpy r0 r1 sp.toNatClampNeg dp.toNatClampNeg k.toNatClampNeg)))).heap = H.setIfInBounds a (vp_cell (cT 1) (n1, .inl (va_cpy r0 r1 sp.toNatClampNeg dp.toNatClampNeg k.toNatClampNeg))) := by rw [← hT]; rfl
  have oq : ∀ q : Nat, q ≠ a → (H.setIfInBounds a (vp_cell (cT 1) (n1, .inl (va_cpy r0 r1 sp.toNatClampNeg dp.toNatClampNeg k.toNatClampNeg))))[q]? = H[q]? := fun q hq => by simp [Array.getElem?_setIfInBounds, Ne.symm hq]
  have hw := g_wrote (k := 0) (e1 := .inl (1, n1, .inl (va_cpy r0 r1 sp.toNatClampNeg dp.toNatClampNeg k.toNatClampNeg))) hI he (show (H.setIfInBounds a _)[a]? = some _ by simp [Array.getElem?_setIfInBounds, hl]) (by simp) oq
  obtain ⟨t, a1, b1⟩ := kk _ _ ⟨hw.1, hw.2.1, hw.2.2.1, hw.2.2.2.1, hw.2.2.2.2.1, hw.2.2.2.2.2.1, ⟨hw.2.2.2.2.2.2.1.1, hw.2.2.2.2.2.2.1.2.1, fun q hq => by
      rcases List.mem_append.mp hq with h | h
      · exact hI.2.2.2.2.2.2.1.2.2 q h
      · obtain ⟨z, -, hz⟩ := List.mem_map.mp h
        rw [← hz]
        exact (hI.2.2.1 a _ he).1⟩, hw.2.2.2.2.2.2.2⟩ _ hheap X'
  exact ⟨t, step t a1, b1⟩
end GS
