/-! ===== rows of this claim: calls that throw nothing, texts as objects of ours ===== -/
def h_nt {ξ α : Type} (x : Option (ξ ⊕ α)) : Option α := match x with
  | some (.inr v) => some v
  | _ => none
theorem h_nt_eq {ξ α : Type} {x : Option (ξ ⊕ α)} {v : α} (h : h_nt x = some v) : x = some (.inr v) := by
  unfold h_nt at h
  split at h
  · cases h; rfl
  · cases h
/-- a copy of a byte array -/
def h_cl (f : GH) (n a m : Nat) : Option GH := match h_ai f a 1 with
  | some x => if x.1 ≤ m ∧ ∀ i, i < x.1 → fits .byte (.int (x.2 i)) = true then some (h_up f n (.inl (1, x.1, .inl x.2))) else none
  | none => none
theorem h_cl_eq {f f1 : GH} {n a m : Nat} (h : h_cl f n a m = some f1) : ∃ n0 r0, f a = some (.inl (1, n0, .inl r0)) ∧ n0 ≤ m ∧ (∀ i, i < n0 → fits .byte (.int (r0 i)) = true) ∧ f1 = h_up f n (.inl (1, n0, .inl r0)) := by
  unfold h_cl at h
  split at h
  · rename_i x hx
    split at h
    · rename_i hc
      cases h
      exact ⟨x.1, x.2, h_ai_eq hx, hc.1, hc.2, rfl⟩
    · cases h
  · cases h
/-- System.arraycopy out of a static byte array -/
def h_cpbs (g f : GH) (a0 : Nat) (sp : Int32) (a : Nat) (dp n : Int32) : Option GH := match h_ai g a0 1, h_ai f a 1 with
  | some x, some y => if ¬ sp < 0 ∧ ¬ dp < 0 ∧ ¬ n < 0 ∧ sp.toNatClampNeg + n.toNatClampNeg ≤ x.1 ∧ dp.toNatClampNeg + n.toNatClampNeg ≤ y.1 ∧ ∀ i, i < n.toNatClampNeg → fits .byte (.int (x.2 (sp.toNatClampNeg + i))) = true then some (h_up f a (.inl (1, y.1, .inl (va_cpy x.2 y.2 sp.toNatClampNeg dp.toNatClampNeg n.toNatClampNeg)))) else none
  | _, _ => none
theorem h_cpbs_eq {g f f1 : GH} {a0 a : Nat} {sp dp n : Int32} (h : h_cpbs g f a0 sp a dp n = some f1) : ∃ n0 r0 n1 r1, g a0 = some (.inl (1, n0, .inl r0)) ∧ f a = some (.inl (1, n1, .inl r1)) ∧ ¬ sp < 0 ∧ ¬ dp < 0 ∧ ¬ n < 0 ∧ sp.toNatClampNeg + n.toNatClampNeg ≤ n0 ∧ dp.toNatClampNeg + n.toNatClampNeg ≤ n1 ∧ (∀ i, i < n.toNatClampNeg → fits .byte (.int (r0 (sp.toNatClampNeg + i))) = true) ∧ f1 = h_up f a (.inl (1, n1, .inl (va_cpy r0 r1 sp.toNatClampNeg dp.toNatClampNeg n.toNatClampNeg))) := by
  unfold h_cpbs at h
  split at h
  · rename_i x y hx hy
    split at h
    · rename_i hc
      cases h
      exact ⟨x.1, x.2, y.1, y.2, h_ai_eq hx, h_ai_eq hy, hc.1, hc.2.1, hc.2.2.1, hc.2.2.2.1, hc.2.2.2.2.1, hc.2.2.2.2.2, rfl⟩
    · cases h
  · cases h
section R5
variable {p : Program} {l : Launch} {e : Env} {R : Room} {s : State} {m : MethodId} {args : Array Value} {below : List Frame} {meth : Method} {c : Code} {H : Heap} {locs : List Loc} {cells slots : Nat} {Q : State → Prop}
variable {cc : ByteArray} {pc nL : Nat} {ls : Array Slot} {rest st0 As : List Value} {A : Nat → Prop} {V : Nat → Nat} {g f f1 : GH} {D : va_G} {cT : Nat → ClassId} {n n1 : Nat} {free : Addr → Prop}
variable {y : MethodName} {bytes : ByteArray} {maxL mc ms mc1 ms1 index j b ci : Nat} {ret : Option FieldType} {rm : Room} {own : String} {Qc : Array Value → State → Outcome → State → Prop} {a : Array Value} {XC : String → State → State → Prop}
theorem fa_cpbs (hexec : p.tables.exec = Jvm.exec) (hb : c.code = cc) (hml : c.maxLocals = ls.size) (hB : ∀ w ∈ g_B, w.before args s = true) {own : String} {index : Nat} (hown : s.vm.findClass own = some m.cls) (hlink : Cond.methodLink own index arraycopyName ∈ g_B) (hnat : Cond.native arraycopyName ∈ g_B) (hstat : Cond.static arraycopyName ∈ g_B) (hini : Cond.initialized "java/lang/System" ∈ g_B)
    (hI : g_at (g_A V) V g D cT f n s H locs) {a0 a : Nat} {sp dp k : Int32} (hq : h_cpbs (gA g) f a0 sp a dp k = some f1) (hframes : 1 ≤ R.frames) (hlocals : (rest.map fun v => v.category).sum + (nativeFrameWords "java/lang/System" "arraycopy" 5 + 11) ≤ R.locals) (hdg : decode cc pc = .ok (.invokestatic index, 3))
    (kk : ∀ (H1 : Heap) (locs1 : List Loc), g_at (g_A V) V g D cT f1 n s H1 locs1 → W p l e R s m args below meth c H1 locs1 cells slots Q (F0 m (pc + 3) ls rest)) : W p l e R s m args below meth c H locs cells slots Q (F0 m pc ls (.int k :: .int dp :: .ref a :: .int sp :: .ref a0 :: rest)) := by
  obtain ⟨n0, r0, n1, r1, he0, he, h1, h2, h3, h4, h5, h6, rfl⟩ := h_cpbs_eq hq
  have nn : ∀ z : Int32, ¬ z < 0 → z.toInt = (z.toNatClampNeg : Int) := by
    intro z hz
    have hz0 : (0 : Int) ≤ z.toInt := by
      have := Int32.not_lt.mp hz
      simpa using Int32.le_iff_toInt_le.mp this
    show z.toInt = ((z.toInt.toNat : Nat) : Int)
    omega
  have hK := hI.2.2.2.2.1
  intro T hT X
  obtain ⟨scr, hs1, hs2, hs3, hs4, -, hs5, hs7⟩ := fs_T hI he0 rfl
  have hs5 : ∀ j : Nat, j < n0 → scr.slots[j]? = some (.int (r0 j)) := hs5
  have hc0 : H[a0]? = some scr := by rw [hI.2.2.2.2.2.2.1.2.1 a0 (Array.getElem?_eq_some_iff.mp hs1).1 hs7]; exact hs1
  have hc1 : H[a]? = some (vp_cell (cT 1) (n1, .inl r1)) := (hI.2.2.1 a _ he).2
  obtain ⟨hs6, k0, hk0, cm0, hkk0⟩ := hs2
  obtain ⟨-, k1, hk1, cm1, hkk1⟩ := (hK.2 1 _ (g_tys_at cT (t := 1) (by decide))).1 n1 (fun j => .int (r1 j))
  obtain ⟨vm', X', step⟩ := X.arraycopy hexec hown (hB _ hlink) (hB _ hnat) (hB _ hstat) (hB _ hini) (src := a0) (dst := a) (cs := scr) (cd := vp_cell (cT 1) (n1, .inl r1)) (srcPos := sp) (destPos := dp) (n := k) (by rw [hT]; exact hc0) (by rw [hT]; exact hc1)
    hs6 (fun _ h => by cases h) hs3 (fun h => by cases h) hk0 hk1 hkk0 hkk1 (by simp [g_tyn, refKind]) h1 h2 h3
    (by rw [nn sp h1, nn k h3]; have hs4 : n0 ≤ scr.slots.size := hs4; omega)
    (by rw [nn dp h2, nn k h3]; show ¬ _ > ((arrV (cT 1) n1 (fun j => .int (r1 j))).slots.size : Int); rw [arrV_size]; omega)
    (fun vm₁ _ i hi => by
      have e : scr.slots.getD (sp.toNatClampNeg + i) .null = .int (r0 (sp.toNatClampNeg + i)) := by
        rw [Array.getD_eq_getD_getElem?, hs5 _ (by omega)]
        rfl
      exact ⟨by rw [e]; exact h6 i hi, by rw [e]; exact trivial⟩)
    (g := F0 m pc ls (.int k :: .int dp :: .ref a :: .int sp :: .ref a0 :: rest)) rfl (by rw [hml]) (rest := rest) rfl (by rw [hb]; exact hdg) hframes (by show 2 * 0 + _ + _ ≤ _; omega)
  have e1 : copied scr (vp_cell (cT 1) (n1, .inl r1)) sp dp k = vp_cell (cT 1) (n1, .inl (va_cpy r0 r1 sp.toNatClampNeg dp.toNatClampNeg k.toNatClampNeg)) := va_copiedX (fun z => .int z) scr (cT 1) r0 r1 hs5 h4
  rw [e1] at X' step
  have hl : a < H.size := (Array.getElem?_eq_some_iff.mp hc1).1
  have hheap : ((T.setVm vm').setCell a (vp_cell (cT 1) (n1, .inl (va_cpy r0 r1 sp.toNatClampNeg dp.toNatClampNeg k.toNatClampNeg)))).heap = H.setIfInBounds a (vp_cell (cT 1) (n1, .inl (va_cpy r0 r1 sp.toNatClampNeg dp.toNatClampNeg k.toNatClampNeg))) := by rw [← hT]; rfl
  have oq : ∀ q : Nat, q ≠ a → (H.setIfInBounds a (vp_cell (cT 1) (n1, .inl (va_cpy r0 r1 sp.toNatClampNeg dp.toNatClampNeg k.toNatClampNeg))))[q]? = H[q]? := fun q hq => by simp [Array.getElem?_setIfInBounds, Ne.symm hq]
  have hw := g_wrote (k := 0) (e1 := .inl (1, n1, .inl (va_cpy r0 r1 sp.toNatClampNeg dp.toNatClampNeg k.toNatClampNeg))) hI he (show (H.setIfInBounds a _)[a]? = some _ by simp [Array.getElem?_setIfInBounds, hl]) (by simp) oq
  obtain ⟨t, a1, b1⟩ := kk _ _ ⟨hw.1, hw.2.1, hw.2.2.1, hw.2.2.2.1, hw.2.2.2.2.1, hw.2.2.2.2.2.1, ⟨hw.2.2.2.2.2.2.1.1, hw.2.2.2.2.2.2.1.2.1, fun q hq => by
      rcases List.mem_append.mp hq with h | h
      · exact hI.2.2.2.2.2.2.1.2.2 q h
      · obtain ⟨z, -, hz⟩ := List.mem_map.mp h
        rw [← hz]
        exact (hI.2.2.1 a _ he).1⟩, hw.2.2.2.2.2.2.2⟩ _ hheap X'
  exact ⟨t, step t a1, b1⟩
/-- "[B".clone -/
theorem fa_cl (hexec : p.tables.exec = Jvm.exec) (hb : c.code = cc) (hml : c.maxLocals = ls.size) (hB : ∀ w ∈ g_B, w.before args s = true) {own : String} {index : Nat} (hown : s.vm.findClass own = some m.cls) (hlink : Cond.methodLink own index ⟨"[B", "clone", "()Ljava/lang/Object;"⟩ ∈ g_B) (hsame : Cond.sameMethod "[B" "java/lang/Object" "clone" "()Ljava/lang/Object;" ∈ g_B)
    (hnat : Cond.native ⟨"java/lang/Object", "clone", "()Ljava/lang/Object;"⟩ ∈ g_B) (hinst : Cond.instanceMethod ⟨"java/lang/Object", "clone", "()Ljava/lang/Object;"⟩ ∈ g_B) (hsel : Cond.selects "[B" ⟨"[B", "clone", "()Ljava/lang/Object;"⟩ ⟨"java/lang/Object", "clone", "()Ljava/lang/Object;"⟩ ∈ g_B) (hcl : va_Nw (.castable "[B" "java/lang/Cloneable") s)
    (hI : g_at (g_A V) V g D cT f n s H locs) {a M : Nat} (hq : h_cl f n a M = some f1) (hframes : 1 ≤ R.frames) (hlocals : (rest.map fun v => v.category).sum + 14 ≤ R.locals) (hcells : cells + 1 ≤ R.cells) (hslots : slots + M ≤ R.slots) (hdg : decode cc pc = .ok (.invokevirtual index, 3))
    (kk : ∀ (H1 : Heap) (locs1 : List Loc), g_at (g_A V) V g D cT f1 (n + 1) s H1 locs1 → W p l e R s m args below meth c H1 locs1 (cells + 1) (slots + M) Q (F0 m (pc + 3) ls (.ref n :: rest))) : W p l e R s m args below meth c H locs cells slots Q (F0 m pc ls (.ref a :: rest)) := by
  obtain ⟨n0, r0, he, hle, hfit, rfl⟩ := h_cl_eq hq
  have hK := hI.2.2.2.2.1
  have hnm : s.vm.findClass "[B" = some (cT 1) := va_nm_byte (hK.2 1 _ (g_tys_at cT (t := 1) (by decide))).2
  obtain ⟨c0, t0', f1', f2, f3⟩ := Cond.castable_spec (va_Nw.use (A := args) rfl hcl)
  cases hnm.symm.trans f1'
  have hc0 : H[a]? = some (vp_cell (cT 1) (n0, .inl r0)) := (hI.2.2.1 a _ he).2
  have hsz : (vp_cell (cT 1) (n0, .inl r0)).slots.size = n0 := arrV_size _ _ _
  intro T hT X
  obtain ⟨-, kA, hkA, comp, hkind⟩ := State.isArrayOf_alike X.warmed.alike ((hK.2 1 _ (g_tys_at cT (t := 1) (by decide))).1 0 (fun _ => .null))
  obtain ⟨-, kS, hkS, compS, hkindS⟩ := (hK.2 1 _ (g_tys_at cT (t := 1) (by decide))).1 0 (fun _ => .null)
  obtain ⟨vm', X', st⟩ := X.cloneArray hexec hown (hB _ hlink) (hB _ hsame) (hB _ hnat) (hB _ hinst) (hB _ hsel) (a := a) (cell := vp_cell (cT 1) (n0, .inl r0)) (by rw [hT]; exact hc0) (fun k h => by cases h) (fun h => by cases h) hnm f2 f3
    (fun i v hv => by
      have hk' : T.vm.classes[cT 1]? = some kA := hkA
      have hfv : fits (g_tyn 1) v = true := va_fit (F := fun j => .int (r0 j)) (ty := .byte) hfit i v hv
      have hcl0 : (vp_cell (cT 1) (n0, .inl r0)).cls = cT 1 := rfl
      rw [hcl0]
      simpa [State.fitsSlot, State.slotType?, hk', hkind] using hfv)
    (g := F0 m pc ls (.ref a :: rest)) rfl (by rw [hml]) rfl (by rw [hb]; exact hdg) hframes (by show 2 * 0 + _ + 14 ≤ _; omega) hcells (by rw [hsz]; omega) (hloader := Vm.clonesLoader_of_array hkS hkindS)
  rw [hsz] at X'
  have e1 : (H.push (vp_cell (cT 1) (n0, .inl r0)))[n]? = some (vp_cell (cT 1) (n0, .inl r0)) := by rw [← hI.1, Array.getElem?_push_size]
  obtain ⟨t, b1, b2⟩ := W.widen (k := cells + 1) (n := slots + M) (Nat.le_refl _) (by omega) (kk (H.push (vp_cell (cT 1) (n0, .inl r0))) locs (g_made hI (e1 := .inl (1, n0, .inl r0)) e1 (by rw [Array.size_push, hI.1]) (fun q hq => by rw [Array.getElem?_push, if_neg (by rw [hI.1]; omega)]))) ((T.setVm vm').pushCell (vp_cell (cT 1) (n0, .inl r0))) (by rw [← hT]; rfl) X'
  refine ⟨t, st t ?_, b2⟩
  rw [hT, hI.1]
  exact b1
theorem fa_castB (hexec : p.tables.exec = Jvm.exec) (hb : c.code = cc) {own : String} {index : Nat} (hown : s.vm.findClass own = some m.cls) (hlink : (Cond.classLink own index "[B").before args s = true) (hI : g_at A V g D cT f n s H locs) {a : Nat} {v : Int32} (hq : h_al f a 1 = some v) (hdg : decode cc pc = .ok (.checkcast index, 3))
    (kk : W p l e R s m args below meth c H locs cells slots Q (F0 m (pc + 3) ls (.ref a :: rest))) : W p l e R s m args below meth c H locs cells slots Q (F0 m pc ls (.ref a :: rest)) := by
  obtain ⟨x, he, -⟩ := h_al_eq hq
  exact va_castA hexec hb hown hlink (g_one hI he) 0 rfl (va_nm_byte (hI.2.2.2.2.1.2 1 _ (g_tys_at cT (t := 1) (by decide))).2) hdg kk
/-- a reader's call costs nothing -/
theorem z_stand {T T1 : State} {L : List Loc} (X : Stand p l e R s m args below meth c T locs cells slots) (X1 : Stand p l e R s m args below meth c T1 L (cells + mc) (slots + ms)) (h : T1.heap = T.heap) : Stand p l e R s m args below meth c T1 L cells slots := by
  have hs := X.same
  have h1 := X1.same
  refine ⟨X1.admits, X1.cas, X1.clock, X1.frames, X1.room, X1.hears, X1.method, X1.code, X1.here, X1.tail, X1.warmed, X1.limits, X1.bytes, ?_⟩
  have e : (T1.setVm s.vm).heap = (T.setVm s.vm).heap := h
  refine ⟨h1.1, h1.2.1, ?_, h1.2.2.2.1, ?_, h1.2.2.2.2.2⟩
  · rw [e]; exact hs.2.2.1
  · rw [e]; exact hs.2.2.2.2.1
theorem z_heap (hI : g_at A V g D cT f n s H locs) {t : State} (hn : t.heap.size = n) (hk : ∀ q : Nat, q < H.size → ¬ g_no q → t.heap[q]? = H[q]?) : t.heap = H := by
  apply Array.ext_getElem?
  intro q
  by_cases hq : q < H.size
  · exact hk q hq (fun z => z)
  · rw [Array.getElem?_eq_none (by rw [hn, ← hI.1]; omega), Array.getElem?_eq_none (by omega)]
theorem gr0_i {v : Int32} (hr : va_Run p l e R s m args below meth c H locs cells slots mc ms (F0 m pc ls st0) rest (g_Ri v n a) g_no) (hI : g_at A V g D cT f n s H locs)
    (kk : ∀ (H1 : Heap) (locs1 : List Loc), g_at A V g D cT f n s H1 locs1 → W p l e R s m args below meth c H1 locs1 cells slots Q (F0 m (pc + 3) ls (.int v :: rest))) : W p l e R s m args below meth c H locs cells slots Q (F0 m pc ls st0) := by
  intro T hT X
  obtain ⟨v0, st₀, t, T', L, h0, X', hL, e1, e2, hpost, st⟩ := hr T hT X
  obtain ⟨⟨r, u, hv, rfl, hsz⟩, hz, hk⟩ := hpost
  cases hv
  rw [h0] at hz hk
  have hh : t.heap = H := z_heap hI hsz hk
  obtain ⟨t2, a1, b1⟩ := kk H (locs ++ L) (g_kept hI hI.1 (fun q _ => rfl) ⟨hI.2.2.2.2.2.2.1.1, hI.2.2.2.2.2.2.1.2.1, fun q hq => by
      rcases List.mem_append.mp hq with h | h
      · exact hI.2.2.2.2.2.2.1.2.2 q h
      · exact (hL q h).elim⟩) T' (e1.trans hh) (z_stand X X' ((e1.trans hh).trans hT.symm))
  exact ⟨t2, st t2 a1, b1⟩
theorem gx0_i {v : Int32} (hr : vx_Run p l e R s m args below meth c H locs cells slots mc ms (F0 m pc ls st0) rest (g_Xi (.inr v) n a) (g_XX V D cT f (.inr v : Nat ⊕ Int32)) g_no) (hI : g_at A V g D cT f n s H locs)
    (kk : ∀ (H1 : Heap) (locs1 : List Loc), g_at A V g D cT f n s H1 locs1 → W p l e R s m args below meth c H1 locs1 cells slots Q (F0 m (pc + 3) ls (.int v :: rest))) : W p l e R s m args below meth c H locs cells slots Q (F0 m pc ls st0) := by
  intro T hT X
  obtain ⟨v0, st₀, t, T', L, h0, X', hL, e1, e2, hpost, st⟩ := gx_ret hr (gx_noX rfl) T hT X
  obtain ⟨⟨r, u, hv, hw, hsz⟩, hz, hk⟩ := hpost
  cases hv
  obtain rfl := Sum.inr.inj hw
  rw [h0] at hz hk
  have hh : t.heap = H := z_heap hI hsz hk
  obtain ⟨t2, a1, b1⟩ := kk H (locs ++ L) (g_kept hI hI.1 (fun q _ => rfl) ⟨hI.2.2.2.2.2.2.1.1, hI.2.2.2.2.2.2.1.2.1, fun q hq => by
      rcases List.mem_append.mp hq with h | h
      · exact hI.2.2.2.2.2.2.1.2.2 q h
      · exact (hL q h).elim⟩) T' (e1.trans hh) (z_stand X X' ((e1.trans hh).trans hT.symm))
  exact ⟨t2, st t2 a1, b1⟩
theorem gx0_r {v : Nat} (hr : vx_Run p l e R s m args below meth c H locs cells slots mc ms (F0 m pc ls st0) rest (g_Xr (.inr v) n a) (g_XX V D cT f (.inr v : Nat ⊕ Nat)) g_no) (hI : g_at A V g D cT f n s H locs)
    (kk : ∀ (H1 : Heap) (locs1 : List Loc), g_at A V g D cT f n s H1 locs1 → W p l e R s m args below meth c H1 locs1 cells slots Q (F0 m (pc + 3) ls (.ref v :: rest))) : W p l e R s m args below meth c H locs cells slots Q (F0 m pc ls st0) := by
  intro T hT X
  obtain ⟨v0, st₀, t, T', L, h0, X', hL, e1, e2, hpost, st⟩ := gx_ret hr (gx_noX rfl) T hT X
  obtain ⟨⟨u, r, hv, -, hw, hsz⟩, hz, hk⟩ := hpost
  cases hv
  obtain rfl := Sum.inr.inj hw
  rw [h0] at hz hk
  have hh : t.heap = H := z_heap hI hsz hk
  obtain ⟨t2, a1, b1⟩ := kk H (locs ++ L) (g_kept hI hI.1 (fun q _ => rfl) ⟨hI.2.2.2.2.2.2.1.1, hI.2.2.2.2.2.2.1.2.1, fun q hq => by
      rcases List.mem_append.mp hq with h | h
      · exact hI.2.2.2.2.2.2.1.2.2 q h
      · exact (hL q h).elim⟩) T' (e1.trans hh) (z_stand X X' ((e1.trans hh).trans hT.symm))
  exact ⟨t2, st t2 a1, b1⟩
theorem gx0_v {v : Unit} (hr : vx_Run p l e R s m args below meth c H locs cells slots mc ms (F0 m pc ls st0) rest (g_Xv (.inr v) n a) (g_XX V D cT f (.inr v : Nat ⊕ Unit)) g_no) (hI : g_at A V g D cT f n s H locs)
    (kk : ∀ (H1 : Heap) (locs1 : List Loc), g_at A V g D cT f n s H1 locs1 → W p l e R s m args below meth c H1 locs1 cells slots Q (F0 m (pc + 3) ls (rest))) : W p l e R s m args below meth c H locs cells slots Q (F0 m pc ls st0) := by
  intro T hT X
  obtain ⟨v0, st₀, t, T', L, h0, X', hL, e1, e2, hpost, st⟩ := gx_ret hr (gx_noX rfl) T hT X
  obtain ⟨⟨u, hv, hw, hsz⟩, hz, hk⟩ := hpost
  cases hv
  rw [h0] at hz hk
  have hh : t.heap = H := z_heap hI hsz hk
  obtain ⟨t2, a1, b1⟩ := kk H (locs ++ L) (g_kept hI hI.1 (fun q _ => rfl) ⟨hI.2.2.2.2.2.2.1.1, hI.2.2.2.2.2.2.1.2.1, fun q hq => by
      rcases List.mem_append.mp hq with h | h
      · exact hI.2.2.2.2.2.2.1.2.2 q h
      · exact (hL q h).elim⟩) T' (e1.trans hh) (z_stand X X' ((e1.trans hh).trans hT.symm))
  exact ⟨t2, st t2 a1, b1⟩
theorem ge_Pi (hx : p.tables.exec = Jvm.exec) (hb : c.code = cc) (hlocks : meth.locks = false) {ty : FieldType} (hr : meth.sig.returnType = some ty) {v o : Int32} (hn : narrow ty (.int v) = .int v) (hI : g_at g_no V g D cT f n s H locs) (hq : some v = some o) (hdg : decode cc pc = .ok (.ireturn, 1)) : W p l e R s m args below meth c H locs cells slots (MQ below (g_Ri o n) args s cells slots g_no) (F0 m pc ls [.int v]) :=
  W.zret hx hb hr hn (fun t ht _ => ⟨⟨v, (), rfl, Option.some.inj hq, by show t.heap.size = n; rw [ht]; exact hI.1⟩, hI.2.2.2.2.2.2.1.F ht⟩) hI.2.2.2.2.2.2.1.2.2 hdg hlocks
end R5
/-! a call of a method that the object's own class overrides -/
section R6
variable {p : Program} {l : Launch} {e : Env} {R : Room} {s : State} {m : MethodId} {args : Array Value} {below : List Frame} {meth : Method} {c : Code} {H : Heap} {locs : List Loc} {cells slots : Nat} {Q : State → Prop}
variable {cc : ByteArray} {pc nL : Nat} {ls : Array Slot} {rest st0 As : List Value} {A : Nat → Prop} {V : Nat → Nat} {g f f1 : GH} {D : va_G} {cT : Nat → ClassId} {n n1 : Nat} {free : Addr → Prop}
variable {y x : MethodName} {bytes : ByteArray} {maxL mc ms index j b ci : Nat} {ret : Option FieldType} {rm : Room} {own C owner : String} {Qc : Array Value → State → Outcome → State → Prop} {a : Array Value}
def g_CO (C owner : String) (x y : MethodName) (bytes : ByteArray) (maxL : Nat) (ret : Option FieldType) (j : Nat) (b0 : ByteArray) (m0 : Nat) (r0 : Option FieldType) : Prop := (Cond.code y bytes maxL ret ∈ g_B ∧ Cond.initialized y.cls ∈ g_B) ∧ Cond.instanceMethod y ∈ g_B ∧ Cond.sameMethod x.cls owner x.name x.desc ∈ g_B ∧ Cond.selects C x y ∈ g_B ∧ Cond.instanceMethod ⟨owner, x.name, x.desc⟩ ∈ g_B ∧ Cond.code ⟨owner, x.name, x.desc⟩ b0 m0 r0 ∈ g_B ∧ owner ≠ "java/lang/invoke/MethodHandle" ∧ owner ≠ "java/lang/invoke/VarHandle" ∧ (parseMethodDescriptor x.desc).map (fun d => d.parameters.length) = some j
theorem g_goodO {b0 : ByteArray} {m0 : Nat} {r0 : Option FieldType} (k : g_CO C owner x y bytes maxL ret j b0 m0 r0) (hl : Cond.methodLink own index x ∈ g_B) : GoodIn g_B (va_wsO own index C owner x y (Cond.code y bytes maxL ret :: g_B)) := by
  intro w hw
  have h2 : w ∈ g_B := by
    rcases List.mem_append.mp hw with h | h
    · simp only [List.mem_cons, List.not_mem_nil, or_false] at h
      rcases h with rfl | rfl | rfl | rfl | rfl | rfl
      · exact hl
      · exact k.2.2.1
      · exact k.2.2.2.2.1
      · exact k.2.2.2.1
      · exact k.2.1
      · exact k.1.2
    · rcases List.mem_cons.mp h with rfl | h
      · exact k.1.1
      · exact h
  exact ⟨h2, good_of_word (g_Bg _ h2)⟩
theorem g_runO {b0 : ByteArray} {m0 : Nat} {r0 : Option FieldType} (C0 : CallFix p m c cc nL s args g_B own) (hM : Met l y (Cond.code y bytes maxL ret :: g_B) rm (va_Pc (.ref b :: As) (g_I V g D cT f n)) Qc mc ms free) (k : g_CO C owner x y bytes maxL ret j b0 m0 r0) (hl : Cond.methodLink own index x ∈ g_B) (hrc : rm.cells = mc) (hrs : rm.slots = ms) (hR : rm.frames + 1 ≤ R.frames ∧ 8 + (maxL + 11) + rm.locals ≤ R.locals)
    (hI : g_at A V g D cT f n s H locs) {q : vw_C} (hc : vwCl[ci]? = some q) (hq : q.1 = C) (he : ∃ fs, f b = some (.inr (ci, fs))) (hn : As.length = j) (hsize : ls.size = nL) (hst : st0 = As.reverse ++ .ref b :: rest) (hrest : (rest.map fun v => v.category).sum ≤ 8) (hdg : decode cc pc = .ok (.invokevirtual index, 3)) (hf : cells + mc ≤ R.cells ∧ slots + ms ≤ R.slots) :
    va_Run p l e R s m args below meth c H locs cells slots mc ms (F0 m pc ls st0) rest (Qc (Value.ref b :: As).toArray) free := by
  obtain ⟨fs, he⟩ := he
  have hp := g_preV hI (as := As) hc he
  rw [hq] at hp
  exact va_runU C0 hM (va_cwO j C0.2.2.2.2 (g_goodO k hl) rfl hrc hrs k.2.2.2.2.2.1 k.2.2.2.2.2.2 hR) hp rfl hn hsize hst (lv_room hrest) hdg hf
end R6
