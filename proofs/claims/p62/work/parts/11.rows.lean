/-! ===== rows over the functional heap ===== -/
section FA
variable {p : Program} {l : Launch} {e : Env} {R : Room} {s : State} {m : MethodId} {args : Array Value} {below : List Frame} {meth : Method} {c : Code} {H : Heap} {locs : List Loc} {cells slots : Nat} {Q : State → Prop}
variable {cc : ByteArray} {pc : Nat} {ls : Array Slot} {rest : List Value} {A : Nat → Prop} {V : Nat → Nat} {g f f1 : GH} {D : va_G} {cT : Nat → ClassId} {n : Nat}
theorem fa_get (hexec : p.tables.exec = Jvm.exec) (hb : c.code = cc) (hB : ∀ w ∈ g_B, w.before args s = true) {own ref C : String} {T : u_T} {N ci index : Nat} (hin : ∀ w ∈ u_ws C T N, w ∈ g_B) (hown : s.vm.findClass own = some m.cls) (hI : g_at A V g D cT f n s H locs) (hc : vwCl[ci]? = some (C, T, N)) {k : Nat} (hk : k < N) (hlink : Cond.fieldLink own index ref (T k).2.1 (T k).2.2.1 ∈ g_B) (hsame : ∀ x, s.fieldFound? (T k).1 (T k).2.1 (T k).2.2.1 = some x → s.fieldFound? ref (T k).2.1 (T k).2.2.1 = some x)
    {a : Nat} {fs : List Value} {v : Value} (he : f a = some (.inr (ci, fs))) (hv : fs[k]? = some v) (hdg : decode cc pc = .ok (.getfield index, 3)) (kk : W p l e R s m args below meth c H locs cells slots Q (F0 m (pc + 3) ls (v :: rest))) : W p l e R s m args below meth c H locs cells slots Q (F0 m pc ls (.ref a :: rest)) :=
  va_get hexec hb hB hin hown hI.2.2.2.2.1 (g_one hI he) 0 rfl hc k hk (hB _ hlink) hsame hv hdg kk
theorem fa_gi (hexec : p.tables.exec = Jvm.exec) (hb : c.code = cc) (hB : ∀ w ∈ g_B, w.before args s = true) {own ref C : String} {T : u_T} {N ci index : Nat} (hin : ∀ w ∈ u_ws C T N, w ∈ g_B) (hown : s.vm.findClass own = some m.cls) (hI : g_at A V g D cT f n s H locs) (hc : vwCl[ci]? = some (C, T, N)) {k : Nat} (hk : k < N) (hlink : Cond.fieldLink own index ref (T k).2.1 (T k).2.2.1 ∈ g_B) (hsame : ∀ x, s.fieldFound? (T k).1 (T k).2.1 (T k).2.2.1 = some x → s.fieldFound? ref (T k).2.1 (T k).2.2.1 = some x)
    {a : Nat} {v : Int32} (hq : h_gi f a ci k = some v) (hdg : decode cc pc = .ok (.getfield index, 3)) (kk : W p l e R s m args below meth c H locs cells slots Q (F0 m (pc + 3) ls (.int v :: rest))) : W p l e R s m args below meth c H locs cells slots Q (F0 m pc ls (.ref a :: rest)) := by
  obtain ⟨fs, he, hv⟩ := h_gi_eq hq
  exact fa_get hexec hb hB hin hown hI hc hk hlink hsame he hv hdg kk
theorem fa_gr (hexec : p.tables.exec = Jvm.exec) (hb : c.code = cc) (hB : ∀ w ∈ g_B, w.before args s = true) {own ref C : String} {T : u_T} {N ci index : Nat} (hin : ∀ w ∈ u_ws C T N, w ∈ g_B) (hown : s.vm.findClass own = some m.cls) (hI : g_at A V g D cT f n s H locs) (hc : vwCl[ci]? = some (C, T, N)) {k : Nat} (hk : k < N) (hlink : Cond.fieldLink own index ref (T k).2.1 (T k).2.2.1 ∈ g_B) (hsame : ∀ x, s.fieldFound? (T k).1 (T k).2.1 (T k).2.2.1 = some x → s.fieldFound? ref (T k).2.1 (T k).2.2.1 = some x)
    {a v : Nat} (hq : h_gr f a ci k = some v) (hdg : decode cc pc = .ok (.getfield index, 3)) (kk : W p l e R s m args below meth c H locs cells slots Q (F0 m (pc + 3) ls (.ref v :: rest))) : W p l e R s m args below meth c H locs cells slots Q (F0 m pc ls (.ref a :: rest)) := by
  obtain ⟨fs, he, hv⟩ := h_gr_eq hq
  exact fa_get hexec hb hB hin hown hI hc hk hlink hsame he hv hdg kk
/-- the heap behind a write -/
theorem g_wrote (hI : g_at (g_A V) V g D cT f n s H locs) {a k : Nat} {e0 e1 : GE} {H1 : Heap} (he : f a = some e0) (h1 : va_at D vwCl (a, g_cv cT e1) H1) (z : H1.size = H.size) (oq : ∀ q : Nat, q ≠ a → H1[q]? = H[q]?) : g_at (g_A V) V g D cT (h_up f a e1) n s H1 (locs ++ [⟨a, k⟩]) := by
  obtain ⟨q1, q2, q3, q4, q5, q6, q7, q8⟩ := hI
  refine ⟨by rw [z]; exact q1, q2, fun b e hb => ?_, q4, q5, q6, q7.put z oq (q3 a e0 he).1, q8⟩
  by_cases hba : b = a
  · subst hba
    rw [h_up_s] at hb
    cases hb
    exact ⟨(q3 b e0 he).1, h1⟩
  · rw [h_up_n _ _ hba] at hb
    exact ⟨(q3 b e hb).1, (q3 b e hb).2.kept (oq b hba)⟩
theorem fa_pt (hexec : p.tables.exec = Jvm.exec) (hb : c.code = cc) (hB : ∀ w ∈ g_B, w.before args s = true) {own ref C : String} {T : u_T} {N ci index : Nat} (hin : ∀ w ∈ u_ws C T N, w ∈ g_B) {ty0 : Nat → FieldType} (hty : ∀ k, k < N → parseFieldDescriptor (T k).2.2.1 = some (ty0 k)) (hnm : ∀ a, a < N → ∀ b, b < N → a ≠ b → (T a).2.1 ≠ (T b).2.1) (hown : s.vm.findClass own = some m.cls) (hI : g_at (g_A V) V g D cT f n s H locs) (hc : vwCl[ci]? = some (C, T, N)) {k : Nat} (hk : k < N) (hlink : Cond.fieldLink own index ref (T k).2.1 (T k).2.2.1 ∈ g_B) (hsame : ∀ x, s.fieldFound? (T k).1 (T k).2.1 (T k).2.2.1 = some x → s.fieldFound? ref (T k).2.1 (T k).2.2.1 = some x)
    (hfin : (T k).2.2.2 = false) {v : Value} (hn : narrow (ty0 k) v = v) (hfit : fits (ty0 k) v = true) {a : Nat} (hq : h_pt f a ci k v = some f1) (hdg : decode cc pc = .ok (.putfield index, 3)) (kk : ∀ (H1 : Heap) (locs1 : List Loc), g_at (g_A V) V g D cT f1 n s H1 locs1 → W p l e R s m args below meth c H1 locs1 cells slots Q (F0 m (pc + 3) ls rest)) : W p l e R s m args below meth c H locs cells slots Q (F0 m pc ls (v :: .ref a :: rest)) := by
  obtain ⟨fs, he, hl, rfl⟩ := h_pt_eq hq
  have hK := hI.2.2.2.2.1
  have hap := va_apart (own := own) hB hin ty0 hty hnm hK hc
  obtain ⟨r, h1, cell, q1, q2, q3, q4⟩ := (hI.2.2.1 a _ he).2
  have hr : r = (C, T, N) := Option.some.inj (h1.symm.trans hc)
  subst hr
  obtain ⟨hS, hfc, kC, hkC, hkind⟩ := hK.1 ci _ hc
  obtain ⟨cf, kf, fi, fd, hi, hsl⟩ := hS k hk
  have hlay := hB _ (hin _ (u_in_lay hk))
  unfold u_lay at hlay
  rw [if_neg (by rw [hfin]; decide)] at hlay
  have hst := (u_facts hfc hkC (u_lays hB hin hk) hi).1
  have h6 := u_store hfc hkC hkind hlay hi (hty k hk) hn hfit
  refine W.putK hexec hb (f := fd) ⟨hown, hB _ hlink, ⟨_, _, _, hsame _ hi⟩, hst⟩ (by rw [q2]; exact h6) q1 q3 (by rw [hsl]; exact k2_hasslot (q4 k hk)) rfl rfl hdg fun H' e1 e2 e3 => ?_
  rw [hsl] at e1 ⊢
  exact kk H' _ (g_wrote hI he ⟨_, hc, t_OB.to (V := updV (vp_V fs) k v) ⟨_, e1, q2, q3, t_set q4 hap hk v⟩ (fun j _ => vp_updV_set hl v j)⟩ e2 e3)
theorem fa_ptF (hexec : p.tables.exec = Jvm.exec) (hb : c.code = cc) (hB : ∀ w ∈ g_B, w.before args s = true) {own ref C : String} {T : u_T} {N ci index : Nat} (hin : ∀ w ∈ u_ws C T N, w ∈ g_B) {ty0 : Nat → FieldType} (hty : ∀ k, k < N → parseFieldDescriptor (T k).2.2.1 = some (ty0 k)) (hnm : ∀ a, a < N → ∀ b, b < N → a ≠ b → (T a).2.1 ≠ (T b).2.1) (hown : s.vm.findClass own = some m.cls) (hI : g_at (g_A V) V g D cT f n s H locs) (hc : vwCl[ci]? = some (C, T, N)) {k : Nat} (hk : k < N) (hlink : Cond.fieldLink own index ref (T k).2.1 (T k).2.2.1 ∈ g_B) (hsame : ∀ x, s.fieldFound? (T k).1 (T k).2.1 (T k).2.2.1 = some x → s.fieldFound? ref (T k).2.1 (T k).2.2.1 = some x)
    (hfin : (T k).2.2.2 = true) (hin2 : meth.name = "<init>") (hdecl : (T k).1 = own) {v : Value} (hn : narrow (ty0 k) v = v) (hfit : fits (ty0 k) v = true) {a : Nat} (hq : h_pt f a ci k v = some f1) (hdg : decode cc pc = .ok (.putfield index, 3)) (kk : ∀ (H1 : Heap) (locs1 : List Loc), g_at (g_A V) V g D cT f1 n s H1 locs1 → W p l e R s m args below meth c H1 locs1 cells slots Q (F0 m (pc + 3) ls rest)) : W p l e R s m args below meth c H locs cells slots Q (F0 m pc ls (v :: .ref a :: rest)) := by
  obtain ⟨fs, he, hl, rfl⟩ := h_pt_eq hq
  have hK := hI.2.2.2.2.1
  have hap := va_apart (own := own) hB hin ty0 hty hnm hK hc
  obtain ⟨r, h1, cell, q1, q2, q3, q4⟩ := (hI.2.2.1 a _ he).2
  have hr : r = (C, T, N) := Option.some.inj (h1.symm.trans hc)
  subst hr
  obtain ⟨hS, hfc, kC, hkC, hkind⟩ := hK.1 ci _ hc
  obtain ⟨cf, kf, fi, fd, hi, hsl⟩ := hS k hk
  have hlay := hB _ (hin _ (u_in_lay hk))
  unfold u_lay at hlay
  rw [if_pos hfin] at hlay
  have hst := (u_facts hfc hkC (u_lays hB hin hk) hi).1
  have hcf : m.cls = cf := by
    obtain ⟨_, _, c', _, _, _, -, -, hf', -, -, -, hown2, -⟩ := Cond.laysFinal_spec hlay
    have e1 : c' = cf := by have := hi.symm.trans hf'; simp at this; exact this.1.symm
    rw [hdecl] at hown2
    rw [← e1]; exact Option.some.inj (hown.symm.trans hown2)
  have h6 := u_fits hfc hkC hkind (Or.inr hlay) hi (hty k hk) hn hfit
  refine W.putFinK hexec hb hown (hB _ hlink) (hsame _ hi) hst hcf hin2 (by rw [q2]; exact h6) q1 q3 (by rw [hsl]; exact k2_hasslot (q4 k hk)) rfl rfl hdg fun H' e1 e2 e3 => ?_
  rw [hsl] at e1 ⊢
  exact kk H' _ (g_wrote hI he ⟨_, hc, t_OB.to (V := updV (vp_V fs) k v) ⟨_, e1, q2, q3, t_set q4 hap hk v⟩ (fun j _ => vp_updV_set hl v j)⟩ e2 e3)
theorem fa_li (hexec : p.tables.exec = Jvm.exec) (hb : c.code = cc) (hI : g_at A V g D cT f n s H locs) {a : Nat} {i v : Int32} (hq : h_li f a 0 i = some v) (hdg : decode cc pc = .ok (.iaload, 1)) (kk : W p l e R s m args below meth c H locs cells slots Q (F0 m (pc + 1) ls (.int v :: rest))) : W p l e R s m args below meth c H locs cells slots Q (F0 m pc ls (.int i :: .ref a :: rest)) := by
  obtain ⟨N, r, he, hi, rfl⟩ := h_li_eq hq
  exact va_iald hexec hb hI.2.2.2.2.1 (g_one hI he) 0 0 rfl (g_tys_at cT (t := 0) (by decide)) hi hdg kk
theorem fa_lb (hexec : p.tables.exec = Jvm.exec) (hb : c.code = cc) (hI : g_at A V g D cT f n s H locs) {a : Nat} {i v : Int32} (hq : h_li f a 1 i = some v) (hdg : decode cc pc = .ok (.baload, 1)) (kk : W p l e R s m args below meth c H locs cells slots Q (F0 m (pc + 1) ls (.int v :: rest))) : W p l e R s m args below meth c H locs cells slots Q (F0 m pc ls (.int i :: .ref a :: rest)) := by
  obtain ⟨N, r, he, hi, rfl⟩ := h_li_eq hq
  exact va_bald hexec hb hI.2.2.2.2.1 (g_one hI he) 0 1 rfl (g_tys_at cT (t := 1) (by decide)) hi hdg kk
theorem fa_si (hexec : p.tables.exec = Jvm.exec) (hb : c.code = cc) (hI : g_at (g_A V) V g D cT f n s H locs) {a : Nat} {i v : Int32} (hq : h_si f a 0 i v = some f1) (hdg : decode cc pc = .ok (.iastore, 1)) (kk : ∀ (H1 : Heap) (locs1 : List Loc), g_at (g_A V) V g D cT f1 n s H1 locs1 → W p l e R s m args below meth c H1 locs1 cells slots Q (F0 m (pc + 1) ls rest)) : W p l e R s m args below meth c H locs cells slots Q (F0 m pc ls (.int v :: .int i :: .ref a :: rest)) := by
  obtain ⟨N, r, he, hi, rfl⟩ := h_si_eq hq
  have hc : H[a]? = some (vp_cell (cT 0) (N, .inl r)) := (hI.2.2.1 a _ he).2
  refine W.iast hexec hb hc ((hI.2.2.2.2.1.2 0 _ (g_tys_at cT (t := 0) (by decide))).1 N (fun j => .int (r j))) (fun q => by cases q) (by show ¬ (i < 0 ∨ (arrV _ _ _).slots.size ≤ _); rw [arrV_size]; exact hi) rfl rfl hdg fun H1 e z oq => ?_
  refine kk H1 _ (g_wrote hI he ?_ z oq)
  show H1[a]? = some (vp_cell _ _)
  rw [e]
  rw [vp_cell_i, vp_cell_i, arrV_store]
  congr 2
  funext q
  by_cases hq : q = i.toNatClampNeg
  · subst hq
    simp [updV, upd]
  · simp [updV, upd, hq]
theorem fa_al (hexec : p.tables.exec = Jvm.exec) (hb : c.code = cc) (hI : g_at A V g D cT f n s H locs) {a t : Nat} (ht : t < 8) {v : Int32} (hq : h_al f a t = some v) (hdg : decode cc pc = .ok (.arraylength, 1)) (kk : W p l e R s m args below meth c H locs cells slots Q (F0 m (pc + 1) ls (.int v :: rest))) : W p l e R s m args below meth c H locs cells slots Q (F0 m pc ls (.ref a :: rest)) := by
  obtain ⟨x, he, hv⟩ := h_al_eq hq
  exact va_alen hexec hb hI.2.2.2.2.1 (g_one hI he) 0 t rfl (g_tys_at cT ht) hv hdg kk
theorem fa_lq (hexec : p.tables.exec = Jvm.exec) (hb : c.code = cc) (hI : g_at A V g D cT f n s H locs) {a t v : Nat} {i : Int32} (ht : t < 8) {C : String} (hC : g_tyn t = .object C) (hq : h_lq f a t i = some v) (hdg : decode cc pc = .ok (.aaload, 1)) (kk : W p l e R s m args below meth c H locs cells slots Q (F0 m (pc + 1) ls (.ref v :: rest))) : W p l e R s m args below meth c H locs cells slots Q (F0 m pc ls (.int i :: .ref a :: rest)) := by
  obtain ⟨N, r, he, hi, hv⟩ := h_lq_eq hq
  refine va_aldq hexec hb hI.2.2.2.2.1 (g_one hI he) 0 t (C := C) rfl (by rw [g_tys_at cT ht, hC]) hi hdg ?_
  rw [hv]
  exact kk
theorem fa_sq (hexec : p.tables.exec = Jvm.exec) (hb : c.code = cc) (hI : g_at (g_A V) V g D cT f n s H locs) {a t v ci : Nat} {i : Int32} (ht : t < 8) {q : vw_C} (hc : vwCl[ci]? = some q) (hC : g_tyn t = .object q.1) (hq : h_sq f a t ci i v = some f1) (hdg : decode cc pc = .ok (.aastore, 1)) (kk : ∀ (H1 : Heap) (locs1 : List Loc), g_at (g_A V) V g D cT f1 n s H1 locs1 → W p l e R s m args below meth c H1 locs1 cells slots Q (F0 m (pc + 1) ls rest)) : W p l e R s m args below meth c H locs cells slots Q (F0 m pc ls (.ref v :: .int i :: .ref a :: rest)) := by
  obtain ⟨N, r, fs, he, hv, hi, rfl⟩ := h_sq_eq hq
  have hK := hI.2.2.2.2.1
  have hce : H[a]? = some (vp_cell (cT t) (N, .inr (.inr (.inr (.inr r))))) := (hI.2.2.1 a _ he).2
  have hlt : i.toNatClampNeg < N := Nat.not_le.mp fun q => hi (Or.inr q)
  have h0 : ¬ i < 0 := fun q => hi (Or.inl q)
  obtain ⟨r', hr', cellV, g1, g2, g3, -⟩ := (hI.2.2.1 v _ hv).2
  have hcls := (hK.1 ci q hc).2
  have hk2 := (hK.2 t _ (g_tys_at cT ht)).2
  rw [hC] at hk2
  obtain ⟨kA, comp, k1, k2, k3, -⟩ := hk2
  have hcomp : comp = D.1 ci := Option.some.inj (k3.symm.trans hcls.1)
  subst hcomp
  obtain ⟨kC, hkC, -⟩ := hcls.2
  refine W.aast hexec hb hce (fun q h => by cases h) (fun h => by cases h) k1 k2 rfl hkC ⟨h0, by show _ < (arrV _ _ _).slots.size; rw [arrV_size]; exact hlt⟩ g1 (fun q h => by rw [g3] at h; cases h) (by rw [g2]; exact hkC) (by rw [g2]; exact va_assign hcls) rfl rfl hdg fun H1 e z oq => ?_
  refine kk H1 _ (g_wrote hI he ?_ z oq)
  show H1[a]? = some (vp_cell _ _)
  rw [e]
  rw [vp_cell_q, vp_cell_q, arrV_store]
  congr 2
  funext q
  by_cases hq : q = i.toNatClampNeg
  · subst hq
    simp [updV, va_up, va_rf]
  · simp [updV, va_up, hq]
/-- System.arraycopy, ints -/
theorem fa_cp (hexec : p.tables.exec = Jvm.exec) (hb : c.code = cc) (hml : c.maxLocals = ls.size) (hB : ∀ w ∈ g_B, w.before args s = true) {own : String} {index : Nat} (hown : s.vm.findClass own = some m.cls) (hlink : Cond.methodLink own index arraycopyName ∈ g_B) (hnat : Cond.native arraycopyName ∈ g_B) (hstat : Cond.static arraycopyName ∈ g_B) (hini : Cond.initialized "java/lang/System" ∈ g_B)
    (hI : g_at (g_A V) V g D cT f n s H locs) {a0 a : Nat} {sp dp k : Int32} (hq : h_cp f 0 a0 sp a dp k = some f1) (hframes : 1 ≤ R.frames) (hlocals : (rest.map fun v => v.category).sum + (nativeFrameWords "java/lang/System" "arraycopy" 5 + 11) ≤ R.locals) (hdg : decode cc pc = .ok (.invokestatic index, 3))
    (kk : ∀ (H1 : Heap) (locs1 : List Loc), g_at (g_A V) V g D cT f1 n s H1 locs1 → W p l e R s m args below meth c H1 locs1 cells slots Q (F0 m (pc + 3) ls rest)) : W p l e R s m args below meth c H locs cells slots Q (F0 m pc ls (.int k :: .int dp :: .ref a :: .int sp :: .ref a0 :: rest)) := by
  obtain ⟨n0, r0, n1, r1, he0, he, h1, h2, h3, h4, h5, rfl⟩ := h_cp_eq hq
  have nn : ∀ z : Int32, ¬ z < 0 → z.toInt = (z.toNatClampNeg : Int) := by
    intro z hz
    have hz0 : (0 : Int) ≤ z.toInt := by
      have := Int32.not_lt.mp hz
      simpa using Int32.le_iff_toInt_le.mp this
    show z.toInt = ((z.toInt.toNat : Nat) : Int)
    omega
  have hK := hI.2.2.2.2.1
  intro T hT X
  have hc0 : H[a0]? = some (vp_cell (cT 0) (n0, .inl r0)) := (hI.2.2.1 a0 _ he0).2
  have hc1 : H[a]? = some (vp_cell (cT 0) (n1, .inl r1)) := (hI.2.2.1 a _ he).2
  obtain ⟨-, k0, hk0, cm0, hkk0⟩ := (hK.2 0 _ (g_tys_at cT (t := 0) (by decide))).1 n0 (fun j => .int (r0 j))
  obtain ⟨-, k1, hk1, cm1, hkk1⟩ := (hK.2 0 _ (g_tys_at cT (t := 0) (by decide))).1 n1 (fun j => .int (r1 j))
  obtain ⟨vm', X', step⟩ := X.arraycopy hexec hown (hB _ hlink) (hB _ hnat) (hB _ hstat) (hB _ hini) (src := a0) (dst := a) (cs := vp_cell (cT 0) (n0, .inl r0)) (cd := vp_cell (cT 0) (n1, .inl r1)) (srcPos := sp) (destPos := dp) (n := k) (by rw [hT]; exact hc0) (by rw [hT]; exact hc1)
    (fun _ h => by cases h) (fun _ h => by cases h) (fun h => by cases h) (fun h => by cases h) hk0 hk1 hkk0 hkk1 (by simp [g_tyn, refKind]) h1 h2 h3
    (by rw [nn sp h1, nn k h3]; show ¬ _ > ((arrV (cT 0) n0 (fun j => .int (r0 j))).slots.size : Int); rw [arrV_size]; omega)
    (by rw [nn dp h2, nn k h3]; show ¬ _ > ((arrV (cT 0) n1 (fun j => .int (r1 j))).slots.size : Int); rw [arrV_size]; omega)
    (fun vm₁ _ i hi => by
      have e : (vp_cell (cT 0) (n0, .inl r0)).slots.getD (sp.toNatClampNeg + i) .null = .int (r0 (sp.toNatClampNeg + i)) := by
        show (arrV (cT 0) n0 (fun j => .int (r0 j))).slots.getD _ _ = _
        rw [Array.getD_eq_getD_getElem?, arrV_read _ _ (by omega)]
        rfl
      exact ⟨by rw [e]; rfl, by rw [e]; exact trivial⟩)
    (g := F0 m pc ls (.int k :: .int dp :: .ref a :: .int sp :: .ref a0 :: rest)) rfl (by rw [hml]) (rest := rest) rfl (by rw [hb]; exact hdg) hframes (by show 2 * 0 + _ + _ ≤ _; omega)
  have e1 : copied (vp_cell (cT 0) (n0, .inl r0)) (vp_cell (cT 0) (n1, .inl r1)) sp dp k = vp_cell (cT 0) (n1, .inl (va_cpy r0 r1 sp.toNatClampNeg dp.toNatClampNeg k.toNatClampNeg)) := va_copied (fun z => .int z) (cT 0) (cT 0) r0 r1 h4
  rw [e1] at X' step
  have hl : a < H.size := (Array.getElem?_eq_some_iff.mp hc1).1
  have hheap : ((T.setVm vm').setCell a (vp_cell (cT 0) (n1, .inl (va_cpy r0 r1 sp.toNatClampNeg dp.toNatClampNeg k.toNatClampNeg)))).heap = H.setIfInBounds a (vp_cell (cT 0) (n1, .inl (va_cpy r0 r1 sp.toNatClampNeg dp.toNatClampNeg k.toNatClampNeg))) := by rw [← hT]; rfl
  have oq : ∀ q : Nat, q ≠ a → (H.setIfInBounds a (vp_cell (cT 0) (n1, .inl (va_cpy r0 r1 sp.toNatClampNeg dp.toNatClampNeg k.toNatClampNeg))))[q]? = H[q]? := fun q hq => by simp [Array.getElem?_setIfInBounds, Ne.symm hq]
  have hw := g_wrote (k := 0) (e1 := .inl (0, n1, .inl (va_cpy r0 r1 sp.toNatClampNeg dp.toNatClampNeg k.toNatClampNeg))) hI he (show (H.setIfInBounds a _)[a]? = some _ by simp [Array.getElem?_setIfInBounds, hl]) (by simp) oq
  obtain ⟨t, a1, b1⟩ := kk _ _ ⟨hw.1, hw.2.1, hw.2.2.1, hw.2.2.2.1, hw.2.2.2.2.1, hw.2.2.2.2.2.1, ⟨hw.2.2.2.2.2.2.1.1, hw.2.2.2.2.2.2.1.2.1, fun q hq => by
      rcases List.mem_append.mp hq with h | h
      · exact hI.2.2.2.2.2.2.1.2.2 q h
      · obtain ⟨z, -, hz⟩ := List.mem_map.mp h
        rw [← hz]
        exact (hI.2.2.1 a _ he).1⟩, hw.2.2.2.2.2.2.2⟩ _ hheap X'
  exact ⟨t, step t a1, b1⟩
end FA
