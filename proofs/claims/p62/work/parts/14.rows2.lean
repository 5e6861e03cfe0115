/-! ===== further rows ===== -/
def h_ddiv (x y : UInt64) : Option UInt64 := if FP.ddiv x y &&& 0x7fffffffffffffff ≤ 0x7ff0000000000000 then some (FP.ddiv x y) else none
theorem h_ddiv_eq {x y v : UInt64} (h : h_ddiv x y = some v) : v = FP.ddiv x y ∧ vf_n64 (FP.ddiv x y) := by
  unfold h_ddiv at h
  split at h
  · rename_i hc
    cases h
    exact ⟨rfl, hc⟩
  · cases h
def h_fdiv (x y : UInt32) : Option UInt32 := if FP.fdiv x y &&& 0x7fffffff ≤ 0x7f800000 then some (FP.fdiv x y) else none
theorem h_fdiv_eq {x y v : UInt32} (h : h_fdiv x y = some v) : v = FP.fdiv x y ∧ vf_n32 (FP.fdiv x y) := by
  unfold h_fdiv at h
  split at h
  · rename_i hc
    cases h
    exact ⟨rfl, hc⟩
  · cases h
def h_yz (v : Int32) : Option Int32 := if v.toInt8.toInt32 = v then some v else none
theorem h_yz_eq {v w : Int32} (h : h_yz v = some w) : w = v ∧ narrow .byte (.int v) = .int v ∧ fits .byte (.int v) = true := by
  unfold h_yz at h
  split at h
  · rename_i hv
    cases h
    refine ⟨rfl, congrArg Value.int hv, ?_⟩
    have := pk_fb v
    rw [hv] at this
    exact this
  · cases h
def h_cz (v : Int32) : Option Int32 := if (v.toUInt32 % 65536).toInt32 = v then some v else none
theorem h_cz_eq {v w : Int32} (h : h_cz v = some w) : w = v ∧ narrow .char (.int v) = .int v ∧ fits .char (.int v) = true := by
  unfold h_cz at h
  split at h
  · rename_i hv
    cases h
    have h1 := pk_nc v
    have h2 := pk_fc v
    rw [hv] at h1 h2
    exact ⟨rfl, h1, h2⟩
  · cases h
/-- a byte laid into an array of bytes -/
def h_sb (f : GH) (a t : Nat) (i v : Int32) : Option GH := h_si f a t i v.toInt8.toInt32
def h_sl (f : GH) (a t : Nat) (i : Int32) (v : Int64) : Option GH := match h_ar f a t with
  | some (n, .inr (.inl r)) => if h_in i n then some (h_up f a (.inl (t, n, .inr (.inl (vp_updL r i.toNatClampNeg v))))) else none
  | _ => none
theorem h_sl_eq {f f1 : GH} {a t : Nat} {i : Int32} {v : Int64} (h : h_sl f a t i v = some f1) : ∃ n r, f a = some (.inl (t, n, .inr (.inl r))) ∧ vp_in i n ∧ f1 = h_up f a (.inl (t, n, .inr (.inl (vp_updL r i.toNatClampNeg v)))) := by
  unfold h_sl at h
  split at h
  · rename_i n r hx
    split at h
    · rename_i hi
      cases h
      exact ⟨n, r, h_ar_eq hx, h_in_eq hi, rfl⟩
    · cases h
  · cases h
def h_ll (f : GH) (a t : Nat) (i : Int32) : Option Int64 := match h_ar f a t with
  | some (n, .inr (.inl r)) => if h_in i n then some (r i.toNatClampNeg) else none
  | _ => none
theorem h_ll_eq {f : GH} {a t : Nat} {i : Int32} {v : Int64} (h : h_ll f a t i = some v) : ∃ n r, f a = some (.inl (t, n, .inr (.inl r))) ∧ vp_in i n ∧ v = r i.toNatClampNeg := by
  unfold h_ll at h
  split at h
  · rename_i n r hx
    split at h
    · rename_i hi
      cases h
      exact ⟨n, r, h_ar_eq hx, h_in_eq hi, rfl⟩
    · cases h
  · cases h
def h_upD (r : Nat → UInt64) (k : Nat) (v : UInt64) : Nat → UInt64 := fun j => if j = k then v else r j
def h_sd (f : GH) (a t : Nat) (i : Int32) (v : UInt64) : Option GH := match h_ar f a t with
  | some (n, .inr (.inr (.inr (.inl r)))) => if h_in i n then some (h_up f a (.inl (t, n, .inr (.inr (.inr (.inl (h_upD r i.toNatClampNeg v))))))) else none
  | _ => none
theorem h_sd_eq {f f1 : GH} {a t : Nat} {i : Int32} {v : UInt64} (h : h_sd f a t i v = some f1) : ∃ n r, f a = some (.inl (t, n, .inr (.inr (.inr (.inl r))))) ∧ vp_in i n ∧ f1 = h_up f a (.inl (t, n, .inr (.inr (.inr (.inl (h_upD r i.toNatClampNeg v)))))) := by
  unfold h_sd at h
  split at h
  · rename_i n r hx
    split at h
    · rename_i hi
      cases h
      exact ⟨n, r, h_ar_eq hx, h_in_eq hi, rfl⟩
    · cases h
  · cases h
def h_ld (f : GH) (a t : Nat) (i : Int32) : Option UInt64 := match h_ar f a t with
  | some (n, .inr (.inr (.inr (.inl r)))) => if h_in i n then some (r i.toNatClampNeg) else none
  | _ => none
theorem h_ld_eq {f : GH} {a t : Nat} {i : Int32} {v : UInt64} (h : h_ld f a t i = some v) : ∃ n r, f a = some (.inl (t, n, .inr (.inr (.inr (.inl r))))) ∧ vp_in i n ∧ v = r i.toNatClampNeg := by
  unfold h_ld at h
  split at h
  · rename_i n r hx
    split at h
    · rename_i hi
      cases h
      exact ⟨n, r, h_ar_eq hx, h_in_eq hi, rfl⟩
    · cases h
  · cases h
/-- a static object laid into an array of texts: nobody asks which -/
def h_sqs (g f : GH) (a t : Nat) (i : Int32) (v : Nat) : Option GH := match h_aq f a t, g v with
  | some x, some (.inr o) => if h_in i x.1 then (if g_tyn t = .object (g_cn o.1) then some (h_up f a (.inl (t, x.1, .inr (.inr (.inr (.inr (va_up x.2 i.toNatClampNeg (some v)))))))) else none) else none
  | _, _ => none
theorem h_sqs_eq {g f f1 : GH} {a t v : Nat} {i : Int32} (h : h_sqs g f a t i v = some f1) : ∃ n r o, f a = some (.inl (t, n, .inr (.inr (.inr (.inr r))))) ∧ g v = some (.inr o) ∧ g_tyn t = .object (g_cn o.1) ∧ vp_in i n ∧ f1 = h_up f a (.inl (t, n, .inr (.inr (.inr (.inr (va_up r i.toNatClampNeg (some v))))))) := by
  unfold h_sqs at h
  split at h
  · rename_i x o hx ho
    split at h
    · rename_i hi
      split at h
      · rename_i hc
        cases h
        exact ⟨x.1, x.2, o, h_aq_eq hx, ho, hc, h_in_eq hi, rfl⟩
      · cases h
    · cases h
  · cases h
section FB
variable {p : Program} {l : Launch} {e : Env} {R : Room} {s : State} {m : MethodId} {args : Array Value} {below : List Frame} {meth : Method} {c : Code} {H : Heap} {locs : List Loc} {cells slots : Nat} {Q : State → Prop}
variable {cc : ByteArray} {pc : Nat} {ls : Array Slot} {rest : List Value} {A : Nat → Prop} {V : Nat → Nat} {g f f1 : GH} {D : va_G} {cT : Nat → ClassId} {n : Nat}
-- references that may be null
theorem lv_aload_nN2 (hx : p.tables.exec = Jvm.exec) (hb : c.code = cc) {k : Fin 4} {i : Nat} {x : Option Nat} (hdg : decode cc pc = .ok (.aload_n k, 1)) (hi : (k : Nat) = i) (hl : ls[i]? = some (.val (va_rf x))) (kk : W p l e R s m args below meth c H locs cells slots Q (F0 m (pc + 1) ls (va_rf x :: rest))) : W p l e R s m args below meth c H locs cells slots Q (F0 m pc ls rest) := by
  cases x with
  | none => exact lv_aload_nN hx hb hdg hi hl kk
  | some x => exact lv_aload_n hx hb hdg hi hl kk
theorem lv_aloadN2 (hx : p.tables.exec = Jvm.exec) (hb : c.code = cc) {i : Nat} {x : Option Nat} (hdg : decode cc pc = .ok (.aload i, 2)) (hl : ls[i]? = some (.val (va_rf x))) (kk : W p l e R s m args below meth c H locs cells slots Q (F0 m (pc + 2) ls (va_rf x :: rest))) : W p l e R s m args below meth c H locs cells slots Q (F0 m pc ls rest) := by
  cases x with
  | none => exact lv_aloadN hx hb hdg hl kk
  | some x => exact lv_aload hx hb hdg hl kk
theorem lv_astore_nN2 (hx : p.tables.exec = Jvm.exec) (hb : c.code = cc) {k : Fin 4} {i nL : Nat} {x : Option Nat} {lv lv' : List (Nat × Value)} (hdg : decode cc pc = .ok (.astore_n k, 1)) (hi : (k : Nat) = i) (h : lv_has ls nL lv) (hn : i < nL) (hl : (i, va_rf x) :: lv.filter (fun q => !(q.1 == i) && !(q.1 + 1 == i && q.2.category == 2)) = lv')
    (kk : ∀ ls' : Array Slot, lv_has ls' nL lv' → W p l e R s m args below meth c H locs cells slots Q (F0 m (pc + 1) ls' rest)) : W p l e R s m args below meth c H locs cells slots Q (F0 m pc ls (va_rf x :: rest)) := by
  cases x with
  | none => exact lv_astore_nN hx hb hdg hi h hn hl kk
  | some x => exact lv_astore_n hx hb hdg hi h hn hl kk
theorem lv_astoreN2 (hx : p.tables.exec = Jvm.exec) (hb : c.code = cc) {i nL : Nat} {x : Option Nat} {lv lv' : List (Nat × Value)} (hdg : decode cc pc = .ok (.astore i, 2)) (h : lv_has ls nL lv) (hn : i < nL) (hl : (i, va_rf x) :: lv.filter (fun q => !(q.1 == i) && !(q.1 + 1 == i && q.2.category == 2)) = lv')
    (kk : ∀ ls' : Array Slot, lv_has ls' nL lv' → W p l e R s m args below meth c H locs cells slots Q (F0 m (pc + 2) ls' rest)) : W p l e R s m args below meth c H locs cells slots Q (F0 m pc ls (va_rf x :: rest)) := by
  cases x with
  | none => exact lv_astoreN hx hb hdg h hn hl kk
  | some x => exact lv_astore hx hb hdg h hn hl kk
theorem lv_nullN (hx : p.tables.exec = Jvm.exec) (hb : c.code = cc) (hdg : decode cc pc = .ok (.aconst_null, 1)) (kk : W p l e R s m args below meth c H locs cells slots Q (F0 m (pc + 1) ls (va_rf none :: rest))) : W p l e R s m args below meth c H locs cells slots Q (F0 m pc ls rest) := lv_null hx hb hdg kk
-- statics, texts, static cells
theorem g_inA (hI : g_at A V g D cT f n s H locs) : ∀ q, A q → g_A V q := hI.2.2.2.2.2.2.2
theorem g_rtx (hI : g_at A V g D cT f n s H locs) {i : Nat} {q : String × Nat × String × Nat} (h : g_rt[i]? = some q) : vk_R q.1 q.2.1 q.2.2.1 (V q.2.2.2) s := hI.2.2.2.2.2.1.2.1 q (List.mem_of_getElem? h)
theorem g_aox (hI : g_at A V g D cT f n s H locs) {i : Nat} {C : String} (h : g_ao[i]? = some C) : va_AO C s := hI.2.2.2.2.2.1.2.2.2.2.2.1 C (List.mem_of_getElem? h)
theorem g_ncx (hI : g_at A V g D cT f n s H locs) {i : Nat} {q : String × String} (h : g_nc[i]? = some q) : va_Nc q.1 q.2 s := hI.2.2.2.2.2.1.2.2.2.2.2.2 q (List.mem_of_getElem? h)
/-- the words of a throw: good ones, or such as are handed on beside -/
theorem g_hat (hB : ∀ w ∈ g_B, w.before args s = true) (hI : g_at A V g D cT f n s H locs) {L : List Cond} (h : ∀ w ∈ L, w ∈ g_B ∨ w ∈ g_nw) : ∀ w ∈ L, w.before args s = true := by
  intro w hw
  rcases h w hw with h | h
  · exact hB w h
  · exact va_Nw.use (g_nw_on w h) (hI.2.2.2.2.2.1.2.2.1 w h)
theorem g_nwx (hI : g_at A V g D cT f n s H locs) {i : Nat} {w : Cond} (h : g_nw[i]? = some w) : va_Nw w s := hI.2.2.2.2.2.1.2.2.1 w (List.mem_of_getElem? h)
theorem lv_ldcS (hx : p.tables.exec = Jvm.exec) (hb : c.code = cc) {own tx : String} {index q : Nat} (hown : s.vm.findClass own = some m.cls) (hZ : vk_R own index tx q s) (hdg : decode cc pc = .ok (.ldc index, 2)) (kk : W p l e R s m args below meth c H locs cells slots Q (F0 m (pc + 2) ls (.ref q :: rest))) : W p l e R s m args below meth c H locs cells slots Q (F0 m pc ls rest) := va_ldcS hx hb hown hZ hdg kk
theorem fs_gs (hx : p.tables.exec = Jvm.exec) (hb : c.code = cc) {own ref : String} {index i : Nat} {q : String × String × String × ((Nat → Nat) → Value)} (hown : s.vm.findClass own = some m.cls) (hI : g_at A V g D cT f n s H locs) (h : g_zt[i]? = some q) (hlink : (Cond.fieldLink own index ref q.2.1 q.2.2.1).before args s = true) (hsame : ∀ x, s.fieldFound? q.1 q.2.1 q.2.2.1 = some x → s.fieldFound? ref q.2.1 q.2.2.1 = some x) (hdg : decode cc pc = .ok (.getstatic index, 3))
    (kk : W p l e R s m args below meth c H locs cells slots Q (F0 m (pc + 3) ls (q.2.2.2 V :: rest))) : W p l e R s m args below meth c H locs cells slots Q (F0 m pc ls rest) :=
  va_gets hx hb ((hI.2.2.2.2.2.1.1 q (List.mem_of_getElem? h)).narrow (g_inA hI)) hI.2.2.2.2.2.2.1 hown hlink hsame hdg kk
theorem fs_gsN (hx : p.tables.exec = Jvm.exec) (hb : c.code = cc) {own ref host : String} {index i j : Nat} {q : String × String × String × ((Nat → Nat) → Value)} (hown : s.vm.findClass own = some m.cls) (hI : g_at A V g D cT f n s H locs) (h : g_zt[i]? = some q) (hlink : g_nw[j]? = some (Cond.fieldLinkNest own index ref q.2.1 q.2.2.1 host)) (hsame : ∀ x, s.fieldFound? q.1 q.2.1 q.2.2.1 = some x → s.fieldFound? ref q.2.1 q.2.2.1 = some x) (hdg : decode cc pc = .ok (.getstatic index, 3))
    (kk : W p l e R s m args below meth c H locs cells slots Q (F0 m (pc + 3) ls (q.2.2.2 V :: rest))) : W p l e R s m args below meth c H locs cells slots Q (F0 m pc ls rest) :=
  va_getsN hx hb ((hI.2.2.2.2.2.1.1 q (List.mem_of_getElem? h)).narrow (g_inA hI)) hI.2.2.2.2.2.2.1 hown (va_Nw.use rfl (g_nwx hI hlink)) hsame hdg kk
theorem fs_of (hI : g_at A V g D cT f n s H locs) {a ci k : Nat} {fs : List Value} {v : Value} (he : gO g a = some (.inr (ci, fs))) (hv : fs[k]? = some v) : va_OF (g_sf ci k).1 (g_sf ci k).2.1 (g_sf ci k).2.2 v a A s s.heap := ((hI.2.2.2.1.2 a _ he).2 k v hv).narrow (g_inA hI)
theorem fs_gi (hx : p.tables.exec = Jvm.exec) (hb : c.code = cc) (hB : ∀ w ∈ g_B, w.before args s = true) {own ref : String} {index ci k : Nat} (hown : s.vm.findClass own = some m.cls) (hI : g_at A V g D cT f n s H locs) (hlink : Cond.fieldLink own index ref (g_sf ci k).2.1 (g_sf ci k).2.2 ∈ g_B) (hsame : ∀ x, s.fieldFound? (g_sf ci k).1 (g_sf ci k).2.1 (g_sf ci k).2.2 = some x → s.fieldFound? ref (g_sf ci k).2.1 (g_sf ci k).2.2 = some x)
    {a : Nat} {v : Int32} (hq : h_gi (gO g) a ci k = some v) (hdg : decode cc pc = .ok (.getfield index, 3)) (kk : W p l e R s m args below meth c H locs cells slots Q (F0 m (pc + 3) ls (.int v :: rest))) : W p l e R s m args below meth c H locs cells slots Q (F0 m pc ls (.ref a :: rest)) := by
  obtain ⟨fs, he, hv⟩ := h_gi_eq hq
  exact vk_getf hx hb (fs_of hI he hv) hI.2.2.2.2.2.2.1 hown (hB _ hlink) hsame hdg kk
theorem fs_gr (hx : p.tables.exec = Jvm.exec) (hb : c.code = cc) (hB : ∀ w ∈ g_B, w.before args s = true) {own ref : String} {index ci k : Nat} (hown : s.vm.findClass own = some m.cls) (hI : g_at A V g D cT f n s H locs) (hlink : Cond.fieldLink own index ref (g_sf ci k).2.1 (g_sf ci k).2.2 ∈ g_B) (hsame : ∀ x, s.fieldFound? (g_sf ci k).1 (g_sf ci k).2.1 (g_sf ci k).2.2 = some x → s.fieldFound? ref (g_sf ci k).2.1 (g_sf ci k).2.2 = some x)
    {a v : Nat} (hq : h_gr (gO g) a ci k = some v) (hdg : decode cc pc = .ok (.getfield index, 3)) (kk : W p l e R s m args below meth c H locs cells slots Q (F0 m (pc + 3) ls (.ref v :: rest))) : W p l e R s m args below meth c H locs cells slots Q (F0 m pc ls (.ref a :: rest)) := by
  obtain ⟨fs, he, hv⟩ := h_gr_eq hq
  exact vk_getf hx hb (fs_of hI he hv) hI.2.2.2.2.2.2.1 hown (hB _ hlink) hsame hdg kk
theorem fs_T (hI : g_at A V g D cT f n s H locs) {a t N : Nat} {x : vp_A} (he : gA g a = some (.inl (t, x))) (hN : x.1 = N) : va_T (g_tyn t) a N (g_val x) A s s.heap := by
  subst hN
  exact (show va_T (g_tyn t) a x.1 (g_val x) (g_A V) s s.heap from hI.2.2.2.1.1 a _ he).narrow (g_inA hI)
theorem fs_li (hx : p.tables.exec = Jvm.exec) (hb : c.code = cc) (hI : g_at A V g D cT f n s H locs) {a : Nat} {i v : Int32} (hq : h_li (gA g) a 0 i = some v) (hdg : decode cc pc = .ok (.iaload, 1)) (kk : W p l e R s m args below meth c H locs cells slots Q (F0 m (pc + 1) ls (.int v :: rest))) : W p l e R s m args below meth c H locs cells slots Q (F0 m pc ls (.int i :: .ref a :: rest)) := by
  obtain ⟨N, r, he, hi, rfl⟩ := h_li_eq hq
  exact va_ti hx hb (fs_T hI he rfl) hI.2.2.2.2.2.2.1 hi rfl hdg kk
theorem fs_lb (hx : p.tables.exec = Jvm.exec) (hb : c.code = cc) (hI : g_at A V g D cT f n s H locs) {a : Nat} {i v : Int32} (hq : h_li (gA g) a 1 i = some v) (hdg : decode cc pc = .ok (.baload, 1)) (kk : W p l e R s m args below meth c H locs cells slots Q (F0 m (pc + 1) ls (.int v :: rest))) : W p l e R s m args below meth c H locs cells slots Q (F0 m pc ls (.int i :: .ref a :: rest)) := by
  obtain ⟨N, r, he, hi, rfl⟩ := h_li_eq hq
  exact va_tb hx hb (fs_T hI he rfl) hI.2.2.2.2.2.2.1 hi rfl hdg kk
theorem fs_lq (hx : p.tables.exec = Jvm.exec) (hb : c.code = cc) (hI : g_at A V g D cT f n s H locs) {a t v : Nat} {i : Int32} (_ht : t < 9) {C : String} (hC : g_tyn t = .object C) (hq : h_lq (gA g) a t i = some v) (hdg : decode cc pc = .ok (.aaload, 1)) (kk : W p l e R s m args below meth c H locs cells slots Q (F0 m (pc + 1) ls (.ref v :: rest))) : W p l e R s m args below meth c H locs cells slots Q (F0 m pc ls (.int i :: .ref a :: rest)) := by
  obtain ⟨N, r, he, hi, hv⟩ := h_lq_eq hq
  have hT := fs_T hI he rfl
  rw [hC] at hT
  exact vb_tq hx hb hT hI.2.2.2.2.2.2.1 hi (v := .ref v) (show va_rf (r i.toNatClampNeg) = .ref v by rw [hv]; rfl) hdg kk
theorem fs_al (hx : p.tables.exec = Jvm.exec) (hb : c.code = cc) (hI : g_at A V g D cT f n s H locs) {a t : Nat} (_ht : t < 9) {v : Int32} (hq : h_al (gA g) a t = some v) (hdg : decode cc pc = .ok (.arraylength, 1)) (kk : W p l e R s m args below meth c H locs cells slots Q (F0 m (pc + 1) ls (.int v :: rest))) : W p l e R s m args below meth c H locs cells slots Q (F0 m pc ls (.ref a :: rest)) := by
  obtain ⟨x, he, hv⟩ := h_al_eq hq
  exact va_tlen hx hb (fs_T hI he rfl) hI.2.2.2.2.2.2.1 hv hdg kk
-- stores of other kinds
theorem fa_sb (hx : p.tables.exec = Jvm.exec) (hb : c.code = cc) (hI : g_at (g_A V) V g D cT f n s H locs) {a : Nat} {i v : Int32} (hq : h_sb f a 1 i v = some f1) (hdg : decode cc pc = .ok (.bastore, 1)) (kk : ∀ (H1 : Heap) (locs1 : List Loc), g_at (g_A V) V g D cT f1 n s H1 locs1 → W p l e R s m args below meth c H1 locs1 cells slots Q (F0 m (pc + 1) ls rest)) : W p l e R s m args below meth c H locs cells slots Q (F0 m pc ls (.int v :: .int i :: .ref a :: rest)) := by
  obtain ⟨N, r, he, hi, rfl⟩ := h_si_eq hq
  have hc : H[a]? = some (vp_cell (cT 1) (N, .inl r)) := (hI.2.2.1 a _ he).2
  refine W.bast hx hb hc ((hI.2.2.2.2.1.2 1 _ (g_tys_at cT (t := 1) (by decide))).1 N (fun j => .int (r j))) (fun q => by cases q) (by show ¬ (i < 0 ∨ (arrV _ _ _).slots.size ≤ _); rw [arrV_size]; exact hi) rfl rfl hdg fun H1 e z oq => ?_
  refine kk H1 _ (g_wrote hI he ?_ z oq)
  show H1[a]? = some (vp_cell _ _)
  rw [e]
  rw [vp_cell_i, vp_cell_i, arrV_store]
  congr 2
  funext q
  by_cases hq : q = i.toNatClampNeg
  · subst hq
    simp [updV, upd]
    rfl
  · simp [updV, upd, hq]
theorem g_made (hI : g_at (g_A V) V g D cT f n s H locs) {e1 : GE} {H1 : Heap} (h1 : va_at D vwCl (n, g_cv cT e1) H1) (z : H1.size = n + 1) (o : ∀ q : Nat, q < n → H1[q]? = H[q]?) : g_at (g_A V) V g D cT (h_up f n e1) (n + 1) s H1 locs := by
  obtain ⟨q1, q2, q3, q4, q5, q6, q7, q8⟩ := hI
  subst q1
  have hz := Nat.le_trans q2 q7.1
  refine ⟨z, q2, fun b e hb => ?_, q4, q5, q6, ⟨Nat.le_trans q7.1 (by omega), fun x h1 h2 => (o x (Nat.lt_of_lt_of_le h1 q7.1)).trans (q7.2.1 x h1 h2), q7.2.2⟩, q8⟩
  by_cases hba : b = H.size
  · subst hba
    rw [h_up_s] at hb
    cases hb
    exact ⟨hz, h1⟩
  · rw [h_up_n _ _ hba] at hb
    exact ⟨(q3 b e hb).1, (q3 b e hb).2.kept (o b (q3 b e hb).2.lt)⟩
theorem fa_new (hx : p.tables.exec = Jvm.exec) (hb : c.code = cc) (hB : ∀ w ∈ g_B, w.before args s = true) {own C : String} {T : u_T} {N ci index : Nat} (hin : ∀ w ∈ u_ws C T N, w ∈ g_B) {ty : Nat → FieldType} (hty : ∀ k, k < N → parseFieldDescriptor (T k).2.2.1 = some (ty k)) (hown : s.vm.findClass own = some m.cls) (hcl : Cond.classLink own index C ∈ g_B) (hinst : Cond.instantiable C N ∈ g_B) (hini : Cond.initialized C ∈ g_B)
    (hI : g_at (g_A V) V g D cT f n s H locs) (hc : vwCl[ci]? = some (C, T, N)) {fs : List Value} (hfs : ∀ j, j < N → defaultValue (ty j) = vp_V fs j) (hcells : cells + 1 ≤ R.cells) (hslots : slots + N ≤ R.slots) (hq : some (h_up f n (.inr (ci, fs))) = some f1) (hdg : decode cc pc = .ok (.new index, 3))
    (kk : ∀ (H1 : Heap) (locs1 : List Loc), g_at (g_A V) V g D cT f1 (n + 1) s H1 locs1 → W p l e R s m args below meth c H1 locs1 (cells + 1) (slots + N) Q (F0 m (pc + 3) ls (.ref n :: rest))) : W p l e R s m args below meth c H locs cells slots Q (F0 m pc ls rest) := by
  obtain rfl := Option.some.inj hq
  have hKn := hI.2.2.2.2.1.1 ci _ hc
  refine W.newcK hx hb hown (hB _ hcl) (hB _ hinst) (hB _ hini) rfl hdg hcells hslots hKn.2.1 hI.1 fun H1 kC hkC e1 z1 o1 => ?_
  exact kk H1 locs (g_made hI ⟨_, hc, (u_born ty hB hin hKn hkC e1 hty).to hfs⟩ z1 o1)
theorem fa_newa (hx : p.tables.exec = Jvm.exec) (hb : c.code = cc) (hB : ∀ w ∈ g_B, w.before args s = true) {atype : ArrayType} (harr : Cond.arrayClass (newarray.typeOf atype) ∈ g_B) {N t : Nat} (hty : newarray.typeOf atype = g_tyn t) (ht : t < 8)
    (hI : g_at (g_A V) V g D cT f n s H locs) {k : Int32} {a0 : vp_A} (ha : ∀ cA : ClassId, vp_cell cA a0 = arrV cA N (fun _ => defaultValue (g_tyn t))) (hn : ¬ k < 0) (hN : k.toNatClampNeg = N) (hbytes : N * componentBytes (newarray.typeOf atype) ≤ 536870912) (hcells : cells + 1 ≤ R.cells) (hslots : slots + N ≤ R.slots) (hq : some (h_up f n (.inl (t, a0))) = some f1) (hdg : decode cc pc = .ok (.newarray atype, 2))
    (kk : ∀ (H1 : Heap) (locs1 : List Loc), g_at (g_A V) V g D cT f1 (n + 1) s H1 locs1 → W p l e R s m args below meth c H1 locs1 (cells + 1) (slots + N) Q (F0 m (pc + 2) ls (.ref n :: rest))) : W p l e R s m args below meth c H locs cells slots Q (F0 m pc ls (.int k :: rest)) := by
  obtain rfl := Option.some.inj hq
  refine va_newaK hx hb (hB _ harr) rfl hdg rfl hn hN hbytes hcells hslots hI.1 fun H1 cA e1 z1 o1 hAr hNm => ?_
  have h2 := (hI.2.2.2.2.1.2 t _ (g_tys_at cT ht)).2
  have hc : cA = cT t := by
    rw [← hty] at h2
    cases atype <;> exact Option.some.inj (hNm.symm.trans h2)
  subst hc
  refine kk H1 locs (g_made hI (show H1[n]? = some (vp_cell (cT t) a0) from ?_) z1 o1)
  rw [ha, ← hty]
  exact e1
theorem fa_newq (hx : p.tables.exec = Jvm.exec) (hb : c.code = cc) {own C : String} {index N t : Nat} (hown : s.vm.findClass own = some m.cls) (hclink : (Cond.classLink own index C).before args s = true) (hover : va_AO C s) (ht : t < 8) (hC : g_tyn t = .object C)
    (hI : g_at (g_A V) V g D cT f n s H locs) {k : Int32} (hn : ¬ k < 0) (hN : k.toNatClampNeg = N) (hbytes : N * 4 ≤ 536870912) (hcells : cells + 1 ≤ R.cells) (hslots : slots + N ≤ R.slots) (hq : some (h_up f n (.inl (t, N, .inr (.inr (.inr (.inr (fun _ => none))))))) = some f1) (hdg : decode cc pc = .ok (.anewarray index, 3))
    (kk : ∀ (H1 : Heap) (locs1 : List Loc), g_at (g_A V) V g D cT f1 (n + 1) s H1 locs1 → W p l e R s m args below meth c H1 locs1 (cells + 1) (slots + N) Q (F0 m (pc + 3) ls (.ref n :: rest))) : W p l e R s m args below meth c H locs cells slots Q (F0 m pc ls (.int k :: rest)) := by
  obtain rfl := Option.some.inj hq
  subst hN
  refine W.anew hx hb hown hclink (va_AO.use hover) rfl hdg rfl hn hbytes hcells hslots fun cA kA comp f1 f2 f3 f4 => ?_
  have h2 := (hI.2.2.2.2.1.2 t _ (g_tys_at cT ht)).2
  rw [hC] at h2
  obtain ⟨_, _, -, -, -, h3⟩ := h2
  have hc : cA = cT t := Option.some.inj (f1.symm.trans h3)
  subst hc
  have hz : H.size = n := hI.1
  rw [hz]
  refine kk _ locs (g_made hI (show _ = some (vp_cell (cT t) (_, .inr (.inr (.inr (.inr (fun _ => none)))))) from ?_) (by rw [Array.size_push, hz]) (fun q hq => by rw [Array.getElem?_push, if_neg (by omega)]))
  rw [vp_cell_q, ← hz, Array.getElem?_push_size, ← arrV_new]
  rfl
end FB
