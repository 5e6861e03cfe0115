/-! ===== the statics of this claim, by number: V 0 is where our cells begin; V 1 .. V 11 the constants, V 12 .. V 18 static arrays, from V 20 on texts, from V 70 on their bytes ===== -/
def g_tyn (t : Nat) : FieldType := match t with
  | 0 => .int
  | 1 => .byte
  | 2 => .int
  | 3 => .int
  | 4 => .object "CoastlineRuler$Chart"
  | 5 => .object "CoastlineRuler$Coast"
  | 6 => .object "CoastlineRuler$Command"
  | 7 => .int
  | _ => .object "CoastlineRuler$Verb"
def g_cn (c : Nat) : String := match c with
  | 50 => "CoastlineRuler$Verb"
  | _ => "java/lang/String"
def g_sf (c k : Nat) : String × String × String := match c, k with
  | 50, 0 => ("java/lang/Enum", "ordinal", "I")
  | 50, 1 => ("CoastlineRuler$Verb", "word", "Ljava/lang/String;")
  | 50, 2 => ("CoastlineRuler$Verb", "isCoast", "Z")
  | 50, 3 => ("CoastlineRuler$Verb", "hasPoint", "Z")
  | 50, 4 => ("CoastlineRuler$Verb", "integers", "I")
  | 50, _ => ("CoastlineRuler$Verb", "limit", "I")
  | _, 0 => ("java/lang/String", "value", "[B")
  | _, _ => ("java/lang/String", "coder", "B")
def g_zt : List (String × String × String × ((Nat → Nat) → Value)) := [("CoastlineRuler$Verb", "SHORE", "LCoastlineRuler$Verb;", fun V => .ref (V 1)), ("CoastlineRuler$Verb", "ISLAND", "LCoastlineRuler$Verb;", fun V => .ref (V 2)), ("CoastlineRuler$Verb", "FOLD", "LCoastlineRuler$Verb;", fun V => .ref (V 3)), ("CoastlineRuler$Verb", "UNFOLD", "LCoastlineRuler$Verb;", fun V => .ref (V 4)), ("CoastlineRuler$Verb", "MOVE", "LCoastlineRuler$Verb;", fun V => .ref (V 5)), ("CoastlineRuler$Verb", "INSERT", "LCoastlineRuler$Verb;", fun V => .ref (V 6)), ("CoastlineRuler$Verb", "DROP", "LCoastlineRuler$Verb;", fun V => .ref (V 7)), ("CoastlineRuler$Verb", "SHIFT", "LCoastlineRuler$Verb;", fun V => .ref (V 8)), ("CoastlineRuler$Verb", "REVERSE", "LCoastlineRuler$Verb;", fun V => .ref (V 9)), ("CoastlineRuler$Verb", "REMOVE", "LCoastlineRuler$Verb;", fun V => .ref (V 10)), ("CoastlineRuler$Verb", "METRIC", "LCoastlineRuler$Verb;", fun V => .ref (V 11)), ("CoastlineRuler$Verb", "ALL", "[LCoastlineRuler$Verb;", fun V => .ref (V 12)), ("CoastlineRuler$1", "$SwitchMap$CoastlineRuler$Verb", "[I", fun V => .ref (V 13)), ("CoastlineRuler", "FIRST_COAST", "[I", fun V => .ref (V 14)), ("CoastlineRuler", "SECOND_COAST", "[I", fun V => .ref (V 15)), ("CoastlineRuler", "THIRD_COAST", "[I", fun V => .ref (V 16)), ("java/lang/Integer", "DigitOnes", "[B", fun V => .ref (V 17)), ("java/lang/Integer", "DigitTens", "[B", fun V => .ref (V 18)), ("java/lang/String", "COMPACT_STRINGS", "Z", fun _ => .int 1), ("jdk/internal/util/Preconditions", "SIOOBE_FORMATTER", "Ljava/util/function/BiFunction;", fun V => va_rf (if V 19 = 0 then none else some (V 19 - 1)))]
def g_rt : List (String × Nat × String × Nat) := [("CoastlineRuler", 348, "an argument is out of range", 21), ("CoastlineRuler$Grammar", 23, "map", 23), ("CoastlineRuler$Grammar", 97, "king", 24), ("CoastlineRuler$Grammar", 99, "taxicab", 25), ("CoastlineRuler$Grammar", 108, "island", 26), ("CoastlineRuler$Grammar", 116, "shore", 27), ("CoastlineRuler", 328, "nothing to undo", 38), ("CoastlineRuler", 334, "there is no snapshot", 39), ("CoastlineRuler", 340, "no such coastline", 28), ("CoastlineRuler", 342, "no such point", 29), ("CoastlineRuler", 344, "the coastline is a shore", 30), ("CoastlineRuler", 351, "no such coastline or point", 20), ("CoastlineRuler", 353, "the map does not allow this change", 22), ("CoastlineRulerLaw", 169, "island ", 50), ("CoastlineRulerLaw", 171, "shore ", 51), ("CoastlineRulerLaw", 180, " ", 52), ("CoastlineRulerLaw", 182, ",", 53), ("CoastlineRulerLaw", 184, " -", 54), ("CoastlineRulerLaw", 243, "map king;", 55), ("CoastlineRulerLaw", 245, "map taxicab;", 56), ("CoastlineRulerLaw", 250, "", 57), ("CoastlineRulerLaw", 252, "-", 58), ("CoastlineRuler$Verb", 110, "metric", 48), ("CoastlineRuler$Verb", 86, "fold", 40), ("CoastlineRuler$Verb", 95, "insert", 43), ("CoastlineRuler$Verb", 89, "unfold", 41), ("CoastlineRuler$Verb", 77, "shore", 27), ("CoastlineRuler$Verb", 92, "move", 42), ("CoastlineRuler$Verb", 98, "drop", 44), ("CoastlineRuler$Verb", 101, "shift", 45), ("CoastlineRuler$Verb", 104, "reverse", 46), ("CoastlineRuler$Verb", 107, "remove", 47), ("CoastlineRuler$Verb", 83, "island", 26)]
def g_nw : List Cond := [(Jvm.Cond.methodLinkNest "CoastlineRuler" (28 : Nat) ({ cls := "CoastlineRuler$Tokens", name := "<init>", desc := "()V" } : Jvm.MethodName) "CoastlineRuler"), (Jvm.Cond.methodLinkNest "CoastlineRuler" (48 : Nat) ({ cls := "CoastlineRuler$Command", name := "<init>", desc := "()V" } : Jvm.MethodName) "CoastlineRuler"), (Jvm.Cond.methodLinkNest "CoastlineRuler$Coast" (106 : Nat) ({ cls := "CoastlineRuler", name := "isCoordinate", desc := "(I)Z" } : Jvm.MethodName) "CoastlineRuler"), (Jvm.Cond.fieldLinkNest "CoastlineRuler$Grammar" (89 : Nat) "CoastlineRuler$Verb" "ALL" "[LCoastlineRuler$Verb;" "CoastlineRuler"), (Jvm.Cond.castable "java/lang/IllegalArgumentException" "java/lang/IllegalArgumentException"), (Jvm.Cond.castable "java/lang/IllegalStateException" "java/lang/IllegalStateException"), (Jvm.Cond.castable "java/lang/IndexOutOfBoundsException" "java/lang/IndexOutOfBoundsException"), (Jvm.Cond.declares ({ cls := "java/lang/RuntimeException", name := "<init>", desc := "(Ljava/lang/String;)V" } : Jvm.MethodName)), (Jvm.Cond.declares ({ cls := "java/lang/Exception", name := "<init>", desc := "(Ljava/lang/String;)V" } : Jvm.MethodName)), (Jvm.Cond.declares ({ cls := "java/lang/Throwable", name := "<init>", desc := "(Ljava/lang/String;)V" } : Jvm.MethodName)), (Jvm.Cond.castable "[B" "java/lang/Cloneable")]
def g_nc : List (String × String) := []
def g_ao : List String := ["CoastlineRuler$Chart", "CoastlineRuler$Coast", "CoastlineRuler$Command"]
/-! ===== the functional heap: what an address holds, as a function; dynamic cells are ours, static ones (tags from 50 on) stand from the start ===== -/
abbrev GE : Type := (Nat × vp_A) ⊕ (Nat × List Value)
abbrev GH : Type := Nat → Option GE
/-- static cells: an array's at 2a, an object's at 2a + 1 -/
def gA (g : GH) : GH := fun a => g (2 * a)
def gO (g : GH) : GH := fun a => g (2 * a + 1)
def h_up (f : GH) (a : Nat) (e : GE) : GH := fun b => if b = a then some e else f b
theorem h_up_s (f : GH) (a : Nat) (e : GE) : h_up f a e a = some e := by simp [h_up]
theorem h_up_n (f : GH) {a b : Nat} (e : GE) (h : b ≠ a) : h_up f a e b = f b := by simp [h_up, h]
/-- an object's fields -/
def h_fs (f : GH) (a ci : Nat) : Option (List Value) := match f a with
  | some (.inr o) => if o.1 = ci then some o.2 else none
  | _ => none
theorem h_fs_eq {f : GH} {a ci : Nat} {fs : List Value} (h : h_fs f a ci = some fs) : f a = some (.inr (ci, fs)) := by
  unfold h_fs at h
  split at h
  · rename_i o ho
    split at h
    · rename_i hc
      cases h
      rw [ho, ← hc]
    · cases h
  · cases h
def h_gi (f : GH) (a ci k : Nat) : Option Int32 := match h_fs f a ci with
  | some fs => match fs[k]? with
    | some (.int x) => some x
    | _ => none
  | none => none
theorem h_gi_eq {f : GH} {a ci k : Nat} {x : Int32} (h : h_gi f a ci k = some x) : ∃ fs, f a = some (.inr (ci, fs)) ∧ fs[k]? = some (.int x) := by
  unfold h_gi at h
  split at h
  · rename_i fs hfs
    split at h
    · rename_i y hy
      cases h
      exact ⟨fs, h_fs_eq hfs, hy⟩
    · cases h
  · cases h
def h_gr (f : GH) (a ci k : Nat) : Option Nat := match h_fs f a ci with
  | some fs => match fs[k]? with
    | some (.ref x) => some x
    | _ => none
  | none => none
theorem h_gr_eq {f : GH} {a ci k x : Nat} (h : h_gr f a ci k = some x) : ∃ fs, f a = some (.inr (ci, fs)) ∧ fs[k]? = some (.ref x) := by
  unfold h_gr at h
  split at h
  · rename_i fs hfs
    split at h
    · rename_i y hy
      cases h
      exact ⟨fs, h_fs_eq hfs, hy⟩
    · cases h
  · cases h
/-- a field is written -/
def h_pt (f : GH) (a ci k : Nat) (v : Value) : Option GH := match h_fs f a ci with
  | some fs => if k < fs.length then some (h_up f a (.inr (ci, fs.set k v))) else none
  | none => none
theorem h_pt_eq {f f1 : GH} {a ci k : Nat} {v : Value} (h : h_pt f a ci k v = some f1) : ∃ fs, f a = some (.inr (ci, fs)) ∧ k < fs.length ∧ f1 = h_up f a (.inr (ci, fs.set k v)) := by
  unfold h_pt at h
  split at h
  · rename_i fs hfs
    split at h
    · rename_i hk
      cases h
      exact ⟨fs, h_fs_eq hfs, hk, rfl⟩
    · cases h
  · cases h
/-- an array of the kind t: its length, its contents -/
def h_ar (f : GH) (a t : Nat) : Option vp_A := match f a with
  | some (.inl x) => if x.1 = t then some x.2 else none
  | _ => none
theorem h_ar_eq {f : GH} {a t : Nat} {x : vp_A} (h : h_ar f a t = some x) : f a = some (.inl (t, x)) := by
  unfold h_ar at h
  split at h
  · rename_i o ho
    split at h
    · rename_i hc
      cases h
      rw [ho, ← hc]
    · cases h
  · cases h
/-- an array of numbers -/
def h_ai (f : GH) (a t : Nat) : Option (Nat × (Nat → Int32)) := match h_ar f a t with
  | some (n, .inl r) => some (n, r)
  | _ => none
theorem h_ai_eq {f : GH} {a t n : Nat} {r : Nat → Int32} (h : h_ai f a t = some (n, r)) : f a = some (.inl (t, n, .inl r)) := by
  unfold h_ai at h
  split at h
  · rename_i m q hq
    cases h
    exact h_ar_eq hq
  · cases h
/-- an array of references -/
def h_aq (f : GH) (a t : Nat) : Option (Nat × (Nat → Option Nat)) := match h_ar f a t with
  | some (n, .inr (.inr (.inr (.inr r)))) => some (n, r)
  | _ => none
theorem h_aq_eq {f : GH} {a t n : Nat} {r : Nat → Option Nat} (h : h_aq f a t = some (n, r)) : f a = some (.inl (t, n, .inr (.inr (.inr (.inr r))))) := by
  unfold h_aq at h
  split at h
  · rename_i m q hq
    cases h
    exact h_ar_eq hq
  · cases h
def h_in (i : Int32) (n : Nat) : Bool := !(decide (i < 0)) && decide (i.toNatClampNeg < n)
theorem h_in_eq {i : Int32} {n : Nat} (h : h_in i n = true) : vp_in i n := by
  simp only [h_in, Bool.and_eq_true, Bool.not_eq_true', decide_eq_false_iff_not, decide_eq_true_eq] at h
  intro q
  rcases q with q | q
  · exact h.1 q
  · omega
def h_li (f : GH) (a t : Nat) (i : Int32) : Option Int32 := match h_ai f a t with
  | some x => if h_in i x.1 then some (x.2 i.toNatClampNeg) else none
  | none => none
theorem h_li_eq {f : GH} {a t : Nat} {i v : Int32} (h : h_li f a t i = some v) : ∃ n r, f a = some (.inl (t, n, .inl r)) ∧ vp_in i n ∧ v = r i.toNatClampNeg := by
  unfold h_li at h
  split at h
  · rename_i x hx
    split at h
    · rename_i hi
      cases h
      exact ⟨x.1, x.2, h_ai_eq hx, h_in_eq hi, rfl⟩
    · cases h
  · cases h
def h_si (f : GH) (a t : Nat) (i v : Int32) : Option GH := match h_ai f a t with
  | some x => if h_in i x.1 then some (h_up f a (.inl (t, x.1, .inl (upd x.2 i.toNatClampNeg v)))) else none
  | none => none
theorem h_si_eq {f f1 : GH} {a t : Nat} {i v : Int32} (h : h_si f a t i v = some f1) : ∃ n r, f a = some (.inl (t, n, .inl r)) ∧ vp_in i n ∧ f1 = h_up f a (.inl (t, n, .inl (upd r i.toNatClampNeg v))) := by
  unfold h_si at h
  split at h
  · rename_i x hx
    split at h
    · rename_i hi
      cases h
      exact ⟨x.1, x.2, h_ai_eq hx, h_in_eq hi, rfl⟩
    · cases h
  · cases h
/-- a reference read from an array: not null -/
def h_lq (f : GH) (a t : Nat) (i : Int32) : Option Nat := match h_aq f a t with
  | some x => if h_in i x.1 then x.2 i.toNatClampNeg else none
  | none => none
theorem h_lq_eq {f : GH} {a t v : Nat} {i : Int32} (h : h_lq f a t i = some v) : ∃ n r, f a = some (.inl (t, n, .inr (.inr (.inr (.inr r))))) ∧ vp_in i n ∧ r i.toNatClampNeg = some v := by
  unfold h_lq at h
  split at h
  · rename_i x hx
    split at h
    · rename_i hi
      exact ⟨x.1, x.2, h_aq_eq hx, h_in_eq hi, h⟩
    · cases h
  · cases h
/-- a reference to an object of class ci is laid into an array -/
def h_sq (f : GH) (a t ci : Nat) (i : Int32) (v : Nat) : Option GH := match h_aq f a t, h_fs f v ci with
  | some x, some _ => if h_in i x.1 then some (h_up f a (.inl (t, x.1, .inr (.inr (.inr (.inr (va_up x.2 i.toNatClampNeg (some v)))))))) else none
  | _, _ => none
theorem h_sq_eq {f f1 : GH} {a t ci v : Nat} {i : Int32} (h : h_sq f a t ci i v = some f1) : ∃ n r fs, f a = some (.inl (t, n, .inr (.inr (.inr (.inr r))))) ∧ f v = some (.inr (ci, fs)) ∧ vp_in i n ∧ f1 = h_up f a (.inl (t, n, .inr (.inr (.inr (.inr (va_up r i.toNatClampNeg (some v))))))) := by
  unfold h_sq at h
  split at h
  · rename_i x fs hx hfs
    split at h
    · rename_i hi
      cases h
      exact ⟨x.1, x.2, fs, h_aq_eq hx, h_fs_eq hfs, h_in_eq hi, rfl⟩
    · cases h
  · cases h
def h_al (f : GH) (a t : Nat) : Option Int32 := match h_ar f a t with
  | some x => some (Int32.ofNat x.1)
  | none => none
theorem h_al_eq {f : GH} {a t : Nat} {v : Int32} (h : h_al f a t = some v) : ∃ x, f a = some (.inl (t, x)) ∧ Int32.ofNat x.1 = v := by
  unfold h_al at h
  split at h
  · rename_i x hx
    cases h
    exact ⟨x, h_ar_eq hx, rfl⟩
  · cases h
/-- System.arraycopy between arrays of numbers of the kind t -/
def h_cp (f : GH) (t a0 : Nat) (sp : Int32) (a : Nat) (dp n : Int32) : Option GH := match h_ai f a0 t, h_ai f a t with
  | some x, some y => if ¬ sp < 0 ∧ ¬ dp < 0 ∧ ¬ n < 0 ∧ sp.toNatClampNeg + n.toNatClampNeg ≤ x.1 ∧ dp.toNatClampNeg + n.toNatClampNeg ≤ y.1 then some (h_up f a (.inl (t, y.1, .inl (va_cpy x.2 y.2 sp.toNatClampNeg dp.toNatClampNeg n.toNatClampNeg)))) else none
  | _, _ => none
theorem h_cp_eq {f f1 : GH} {t a0 a : Nat} {sp dp n : Int32} (h : h_cp f t a0 sp a dp n = some f1) : ∃ n0 r0 n1 r1, f a0 = some (.inl (t, n0, .inl r0)) ∧ f a = some (.inl (t, n1, .inl r1)) ∧ ¬ sp < 0 ∧ ¬ dp < 0 ∧ ¬ n < 0 ∧ sp.toNatClampNeg + n.toNatClampNeg ≤ n0 ∧ dp.toNatClampNeg + n.toNatClampNeg ≤ n1 ∧ f1 = h_up f a (.inl (t, n1, .inl (va_cpy r0 r1 sp.toNatClampNeg dp.toNatClampNeg n.toNatClampNeg))) := by
  unfold h_cp at h
  split at h
  · rename_i x y hx hy
    split at h
    · rename_i hc
      cases h
      exact ⟨x.1, x.2, y.1, y.2, h_ai_eq hx, h_ai_eq hy, hc.1, hc.2.1, hc.2.2.1, hc.2.2.2.1, hc.2.2.2.2, rfl⟩
    · cases h
  · cases h
/-- a boolean -/
def h_bz (v : Int32) : Option Int32 := if v = 0 ∨ v = 1 then some v else none
theorem h_bz_eq {v w : Int32} (h : h_bz v = some w) : w = v ∧ narrow .boolean (.int v) = .int v ∧ fits .boolean (.int v) = true := by
  unfold h_bz at h
  split at h
  · rename_i hv
    cases h
    refine ⟨rfl, ?_⟩
    rcases hv with rfl | rfl <;> decide +kernel
  · cases h
/-- a divisor -/
def h_dv (y : Int32) : Option Int32 := if y = 0 then none else some y
theorem h_dv_eq {y z : Int32} (h : h_dv y = some z) : z = y ∧ ¬ y = 0 := by
  unfold h_dv at h
  split at h
  · cases h
  · rename_i hy
    cases h
    exact ⟨rfl, hy⟩
theorem b_s {α β : Type} {x : Option α} {f : α → Option β} {b : β} (h : x.bind f = some b) : ∃ a, x = some a ∧ f a = some b := Option.bind_eq_some_iff.mp h
theorem i_t {α : Type} {c : Prop} [Decidable c] {A B : Option α} {o : α} (h : c) (hq : (if c then A else B) = some o) : A = some o := by
  rw [if_pos h] at hq
  exact hq
theorem i_f {α : Type} {c : Prop} [Decidable c] {A B : Option α} {o : α} (h : ¬ c) (hq : (if c then A else B) = some o) : B = some o := by
  rw [if_neg h] at hq
  exact hq
/-- fuel for a loop whose end its own lines tell -/
def FU : Nat := 1000000
/-! ===== what the functional heap says of the machine's ===== -/
def g_A (V : Nat → Nat) : Nat → Prop := fun q => V 0 ≤ q
def g_no : Nat → Prop := fun _ => False
def g_cv (cT : Nat → ClassId) (e : GE) : va_E := match e with
  | .inl x => .inl (cT x.1, x.2)
  | .inr o => .inr o
/-- the dynamic cells -/
def g_hd (V : Nat → Nat) (D : va_G) (cT : Nat → ClassId) (f : GH) (H : Heap) : Prop := ∀ (a : Nat) (e : GE), f a = some e → V 0 ≤ a ∧ va_at D vwCl (a, g_cv cT e) H
/-- the contents of a static array as values -/
def g_val (x : vp_A) : Nat → Value := match x.2 with
  | .inl r => fun j => .int (r j)
  | .inr (.inr (.inr (.inr r))) => fun j => va_rf (r j)
  | _ => fun _ => .null
/-- the static cells -/
def g_hs (V : Nat → Nat) (g : GH) (U : State) (H0 : Heap) : Prop :=
  (∀ (a : Nat) (x : Nat × vp_A), gA g a = some (.inl x) → va_T (g_tyn x.1) a x.2.1 (g_val x.2) (g_A V) U H0) ∧
  ∀ (a : Nat) (o : Nat × List Value), gO g a = some (.inr o) → va_O (g_cn o.1) a (g_A V) U H0 ∧ ∀ (k : Nat) (v : Value), o.2[k]? = some v → va_OF (g_sf o.1 k).1 (g_sf o.1 k).2.1 (g_sf o.1 k).2.2 v a (g_A V) U H0
def g_tys (cT : Nat → ClassId) : List (ClassId × FieldType) := (List.range 8).map (fun t => (cT t, g_tyn t))
theorem g_tys_at (cT : Nat → ClassId) {t : Nat} (h : t < 8) : (g_tys cT)[t]? = some (cT t, g_tyn t) := by
  simp [g_tys, List.getElem?_map, List.getElem?_range h]
/-- statics, texts, what throws need -/
def g_sx (V : Nat → Nat) (U : State) (H0 : Heap) : Prop :=
  (∀ q ∈ g_zt, va_Z q.1 q.2.1 q.2.2.1 (q.2.2.2 V) (g_A V) U H0) ∧ (∀ q ∈ g_rt, vk_R q.1 q.2.1 q.2.2.1 (V q.2.2.2) U) ∧ (∀ w ∈ g_nw, va_Nw w U) ∧
  vx_Zq Bundle.tN "UNASSIGNED_STACK" Bundle.steD (g_A V) U H0 ∧ vx_Zq Bundle.tN "SUPPRESSED_SENTINEL" Bundle.listD (g_A V) U H0 ∧ (∀ C ∈ g_ao, va_AO C U) ∧ ∀ q ∈ g_nc, va_Nc q.1 q.2 U
/-- what a method of ours is begun with -/
def g_I (V : Nat → Nat) (g : GH) (D : va_G) (cT : Nat → ClassId) (f : GH) (n : Nat) (U : State) : Prop :=
  U.heap.size = n ∧ V 0 ≤ U.heap.size ∧ g_hd V D cT f U.heap ∧ g_hs V g U U.heap ∧ va_K D vwCl (g_tys cT) U ∧ g_sx V U U.heap
/-- .. and where it stands, with the heap H, the start s -/
def g_at (A : Nat → Prop) (V : Nat → Nat) (g : GH) (D : va_G) (cT : Nat → ClassId) (f : GH) (n : Nat) (s : State) (H : Heap) (locs : List Loc) : Prop :=
  H.size = n ∧ V 0 ≤ s.heap.size ∧ g_hd V D cT f H ∧ g_hs V g s s.heap ∧ va_K D vwCl (g_tys cT) s ∧ g_sx V s s.heap ∧ va_S A s.heap H locs ∧ ∀ q, A q → g_A V q
theorem g_hs_moved {V : Nat → Nat} {g : GH} {u U : State} {H0 : Heap} (hvm : u.vm.Alike U.vm) (h : g_hs V g u H0) : g_hs V g U H0 :=
  ⟨fun a x he => va_T.moved hvm (h.1 a x he), fun a o he => ⟨va_O.moved hvm (h.2 a o he).1, fun k v hv => va_OF.moved hvm ((h.2 a o he).2 k v hv)⟩⟩
theorem g_hs_kept {V : Nat → Nat} {g : GH} {U : State} {H0 H1 : Heap} (h : g_hs V g U H0) (hq : ∀ a : Nat, a < H0.size → ¬ g_A V a → H1[a]? = H0[a]?) : g_hs V g U H1 :=
  ⟨fun a x he => va_T.kept (h.1 a x he) hq, fun a o he => ⟨va_O.kept (h.2 a o he).1 hq, fun k v hv => va_OF.kept ((h.2 a o he).2 k v hv) hq⟩⟩
theorem g_nw_on : ∀ w ∈ g_nw, w.onTables = true := by
  intro w hw
  simp only [g_nw, List.mem_cons, List.not_mem_nil, or_false] at hw
  rcases hw with rfl | rfl | rfl | rfl | rfl | rfl | rfl | rfl | rfl | rfl | rfl <;> rfl
theorem g_nw_warm : ∀ w ∈ g_nw, ∀ (s U : State), s.WarmedH U.vm → va_Nw w s → va_Nw w U := by
  intro w hw s U hW h
  simp only [g_nw, List.mem_cons, List.not_mem_nil, or_false] at hw
  rcases hw with rfl | rfl | rfl | rfl | rfl | rfl | rfl | rfl | rfl | rfl | rfl <;> first | exact va_Nw.warmM hW h | exact va_Nw.warmF hW h | exact va_Nw.warmC hW h | exact va_Nw.warmD hW h
theorem g_sx_warm {V : Nat → Nat} {s U : State} {H0 : Heap} (hW : s.WarmedH U.vm) (h : g_sx V s H0) : g_sx V U H0 :=
  ⟨fun q hq => va_Z.moved hW.alike (h.1 q hq), fun q hq => vk_R.warm hW (h.2.1 q hq), fun w hw => g_nw_warm w hw s U hW (h.2.2.1 w hw), vx_Zq.moved hW.alike h.2.2.2.1, vx_Zq.moved hW.alike h.2.2.2.2.1, fun C hC => va_AO.moved hW.alike (h.2.2.2.2.2.1 C hC), fun q hq => va_Nc.moved hW.alike (h.2.2.2.2.2.2 q hq)⟩
theorem g_sx_kept {V : Nat → Nat} {U : State} {H0 H1 : Heap} (h : g_sx V U H0) (hq : ∀ a : Nat, a < H0.size → ¬ g_A V a → H1[a]? = H0[a]?) : g_sx V U H1 :=
  ⟨fun q hz => va_Z.kept (h.1 q hz) hq, h.2.1, h.2.2.1, vx_Zq.kept h.2.2.2.1 hq, vx_Zq.kept h.2.2.2.2.1 hq, h.2.2.2.2.2⟩
theorem g_sx_same {V : Nat → Nat} {s U : State} {H0 : Heap} (hv : U.vm = s.vm) (h : g_sx V s H0) : g_sx V U H0 := by
  have ha : s.vm.Alike U.vm := by rw [hv]; exact Vm.Alike.refl _
  exact ⟨fun q hq => va_Z.moved ha (h.1 q hq), fun q hq => vk_R.same hv (h.2.1 q hq), fun w hw => va_Nw.same (g_nw_on w hw) hv.symm (h.2.2.1 w hw), vx_Zq.moved ha h.2.2.2.1, vx_Zq.moved ha h.2.2.2.2.1, fun C hC => va_AO.moved ha (h.2.2.2.2.2.1 C hC), fun q hq => va_Nc.moved ha (h.2.2.2.2.2.2 q hq)⟩
theorem g_I_same {V : Nat → Nat} {g : GH} {D : va_G} {cT : Nat → ClassId} {f : GH} {n : Nat} {s U : State} (hv : U.vm = s.vm) (hh : U.heap = s.heap) (h : g_I V g D cT f n s) : g_I V g D cT f n U := by
  obtain ⟨h1, h2, h3, h4, h5, h6⟩ := h
  have ha : s.vm.Alike U.vm := by rw [hv]; exact Vm.Alike.refl _
  refine ⟨by rw [hh]; exact h1, by rw [hh]; exact h2, by rw [hh]; exact h3, by rw [hh]; exact g_hs_moved ha h4, va_K.moved ha h5, by rw [hh]; exact g_sx_same hv h6⟩
theorem g_blind {V : Nat → Nat} {g : GH} {D : va_G} {cT : Nat → ClassId} {f : GH} {n : Nat} {as : List Value} : FrameBlind (va_Pc as (g_I V g D cT f n)) := by
  intro a U gg mk q
  exact ⟨q.1, g_I_same (s := U) (U := U.calling gg mk a) rfl rfl q.2⟩
section GA
variable {A : Nat → Prop} {V : Nat → Nat} {g : GH} {D : va_G} {cT : Nat → ClassId} {f : GH} {n : Nat} {s : State} {H : Heap} {locs : List Loc}
theorem g_at_I (hI : g_at A V g D cT f n s H locs) {U : State} (hU : U.heap = H) (hW : s.WarmedH U.vm) : g_I V g D cT f n U := by
  obtain ⟨h1, h2, h3, h4, h5, h6, h7, h8⟩ := hI
  have hq : ∀ a : Nat, a < s.heap.size → ¬ g_A V a → H[a]? = s.heap[a]? := fun a ha hn => h7.2.1 a ha (fun z => hn (h8 a z))
  refine ⟨by rw [hU]; exact h1, by rw [hU]; exact Nat.le_trans h2 h7.1, by rw [hU]; exact h3, by rw [hU]; exact g_hs_moved hW.alike (g_hs_kept h4 hq), va_K.moved hW.alike h5, by rw [hU]; exact g_sx_warm hW (g_sx_kept h6 hq)⟩
theorem g_preS (hI : g_at A V g D cT f n s H locs) {as : List Value} : PreS s H (va_Pc as (g_I V g D cT f n)) as :=
  ⟨g_blind, fun _ hU hW => ⟨rfl, g_at_I hI hU hW⟩⟩
/-- one dynamic cell as a world -/
theorem g_one (hI : g_at A V g D cT f n s H locs) {a : Nat} {e : GE} (he : f a = some e) : va_P D vwCl [(a, g_cv cT e)] H := by
  intro k q hk
  have hk0 : k = 0 := by
    have := (List.getElem?_eq_some_iff.mp hk).1
    simp at this
    exact this
  subst hk0
  cases hk
  exact (hI.2.2.1 a e he).2
theorem g_preV (hI : g_at A V g D cT f n s H locs) {as : List Value} {b ci : Nat} {fs : List Value} {q : vw_C} (hc : vwCl[ci]? = some q) (he : f b = some (.inr (ci, fs))) : PreV s H q.1 b (va_Pc (.ref b :: as) (g_I V g D cT f n)) as :=
  ⟨g_blind, va_recv hI.2.2.2.2.1 (g_one hI he) (ci := ci) (q0 := 0) hc rfl, fun _ hU hW => ⟨rfl, g_at_I hI hU hW⟩⟩
/-- the receiver is an object of its class -/
theorem h_rv_eq {f : GH} {b ci : Nat} {x : List Value} (h : h_fs f b ci = some x) : ∃ fs, f b = some (.inr (ci, fs)) := ⟨x, h_fs_eq h⟩
theorem g_start {V : Nat → Nat} {g : GH} {D : va_G} {cT : Nat → ClassId} {f : GH} {n : Nat} {s : State} (A : Nat → Prop) (hA : ∀ q, A q → g_A V q) (h : g_I V g D cT f n s) : g_at A V g D cT f n s s.heap [] := by
  obtain ⟨h1, h2, h3, h4, h5, h6⟩ := h
  exact ⟨h1, h2, h3, h4, h5, h6, va_S.rf, hA⟩
/-- nothing old was changed: the functional heap stands -/
theorem g_kept (hI : g_at A V g D cT f n s H locs) {H1 : Heap} {locs1 : List Loc} (hs : H1.size = n) (hk : ∀ q : Nat, q < H.size → H1[q]? = H[q]?) (hS : va_S A s.heap H1 locs1) : g_at A V g D cT f n s H1 locs1 := by
  obtain ⟨h1, h2, h3, h4, h5, h6, h7, h8⟩ := hI
  refine ⟨hs, h2, fun a e he => ⟨(h3 a e he).1, (h3 a e he).2.kept (hk a (h3 a e he).2.lt)⟩, h4, h5, h6, hS, h8⟩
end GA
