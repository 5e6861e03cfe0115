/-! ===== what is left to the pure part, and the start out of it ===== -/
def PureLaw : Prop := ∀ (V : Nat → Nat) (g : GH) (n0 b L : Nat) (xs : Nat → Int32), StOK V g → V 0 = n0 → L ≤ 3072 → (∃ r, gA g b = some (.inl (0, L, .inl r)) ∧ ∀ j, j < L → r j = xs j) →
  ∃ (x1 x2 x3 x4 : Nat) (f : GH) (n : Nat) (Inv : GH → Nat → Prop), p_law0 V g (fun _ => none) n0 b = some (x1, x2, x3, x4, f, n) ∧ Inv f n ∧
    ∀ (f : GH) (n t : Nat), 6 * t + 6 ≤ L → Inv f n → ∃ f1, p_step V g f n b x1 x2 x3 x4 (nn (6 * t)) = some f1 ∧ ∀ n1, n ≤ n1 → (∀ a e, f1 a = some e → a < n1) → Inv f1 n1
set_option maxRecDepth 100000 in
theorem start_of (hP : PureLaw) {p : Program} {e : Env} {s : State} {m : MethodId} {below : List Frame} {meth : Method} {c : Code} (l : Launch) (hflags : l.flags = flags0) {b L : Nat} {xs : Nat → Int32} (hL : L ≤ 3072) (C0 : lw_At p s m meth c b L xs) : W p l e room_1 s m #[Value.ref b] below meth c s.heap [] 0 0 (lw_Z below #[Value.ref b] s) (entryFrame m ([Value.ref b] : List Value).toArray 9) := by
  obtain ⟨hx, hb, hr, hml, hown, hts, hX, hbl, hlocks, hgv⟩ := id C0
  have hl0 : l.stackTraces = false := by rw [Launch.stackTraces, hflags]; decide
  have ht : ∀ w ∈ tables_1, w.before #[Value.ref b] s = true := fun w hw => hts w (List.mem_append_right _ hw)
  obtain ⟨g, g1, g2, g3, g4⟩ := st_world (args := #[Value.ref b]) ht hgv hX hbl hL
  obtain ⟨D, cT, hK⟩ := st_K hts
  obtain ⟨x1, x2, x3, x4, f, n, Inv, q1, q2, q3⟩ := hP (st_V #[Value.ref b] s) g s.heap.size b L xs g3 rfl hL g4
  have hC : CallFix p m c cL_law 9 s #[Value.ref b] g_B RL := ⟨hx, hb, hml, hown, st_hB hts⟩
  have hI : g_at (g_A (st_V #[Value.ref b] s)) (st_V #[Value.ref b] s) g D cT (fun _ => none) s.heap.size s s.heap [] := ⟨rfl, Nat.le_refl _, fun a e h => (by cases h), g1, hK, g2, va_S.rf, fun _ h => h⟩
  have hl := lv_entry ([.ref b]) (n := 9) (Nat.le_of_ble_eq_true rfl)
  rw [lg_entry_eq]
  generalize (lg_sl ([.ref b]) ++ List.replicate (9 - (lg_sl ([.ref b])).length) Slot.unset).toArray = ls at hl ⊢
  have hl : lv_has ls 9 [(0, .ref b)] := hl
  have hal : h_al (gA g) b 0 = some (nn L) := by
    obtain ⟨r, h1, -⟩ := g4
    unfold h_al h_ar
    rw [h1]
    rfl
  refine law_pre hl0 hx hb hC b x1 x2 x3 x4 q1 hI hl (fun H locs ls hI hl => ?_)
  exact law_loop hl0 hx hb hC (Nat.le_refl _) (fun H ls => lw_ret (Drawn.sameBut.refl s.drawn lw_cs) hx hb hr hlocks dL_law_3644) hL hal Inv q3 (L / 6) 0 f n H locs 328 61054 ls (by omega) (by omega) (by omega) (by omega) q2 hI (lv_sub hl [0, 1, 2, 3, 4, 5] rfl)
