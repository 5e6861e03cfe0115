/-! ===== what is left to the pure part, and the start out of it ===== -/
def PureLaw : Prop := ∀ (V : Nat → Nat) (g : GH) (n0 b L : Nat) (xs : Nat → Int32), StOK V g → V 0 = n0 → L ≤ 260 → (∃ r, gA g b = some (.inl (0, L, .inl r)) ∧ ∀ j, j < L → r j = xs j) → ∃ (f : GH) (n : Nat), p_L_law V g (fun _ => none) n0 b = some ((1 : Int32), f, n)
set_option maxRecDepth 100000 in
theorem start_of (hP : PureLaw) {p : Program} {e : Env} {s : State} {m : MethodId} {below : List Frame} {meth : Method} {c : Code} (l : Launch) (hflags : l.flags = flags0) {b L : Nat} {xs : Nat → Int32} (hL : L ≤ 260) (C0 : lw_At p s m meth c b L xs) : W p l e room_1 s m #[Value.ref b] below meth c s.heap [] 0 0 (lw_Z below #[Value.ref b] s) (entryFrame m ([Value.ref b] : List Value).toArray 12) := by
  obtain ⟨hx, hb, hr, hml, hown, hts, hX, hbl, hlocks, hgv⟩ := id C0
  have hl0 : l.stackTraces = false := by rw [Launch.stackTraces, hflags]; decide
  have ht : ∀ w ∈ tables_1, w.before #[Value.ref b] s = true := fun w hw => hts w (List.mem_append_right _ hw)
  obtain ⟨g, g1, g2, g3, g4⟩ := st_world (args := #[Value.ref b]) ht hgv hX hbl (show L ≤ 3072 by omega)
  obtain ⟨D, cT, hK⟩ := st_K hts
  obtain ⟨f1, n1, hq⟩ := hP (st_V #[Value.ref b] s) g s.heap.size b L xs g3 rfl hL g4
  have hC : CallFix p m c cL_law 12 s #[Value.ref b] g_B RL := ⟨hx, hb, hml, hown, st_hB hts⟩
  have hI : g_at (g_A (st_V #[Value.ref b] s)) (st_V #[Value.ref b] s) g D cT (fun _ => none) s.heap.size s s.heap [] := ⟨rfl, Nat.le_refl _, fun a e h => (by cases h), g1, hK, g2, va_S.rf, fun _ h => h⟩
  have hl := lv_entry ([.ref b]) (n := 12) (Nat.le_of_ble_eq_true rfl)
  rw [lg_entry_eq]
  generalize (lg_sl ([.ref b]) ++ List.replicate (12 - (lg_sl ([.ref b])).length) Slot.unset).toArray = ls at hl ⊢
  have hl : lv_has ls 12 [(0, .ref b)] := hl
  refine law_run hl0 hx hb hC (fun pc hdg {f n} H locs ls hI => ?_) rfl b (fun _ => none) s.heap.size s.heap [] ls hI hl hq
  refine va_forget (fun q hq => hI.2.2.2.2.2.2.1.2.2 q hq) ?_
  exact lw_ret hx hb hr hlocks hdg
