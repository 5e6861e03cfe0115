/-! ===== reads and writes of known cells ===== -/
theorem ob_s {α β : Type} (a : α) (f : α → Option β) : (some a).bind f = f a := rfl
section CE
variable {f : GH} {a ci t k : Nat} {fs : List Value}
theorem hfs_of (h : f a = some (.inr (ci, fs))) : h_fs f a ci = some fs := by simp [h_fs, h]
theorem hme_of {α : Type} (h : f a = some (.inr (ci, fs))) (q : Option α) : h_me f a ci q = q := by simp [h_me, hfs_of h]
theorem hgr_of {x : Nat} (h : f a = some (.inr (ci, fs))) (hk : fs[k]? = some (.ref x)) : h_gr f a ci k = some x := by simp [h_gr, hfs_of h, hk]
theorem hgi_of {x : Int32} (h : f a = some (.inr (ci, fs))) (hk : fs[k]? = some (.int x)) : h_gi f a ci k = some x := by simp [h_gi, hfs_of h, hk]
theorem hpt_of {v : Value} (h : f a = some (.inr (ci, fs))) (hk : k < fs.length) : h_pt f a ci k v = some (h_up f a (.inr (ci, fs.set k v))) := by simp [h_pt, hfs_of h, hk]
theorem har_of {x : vp_A} (h : f a = some (.inl (t, x))) : h_ar f a t = some x := by simp [h_ar, h]
theorem hai_of {n : Nat} {r : Nat → Int32} (h : f a = some (.inl (t, n, .inl r))) : h_ai f a t = some (n, r) := by simp [h_ai, har_of h]
theorem haq_of {n : Nat} {r : Nat → Option Nat} (h : f a = some (.inl (t, n, .inr (.inr (.inr (.inr r)))))) : h_aq f a t = some (n, r) := by simp [h_aq, har_of h]
theorem hin_of {i n : Nat} (h : i < n) (hi : i < 2147483648) : h_in (nn i) n = true := by
  have h2 : ¬ nn i < 0 := nn_nl i hi
  simp only [h_in, nn_c hi, Bool.and_eq_true, Bool.not_eq_true', decide_eq_false_iff_not, decide_eq_true_eq]
  exact ⟨h2, h⟩
theorem hli_of {n i : Nat} {r : Nat → Int32} (h : f a = some (.inl (t, n, .inl r))) (hi : i < n) (hb : i < 2147483648) : h_li f a t (nn i) = some (r i) := by
  simp only [h_li, hai_of h, hin_of hi hb, if_true, nn_c hb]
theorem hsi_of {n i : Nat} {r : Nat → Int32} {v : Int32} (h : f a = some (.inl (t, n, .inl r))) (hi : i < n) (hb : i < 2147483648) : h_si f a t (nn i) v = some (h_up f a (.inl (t, n, .inl (upd r i v)))) := by
  simp only [h_si, hai_of h, hin_of hi hb, if_true, nn_c hb]
theorem hlq_of {n i x : Nat} {r : Nat → Option Nat} (h : f a = some (.inl (t, n, .inr (.inr (.inr (.inr r)))))) (hi : i < n) (hb : i < 2147483648) (hx : r i = some x) : h_lq f a t (nn i) = some x := by
  simp only [h_lq, haq_of h, hin_of hi hb, if_true, nn_c hb, hx]
theorem hsq_of {n i x cv : Nat} {fv : List Value} {r : Nat → Option Nat} (h : f a = some (.inl (t, n, .inr (.inr (.inr (.inr r)))))) (hv : f x = some (.inr (cv, fv))) (hi : i < n) (hb : i < 2147483648) : h_sq f a t cv (nn i) x = some (h_up f a (.inl (t, n, .inr (.inr (.inr (.inr (va_up r i (some x)))))))) := by
  simp only [h_sq, haq_of h, hfs_of hv, hin_of hi hb, if_true, nn_c hb]
theorem hal_of {x : vp_A} (h : f a = some (.inl (t, x))) : h_al f a t = some (nn x.1) := by
  simp only [h_al, har_of h]
  rfl
theorem hcp_of {a0 n0 n1 sp dp n : Nat} {r0 r1 : Nat → Int32} (h0 : f a0 = some (.inl (t, n0, .inl r0))) (h1 : f a = some (.inl (t, n1, .inl r1))) (b0 : sp + n ≤ n0) (b1 : dp + n ≤ n1) (c0 : n0 < 2147483648) (c1 : n1 < 2147483648) : h_cp f t a0 (nn sp) a (nn dp) (nn n) = some (h_up f a (.inl (t, n1, .inl (va_cpy r0 r1 sp dp n)))) := by
  have z0 := nn_nl sp (by omega)
  have z1 := nn_nl dp (by omega)
  have z2 := nn_nl n (by omega)
  simp only [h_cp, hai_of h0, hai_of h1, nn_c (show sp < 2147483648 by omega), nn_c (show dp < 2147483648 by omega), nn_c (show n < 2147483648 by omega)]
  rw [if_pos ⟨z0, z1, z2, b0, b1⟩]
end CE
theorem pm_abs (V : Nat → Nat) (g f : GH) (v : Int32) : p_J9_abs_0f7a4 V g f v = some (if (0 : Int32) ≤ v then v else -v) := by
  unfold p_J9_abs_0f7a4
  split <;> rfl
theorem pm_max (V : Nat → Nat) (g f : GH) (a b : Int32) : p_J9_max_7cf53 V g f a b = some (if a < b then b else a) := by
  unfold p_J9_max_7cf53
  split <;> rfl
theorem pm_min (V : Nat → Nat) (g f : GH) (a b : Int32) : p_J9_min_7cf53 V g f a b = some (if b < a then b else a) := by
  unfold p_J9_min_7cf53
  split <;> rfl
/-- outside a range nothing changed -/
def h_out (lo hi : Nat) (f f1 : GH) : Prop := ∀ a, a < lo ∨ hi ≤ a → f1 a = f a
theorem h_out.rf (lo hi : Nat) (f : GH) : h_out lo hi f f := fun _ _ => rfl
theorem h_out.tr {lo hi : Nat} {f f1 f2 : GH} (h : h_out lo hi f f1) (k : h_out lo hi f1 f2) : h_out lo hi f f2 := fun a ha => (k a ha).trans (h a ha)
theorem h_out.up {lo hi a : Nat} {f f1 : GH} {e : GE} (h : h_out lo hi f f1) (h0 : lo ≤ a) (h1 : a < hi) : h_out lo hi f (h_up f1 a e) := fun b hb => by
  rw [h_up_n _ _ (by omega)]
  exact h b hb
theorem h_out.wide {lo hi lo1 hi1 : Nat} {f f1 : GH} (h : h_out lo hi f f1) (h0 : lo1 ≤ lo) (h1 : hi ≤ hi1) : h_out lo1 hi1 f f1 := fun a ha => h a (by omega)

