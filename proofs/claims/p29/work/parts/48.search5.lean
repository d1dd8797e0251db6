/-! ===== Search: a basis is chosen, its pairs are found ===== -/
section CB2
variable {h : AH} {B o : Nat} {W : Wd} {f : Int32} {b : Nat → Nat} {cnt : Nat} {fx : Int32}
theorem SumT.keep {h2 : AH} (q : SumT h B W) (e : h2 (B + 1) = h (B + 1)) : SumT h2 B W := by
  obtain ⟨g, q1, q2⟩ := q
  exact ⟨g, e.trans q1, q2⟩
theorem WAt.fb {h2 : AH} (q : WAt h o W f) (e : ∀ a, (a < B + 5 ∨ B + 12 ≤ a) → h2 a = h a) (d : o + 3 ≤ B ∨ B + 14 ≤ o) : WAt h2 o W f :=
  q.kept (e _ (by omega)) (e _ (by omega)) (by obtain ⟨-, -, g, q⟩ := q; exact ⟨g, (e _ (by omega)).trans q⟩)
theorem base_free (hk : Wok W) {gl gr : Nat → Int32} {l : Nat} (hl : l < W.2.1) (hM : BMath W b gl gr l) (h : ∀ i, i < W.2.1 → ∃ t, t < W.1 ^ l ∧ lin W.1 W.2.1 b t = W.1 ^ i) : False := by
  obtain ⟨b1, b2, b3, b4, b5⟩ := hk.b
  have hlt : W.1 ^ l < W.1 ^ W.2.1 := Nat.pow_lt_pow_right (by omega) hl
  have hc : ∀ i, ∃ t, i < W.2.1 → t < W.1 ^ l ∧ lin W.1 W.2.1 b t = W.1 ^ i := fun i => by
    by_cases c : i < W.2.1
    · obtain ⟨t, ht⟩ := h i c; exact ⟨t, fun _ => ht⟩
    · exact ⟨0, fun q => absurd q c⟩
  have hcc := Classical.axiomOfChoice hc
  obtain ⟨cc, hcc⟩ := hcc
  have key : ∀ x, x < W.1 ^ W.2.1 → lin W.1 W.2.1 cc x < W.1 ^ l ∧ lin W.1 W.2.1 b (lin W.1 W.2.1 cc x) = x := fun x hx => by
    refine ⟨lin_lt (by omega) (by omega) (fun i hi => (hcc i hi).1), ?_⟩
    rw [lin_lin (by omega) b4, lin_congr (cs := fun i => W.1 ^ i) (fun i hi => (hcc i hi).2), lin_id (by omega) b4 hx]
  have : cn (W.1 ^ W.2.1) (fun _ => true) ≤ cn (W.1 ^ l) (fun _ => true) := cn_inj _ _ _ _ (lin W.1 W.2.1 cc) (fun x hx _ => ⟨(key x hx).1, rfl⟩) (fun x y hx hy _ _ e => by rw [← (key x hx).2, ← (key y hy).2, e])
  have e : ∀ N, cn N (fun _ => true) = N := fun N => by
    induction N with
    | zero => rfl
    | succ N ih => show cn N _ + (if true = true then 1 else 0) = N + 1; rw [ih, if_pos rfl]
  rw [e, e] at this
  omega
end CB2
