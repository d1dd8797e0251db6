section LB
variable {h : AH} {L E : Nat} {W : Wd} {f : Int32} {p n : Nat}
abbrev LHd (h : AH) (L E : Nat) : Prop := h L = some (ob 2 [.ref (E + 83), .ref (L + 1), .ref (L + 4), .ref (L + 5), .ref (L + 10)])
abbrev LGr (h : AH) (L : Nat) : Prop := h (L + 5) = some (aG 4 (fun d => if d < 4 then some (L + 6 + d) else none)) ∧ h (L + 10) = some (aG 4 (fun d => if d < 4 then some (L + 11 + d) else none))
/-- what is kept of one kind, for codes below c -/
def RowA (h : AH) (L d p n c : Nat) : Prop := (∃ g, h (L + 11 + d) = some (aI 3 g) ∧ ∀ w, w < 3 → g w = nI (Lc p n w c)) ∧ ∃ g, h (L + 6 + d) = some (aI 32 g) ∧ ∀ t, t < Lc p n 0 c → ∃ k, g t = nI k ∧ k < c ∧ Div (lw p n k) ∧ Lc p n 0 k = t
theorem RowA.far {h2 : AH} {d c : Nat} (q : RowA h L d p n c) (e1 : h2 (L + 11 + d) = h (L + 11 + d)) (e2 : h2 (L + 6 + d) = h (L + 6 + d)) : RowA h2 L d p n c := by
  obtain ⟨⟨g, a1, a2⟩, g2, a3, a4⟩ := q
  exact ⟨⟨g, e1.trans a1, a2⟩, g2, e2.trans a3, a4⟩
theorem RowA.skip {d c m : Nat} (q : RowA h L d p n c) (hn : ∀ k, k < m → ¬ Div (lw p n (c + k))) : RowA h L d p n (c + m) := by
  have e : ∀ w, Lc p n w (c + m) = Lc p n w c := fun w => by
    unfold Lc
    rw [cn_add, cn_none (n := m) (fun x hx => bl_f (fun z => hn x hx z.1)), Nat.add_zero]
  obtain ⟨⟨g, a1, a2⟩, g2, a3, a4⟩ := q
  refine ⟨⟨g, a1, fun w hw => by rw [e]; exact a2 w hw⟩, g2, a3, fun t ht => ?_⟩
  rw [e] at ht
  obtain ⟨k, k1, k2, k3⟩ := a4 t ht
  exact ⟨k, k1, by omega, k3⟩
end LB
