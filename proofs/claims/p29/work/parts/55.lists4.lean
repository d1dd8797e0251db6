/-! ===== Lists: searched once ===== -/
section LR
variable {h : AH} {L E : Nat} {W : Wd} {f : Int32} {p n : Nat}
def kp (d : Nat) : Nat := if d = 2 then 3 else if d = 3 then 5 else 2
def kn (d : Nat) : Nat := if d = 1 then 3 else 2
theorem kd_kp {p n : Nat} (h : Kd p n) : kp (kdn p n) = p ∧ kn (kdn p n) = n ∧ kdn p n < 4 := by
  rcases h with ⟨rfl, rfl | rfl | rfl⟩ | ⟨rfl, rfl⟩ <;> decide
theorem kp_kd {d : Nat} (h : d < 4) : Kd (kp d) (kn d) := by
  match d, h with
  | 0, _ => exact Or.inl ⟨rfl, Or.inl rfl⟩
  | 1, _ => exact Or.inr ⟨rfl, rfl⟩
  | 2, _ => exact Or.inl ⟨rfl, Or.inr (Or.inl rfl)⟩
  | 3, _ => exact Or.inl ⟨rfl, Or.inr (Or.inr rfl)⟩
/-- the Lists object: which kinds were searched, what was found -/
def LSh (h : AH) (L E : Nat) (S : Nat → Bool) : Prop := LHd h L E ∧ LGr h L ∧ (∃ W f, WAt h (L + 1) W f ∧ Wok W) ∧ (∃ g, h (L + 4) = some (aZ 4 g) ∧ ∀ d, d < 4 → g d = bI (S d)) ∧ ∀ d, d < 4 → RowA h L d (kp d) (kn d) (if S d = true then Lall (kp d) (kn d) else 0)
theorem LSh.far {h2 : AH} {S : Nat → Bool} (q : LSh h L E S) (e : ∀ a, L ≤ a → a < L + 15 → h2 a = h a) : LSh h2 L E S := by
  obtain ⟨a1, ⟨a2, a3⟩, ⟨W, f, a4, a5⟩, ⟨g, a6, a7⟩, a8⟩ := q
  refine ⟨(e _ (by omega) (by omega)).trans a1, ⟨(e _ (by omega) (by omega)).trans a2, (e _ (by omega) (by omega)).trans a3⟩, ⟨W, f, a4.kept (e _ (by omega) (by omega)) (e _ (by omega) (by omega)) ?_, a5⟩, ⟨g, (e _ (by omega) (by omega)).trans a6, a7⟩, fun d hd => (a8 d hd).far (e _ (by omega) (by omega)) (e _ (by omega) (by omega))⟩
  obtain ⟨g, hg⟩ := a4.2.2
  exact ⟨g, (e _ (by omega) (by omega)).trans hg⟩
/-- nothing changed but the tools and the Lists' own cells -/
def Fq (E L : Nat) (h h' : AH) : Prop := ∀ a, (a < E ∨ E + 89 ≤ a) → (a < L ∨ L + 15 ≤ a) → h' a = h a
theorem Fq.rf (E L : Nat) (h : AH) : Fq E L h h := fun _ _ _ => rfl
theorem Fq.tr {E L : Nat} {h h1 h2 : AH} (a : Fq E L h h1) (b : Fq E L h1 h2) : Fq E L h h2 := fun q x y => (b q x y).trans (a q x y)
/-- what stands between the steps of a search -/
def RSt (hh h1 : AH) (L E d p n c : Nat) (gs : Nat → Int32) : Prop := LHd h1 L E ∧ LGr h1 L ∧ (∃ W f, WAt h1 (L + 1) W f ∧ Wok W) ∧ h1 (L + 4) = some (aZ 4 gs) ∧ TSh h1 E ∧ RowA h1 L d p n c ∧ (∀ e, e < 4 → e ≠ d → h1 (L + 11 + e) = hh (L + 11 + e) ∧ h1 (L + 6 + e) = hh (L + 6 + e)) ∧ Fq E L hh h1
/-- how many are listed; none such list -/
def LstC (x y w : Int32) (z : Int32) : Prop := (∃ p n k, x = nI p ∧ y = nI n ∧ Kd p n ∧ w = nI k ∧ k < 3 ∧ z = nI (Lc p n k (Lall p n))) ∨ (z = -1 ∧ ∀ p n k, x = nI p → y = nI n → Kd p n → w = nI k → ¬ k < 3)
theorem le2 {w : Int32} (h0 : ¬ w < 0) (h2 : w ≤ nI 2) : ∃ k, w = nI k ∧ k < 3 := by
  have e : okI w 3 = true := by
    unfold okI
    rw [decide_eq_false h0]
    have : w < nI 3 := by
      rw [Int32.le_iff_toInt_le] at h2
      rw [Int32.lt_iff_toInt_lt]
      have a1 : (nI 2).toInt = 2 := by decide
      have a2 : (nI 3).toInt = 3 := by decide
      omega
    rw [decide_eq_true this]
    rfl
  obtain ⟨k, h1, h2⟩ := okI_of (by decide) e
  exact ⟨k, h2, h1⟩
/-- the code of the i-th world listed -/
def LstN (x y i : Int32) (c : Nat) : Prop := ∃ p n t, x = nI p ∧ y = nI n ∧ Kd p n ∧ i = nI t ∧ t < 32 ∧ c < Lall p n ∧ Div (lw p n c) ∧ Lc p n 0 c = t
def LstH (x y i : Int32) : Prop := ∃ p n t, x = nI p ∧ y = nI n ∧ Kd p n ∧ i = nI t ∧ t < Lc p n 0 (Lall p n)
end LR
