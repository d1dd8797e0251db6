/-! ===== Study: a world made to have a unit ===== -/
/-- unchanged but for the Study's cells and two worlds -/
def Fr2 (E o o2 : Nat) (h h' : AH) : Prop := ∀ a, (a < E ∨ E + 89 ≤ a) → a ≠ o → a ≠ o + 1 → a ≠ o + 2 → a ≠ o2 → a ≠ o2 + 1 → a ≠ o2 + 2 → h' a = h a
theorem Fr2.rf (E o o2 : Nat) (h : AH) : Fr2 E o o2 h h := fun _ _ _ _ _ _ _ _ => rfl
theorem Fr2.tr {E o o2 : Nat} {h h1 h2 : AH} (a : Fr2 E o o2 h h1) (b : Fr2 E o o2 h1 h2) : Fr2 E o o2 h h2 := fun q a1 a2 a3 a4 a5 a6 a7 => (b q a1 a2 a3 a4 a5 a6 a7).trans (a q a1 a2 a3 a4 a5 a6 a7)
theorem Fr.f2 {E o o2 : Nat} {h h1 : AH} (e : Fr E o h h1) : Fr2 E o o2 h h1 := fun q a1 a2 a3 a4 _ _ _ => e q a1 a2 a3 a4
theorem Ew.f2 {E o o2 : Nat} {h h1 : AH} (e : Ew o2 h h1) : Fr2 E o o2 h h1 := fun q _ _ _ _ a5 a6 a7 => e q a5 a6 a7
theorem Ew.f2' {E o o2 : Nat} {h h1 : AH} (e : Ew o h h1) : Fr2 E o o2 h h1 := fun q _ a5 a6 a7 _ _ _ => e q a5 a6 a7
theorem WAt.es {h h2 : AH} {o o2 : Nat} {W : Wd} {f : Int32} (hW : WAt h o2 W f) (e : Es o h h2) (d : o2 + 3 ≤ o ∨ o + 3 ≤ o2) : WAt h2 o2 W f := hW.far e.ew (by omega)
theorem WAt.ft {h h2 : AH} {E o o2 : Nat} {W : Wd} {f : Int32} (hW : WAt h o2 W f) (e : Ft E o h h2) (d : o2 + 3 ≤ o ∨ o + 3 ≤ o2) (d2 : o2 + 3 ≤ E ∨ E + 89 ≤ o2) : WAt h2 o2 W f := by
  obtain ⟨a1, a2, g, a3⟩ := hW
  exact ⟨by rw [e _ (by omega) (by omega) (by omega)]; exact a1, by rw [e _ (by omega) (by omega) (by omega)]; exact a2, g, by rw [e _ (by omega) (by omega) (by omega)]; exact a3⟩
noncomputable def uD (W : Wd) (e t : Nat) : Nat := dg W.1 (mul W (qz W e false (W.1 ^ (t / 25))) (qz W e true (W.1 ^ (t / 5 % 5)))) (t % 5)
noncomputable def wup (W : Wd) (e j i : Nat) : Wd := (W.1, W.2.1, fun t => if inC W.2.1 t ∧ (t / 5 % 5 < j ∨ t / 5 % 5 = j ∧ t / 25 < i) then uD W e t else 0)
theorem wup_ok {W : Wd} (hk : Wok W) (e j i : Nat) : Wok (wup W e j i) := by
  obtain ⟨h1, h2, h3, h4, h5⟩ := id hk
  have h9 := hk.b
  refine ⟨h1, h2, h3, h4, fun k => ⟨?_, fun q => if_neg (fun c => q c.1)⟩⟩
  show (if _ then _ else _) < W.1
  split
  · exact dg_lt (by omega) _ _
  · omega
theorem wup_0 (W : Wd) (e : Nat) : wup W e 0 0 = (W.1, W.2.1, fun _ => 0) := by
  unfold wup
  congr 2
  funext t
  exact if_neg (fun c => by omega)
theorem wup_j {W : Wd} (e j : Nat) : wup W e j W.2.1 = wup W e (j + 1) 0 := by
  unfold wup
  congr 2
  funext t
  by_cases c : inC W.2.1 t ∧ (t / 5 % 5 < j ∨ t / 5 % 5 = j ∧ t / 25 < W.2.1)
  · rw [if_pos c, if_pos ⟨c.1, by omega⟩]
  · rw [if_neg c, if_neg (fun q => c ⟨q.1, by have := q.1.2.1; omega⟩)]
theorem wup_n {W : Wd} (e : Nat) : wup W e W.2.1 0 = wuni W e := by
  unfold wup wuni uD
  congr 2
  funext t
  by_cases c : inC W.2.1 t
  · rw [if_pos c, if_pos ⟨c, Or.inl c.2.2.1⟩]
  · rw [if_neg c, if_neg (fun q => c q.1)]
theorem wup_i {W : Wd} (hk : Wok W) (e : Nat) {i j : Nat} (hi : i < W.2.1) (hj : j < W.2.1) : wrow (wup W e j i) i j W.2.1 (mul W (qz W e false (W.1 ^ i)) (qz W e true (W.1 ^ j))) = wup W e j (i + 1) := by
  have h9 := hk.b
  unfold wrow wup
  congr 2
  funext t
  dsimp only
  by_cases c : 25 * i + 5 * j ≤ t ∧ t < 25 * i + 5 * j + W.2.1
  · have c1 : t / 25 = i := by omega
    have c2 : t / 5 % 5 = j := by omega
    have c3 : t % 5 = t - (25 * i + 5 * j) := by omega
    rw [if_pos c, if_pos ⟨⟨by omega, by omega, by omega, by omega⟩, by omega⟩]
    unfold uD
    rw [c1, c2, c3]
  · rw [if_neg c]
    by_cases c4 : inC W.2.1 t ∧ (t / 5 % 5 < j ∨ t / 5 % 5 = j ∧ t / 25 < i)
    · rw [if_pos c4, if_pos ⟨c4.1, by omega⟩]
    · rw [if_neg c4, if_neg (fun q => c4 ⟨q.1, by have := q.1; have := q.2; omega⟩)]
section SY
variable {h : AH} {E o o2 : Nat} {W : Wd} {f : Int32}
section MU
variable {sz e : Nat} {hh : AH} {Pr : AH → Prop}
def UM (h1 : AH) (E : Nat) (W : Wd) (e m : Nat) : Prop := ∃ g, h1 (E + 85) = some (aI 5 g) ∧ ∀ t, t < m → g t = nI (qz W e false (W.1 ^ t))
end MU
end SY
