/-! ===== Study: what is not carried ===== -/
section SJ
variable {h : AH} {E o o2 S : Nat} {W W2 : Wd} {f f2 : Int32} {x : Sx}
noncomputable def imR (x : Sx) (W : Wd) (m : Nat) : Nat := rkf W.1 W.2.1 (SolM W.1 W.2.1 W.2.1 (mrow W.1 (imn x W m)))
def Carry (x : Sx) (W W2 : Wd) (z : Int32) : Prop :=
  (¬ ImOk x W ∧ z = -2) ∨ (ImOk x W ∧ ∃ m, m < 3 ∧ z = nI (100 + m) ∧ imR x W m < W.2.1 ∧ ∀ k, k < m → imR x W k = W.2.1) ∨
  (ImOk x W ∧ (∀ m, m < 3 → imR x W m = W.2.1) ∧ FNC x W W2 z)
theorem c_X0_settle2 {p w : Nat} {nx : Nat → Nat} {S0 : (Nat → Nat) → Prop} (hE : ∃ r led rows, EAt h E p w r led rows nx ∧ EOk p w led rows ∧ r = rk w led ∧ ∀ u, Sol p w led rows u ↔ S0 u) (hp : Pm p) (hw : w ≤ 75) (hn : ∀ t, t < w → nx t < p) : CI yX0_settle MX0_settle [.ref E] h (fun _ h' => ES h' E p w (fun u => S0 u ∧ dot w nx u % p = 0) ∧ Ee E h h') := by
  obtain ⟨r, led, rows, a1, a2, a3, a4⟩ := hE
  refine (c_X0_settle a1 hp hw a2 a3 hn).mono (fun z h' q => ?_)
  obtain ⟨bb, r2, led2, rows2, -, p1, ⟨s1, s2, s3, s4, s5⟩, p2⟩ := q
  exact ⟨⟨r2, led2, rows2, p1, s3, s4, fun u => by rw [s5 u, a4 u]⟩, p2⟩
theorem SolM_succ {p n m : Nat} {A : Nat → Nat → Nat} (u : Nat → Nat) : SolM p n m A u ∧ dot n (A m) u % p = 0 ↔ SolM p n (m + 1) A u := by
  constructor
  · intro ⟨y1, y2⟩ c hc
    by_cases e : c = m
    · subst e; exact y2
    · exact y1 c (by omega)
  · intro y
    exact ⟨fun c hc => y c (by omega), y m (by omega)⟩
end SJ
