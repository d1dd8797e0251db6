/-! ===== the rank of a matrix by rows led one behind another ===== -/
/-- r rows have been led, up to column c; the others have noughts there -/
def RI (p n : Nat) (S : (Nat → Nat) → Prop) (A : Nat → Nat → Nat) (r c : Nat) (led : Nat → Bool) (rows : Nat → Nat → Nat) : Prop :=
  EOk p n led rows ∧ r = rk n led ∧ (∀ i, c ≤ i → led i = false) ∧ r ≤ n ∧ (∀ i j, r ≤ i → i < n → j < c → A i j = 0) ∧ (∀ i j, r ≤ i → i < n → j < n → A i j < p) ∧ ∀ u, (Sol p n led rows u ∧ ∀ i, r ≤ i → i < n → dot n (A i) u % p = 0) ↔ S u
theorem RI.start {p n : Nat} {A : Nat → Nat → Nat} (hA : ∀ i j, i < n → j < n → A i j < p) : RI p n (SolM p n n A) A 0 0 (fun _ => false) (fun _ _ => 0) := by
  refine ⟨EOk_0 p n, (rk_0 n).symm, fun _ _ => rfl, Nat.zero_le _, fun i j _ _ h => absurd h (Nat.not_lt_zero j), fun i j _ => hA i j, fun u => ⟨fun q i hi => q.2 i (Nat.zero_le _) hi, fun q => ⟨Sol_0 p n u, fun i _ hi => q i hi⟩⟩⟩
theorem RI.congr {p n r c : Nat} {S : (Nat → Nat) → Prop} {A B : Nat → Nat → Nat} {led : Nat → Bool} {rows : Nat → Nat → Nat} (q : RI p n S A r c led rows) (e : ∀ i j, r ≤ i → i < n → j < n → B i j = A i j) (hc : c ≤ n) : RI p n S B r c led rows := by
  obtain ⟨q1, q2, q3, q4, q5, q6, q7⟩ := q
  refine ⟨q1, q2, q3, q4, fun i j a b d => by rw [e i j a b (by omega)]; exact q5 i j a b d, fun i j a b d => by rw [e i j a b d]; exact q6 i j a b d, fun u => ?_⟩
  rw [← q7 u]
  have k : ∀ i, r ≤ i → i < n → dot n (B i) u % p = dot n (A i) u % p := fun i a b => dot_mod u (fun t ht => by rw [e i t a b ht])
  exact ⟨fun z => ⟨z.1, fun i a b => (k i a b).symm.trans (z.2 i a b)⟩, fun z => ⟨z.1, fun i a b => (k i a b).trans (z.2 i a b)⟩⟩
theorem RI.skip {p n r c : Nat} {S : (Nat → Nat) → Prop} {A : Nat → Nat → Nat} {led : Nat → Bool} {rows : Nat → Nat → Nat} (q : RI p n S A r c led rows) (h : ∀ i, r ≤ i → i < n → A i c = 0) : RI p n S A r (c + 1) led rows := by
  obtain ⟨q1, q2, q3, q4, q5, q6, q7⟩ := q
  refine ⟨q1, q2, fun i hi => q3 i (by omega), q4, fun i j a b d => ?_, q6, q7⟩
  by_cases e : j = c
  · rw [e]; exact h i a b
  · exact q5 i j a b (by omega)
theorem dot_scale {p n b : Nat} (R u : Nat → Nat) : dot n (fun k => R k * b % p) u % p = b * dot n R u % p := by
  rw [dot_mod (b := fun t => b * R t) u (fun t _ => by rw [Nat.mod_mod, Nat.mul_comm])]
  congr 1
  unfold dot
  rw [← sg_mul]
  exact sg_congr (fun t _ => Nat.mul_assoc _ _ _)
/-- the rows as they come to stand: one swapped with the first, led, taken off the others -/
def rowS (p : Nat) (A : Nat → Nat → Nat) (at0 b : Nat) : Nat → Nat := fun k => A at0 k * b % p
def rowT (p : Nat) (A : Nat → Nat → Nat) (r at0 b c : Nat) : Nat → Nat → Nat := fun i k => (A (sw r at0 i) k + (p - A (sw r at0 i) c) * rowS p A at0 b k) % p
theorem RI.pivot {p n r c at0 b : Nat} {S : (Nat → Nat) → Prop} {A : Nat → Nat → Nat} {led : Nat → Bool} {rows : Nat → Nat → Nat} (hp : Pm p) (q : RI p n S A r c led rows) (hc : c < n) (h1 : r ≤ at0) (h2 : at0 < n) (hb0 : 0 < b) (hb : b < p) (h3 : A at0 c * b % p = 1) : RI p n S (rowT p A r at0 b c) (r + 1) (c + 1) (fun t => if t = c then true else led t) (fun t => if t = c then rowS p A at0 b else rows t) := by
  obtain ⟨q1, q2, q3, q4, q5, q6, q7⟩ := q
  have pp : 0 < p := by rcases hp with rfl | rfl | rfl <;> decide
  have lc := q3 c (Nat.le_refl _)
  have R0 : ∀ t, t < c → rowS p A at0 b t = 0 := fun t ht => by unfold rowS; rw [q5 at0 t h1 h2 ht, Nat.zero_mul, Nat.zero_mod]
  have R1 : rowS p A at0 b c = 1 := h3
  have sb : ∀ i, r + 1 ≤ i → i < n → r ≤ sw r at0 i ∧ sw r at0 i < n := fun i a b => by unfold sw; split <;> (try split) <;> omega
  refine ⟨fun i hi hl => ?_, ?_, fun i hi => ?_, by omega, fun i j a b d => ?_, fun i j a b d => Nat.mod_lt _ pp, fun u => ?_⟩
  · by_cases e : i = c
    · subst e
      have e1 : (if i = i then rowS p A at0 b else rows i) = rowS p A at0 b := if_pos rfl
      show (if i = i then rowS p A at0 b else rows i) i = 1 ∧ (∀ t, t < i → (if i = i then rowS p A at0 b else rows i) t = 0) ∧ ∀ t, t < n → (if i = i then rowS p A at0 b else rows i) t < p
      rw [e1]
      exact ⟨R1, R0, fun t _ => Nat.mod_lt _ pp⟩
    · have hl' : led i = true := by
        have : (if i = c then true else led i) = true := hl
        rw [if_neg e] at this
        exact this
      show (if i = c then rowS p A at0 b else rows i) i = 1 ∧ (∀ t, t < i → (if i = c then rowS p A at0 b else rows i) t = 0) ∧ ∀ t, t < n → (if i = c then rowS p A at0 b else rows i) t < p
      rw [if_neg e]
      exact q1 i hi hl'
  · rw [rk_put hc lc, q2]
  · show (if i = c then true else led i) = false
    rw [if_neg (by omega)]
    exact q3 i (by omega)
  · obtain ⟨s1, s2⟩ := sb i a b
    by_cases e : j = c
    · subst e
      have lt := q6 _ j s1 s2 hc
      show (_ + (p - _) * rowS p A at0 _ j) % p = 0
      rw [R1, Nat.mul_one, show A (sw r at0 i) j + (p - A (sw r at0 i) j) = p by omega, Nat.mod_self]
    · show (_ + _ * rowS p A at0 _ j) % p = 0
      rw [q5 _ j s1 s2 (by omega), R0 j (by omega), Nat.mul_zero, Nat.zero_mod]
  · rw [← q7 u]
    have k1 : Sol p n (fun t => if t = c then true else led t) (fun t => if t = c then rowS p A at0 b else rows t) u ↔ Sol p n led rows u ∧ dot n (rowS p A at0 b) u % p = 0 := by
      constructor
      · intro z
        refine ⟨fun i hi hl => ?_, ?_⟩
        · have e : i ≠ c := fun e => by rw [e, lc] at hl; cases hl
          have := z i hi (by show (if i = c then true else led i) = true; rw [if_neg e]; exact hl)
          have e2 : (if i = c then rowS p A at0 b else rows i) = rows i := if_neg e
          exact (congrArg (fun v => dot n v u % p) e2).symm.trans this
        · have := z c hc (by show (if c = c then true else led c) = true; rw [if_pos rfl])
          have e2 : (if c = c then rowS p A at0 b else rows c) = rowS p A at0 b := if_pos rfl
          exact (congrArg (fun v => dot n v u % p) e2).symm.trans this
      · intro z i hi hl
        by_cases e : i = c
        · have e2 : (if i = c then rowS p A at0 b else rows i) = rowS p A at0 b := if_pos e
          exact (congrArg (fun v => dot n v u % p) e2).trans z.2
        · have e2 : (if i = c then rowS p A at0 b else rows i) = rows i := if_neg e
          have hl' : led i = true := by
            have : (if i = c then true else led i) = true := hl
            rw [if_neg e] at this
            exact this
          exact (congrArg (fun v => dot n v u % p) e2).trans (z.1 i hi hl')
    have k2 : dot n (rowS p A at0 b) u % p = 0 ↔ dot n (A at0) u % p = 0 := by
      unfold rowS
      rw [dot_scale]
      exact unit_dot hp hb0 hb
    have k3 : dot n (rowS p A at0 b) u % p = 0 → ∀ i, dot n (rowT p A r at0 b c i) u % p = dot n (A (sw r at0 i)) u % p := fun z i => by
      unfold rowT
      rw [dot_mod (b := fun t => A (sw r at0 i) t + (p - A (sw r at0 i) c) * rowS p A at0 b t) u (fun t _ => Nat.mod_mod _ _), dot_lin, Nat.add_mod, Nat.mul_mod (p - A (sw r at0 i) c), z, Nat.mul_zero, Nat.zero_mod, Nat.add_zero, Nat.mod_mod]
    rw [k1]
    constructor
    · intro ⟨⟨z1, z2⟩, z3⟩
      refine ⟨z1, fun i a b => ?_⟩
      by_cases e : i = at0
      · rw [e]; exact k2.mp z2
      · by_cases e2 : i = r
        · have := z3 at0 (by omega) h2
          rw [k3 z2] at this
          have e3 : sw r at0 at0 = r := by unfold sw; rw [if_neg (by omega), if_pos rfl]
          rw [e3] at this
          rw [e2]; exact this
        · have := z3 i (by omega) b
          rw [k3 z2] at this
          have e3 : sw r at0 i = i := by unfold sw; rw [if_neg e2, if_neg e]
          rw [e3] at this
          exact this
    · intro ⟨z1, z2⟩
      have z3 := k2.mpr (z2 at0 h1 h2)
      refine ⟨⟨z1, z3⟩, fun i a b => ?_⟩
      rw [k3 z3]
      obtain ⟨s1, s2⟩ := sb i a b
      exact z2 _ s1 s2
theorem RI.end {p n r c : Nat} {S : (Nat → Nat) → Prop} {A : Nat → Nat → Nat} {led : Nat → Bool} {rows : Nat → Nat → Nat} (q : RI p n S A r c led rows) (h : r = n ∨ c = n) : isRank p n S r := by
  obtain ⟨q1, q2, q3, q4, q5, q6, q7⟩ := q
  refine ⟨led, rows, q1, q2, fun u => ?_⟩
  rw [← q7 u]
  refine ⟨fun z => ⟨z, fun i a b => ?_⟩, fun z => z.1⟩
  rcases h with h | h
  · omega
  · rw [dot_zero u (fun t ht => q5 i t a b (by omega)), Nat.zero_mod]
/-- the least number that turns a digit back into one -/
theorem by_ex {p v : Nat} (hp : Pm p) (h0 : 0 < v) (hv : v < p) : ∃ b, 0 < b ∧ b < p ∧ v * b % p = 1 ∧ ∀ a, 0 < a → a < b → a * v % p ≠ 1 := by
  have k : ∀ b, 0 < b → b < p → v * b % p = 1 → (∀ a, a < b → 0 < a → a * v % p ≠ 1) → ∃ b, 0 < b ∧ b < p ∧ v * b % p = 1 ∧ ∀ a, 0 < a → a < b → a * v % p ≠ 1 := fun b h1 h2 h3 h4 => ⟨b, h1, h2, h3, fun a a1 a2 => h4 a a2 a1⟩
  rcases hp with rfl | rfl | rfl
  · have : v = 1 := by omega
    subst this
    exact k 1 (by decide) (by decide) (by decide) (by decide)
  · have : v = 1 ∨ v = 2 := by omega
    rcases this with rfl | rfl
    · exact k 1 (by decide) (by decide) (by decide) (by decide)
    · exact k 2 (by decide) (by decide) (by decide) (by decide)
  · have : v = 1 ∨ v = 2 ∨ v = 3 ∨ v = 4 := by omega
    rcases this with rfl | rfl | rfl | rfl
    · exact k 1 (by decide) (by decide) (by decide) (by decide)
    · exact k 3 (by decide) (by decide) (by decide) (by decide)
    · exact k 2 (by decide) (by decide) (by decide) (by decide)
    · exact k 4 (by decide) (by decide) (by decide) (by decide)
