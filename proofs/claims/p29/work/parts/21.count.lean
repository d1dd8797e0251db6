/-! ===== how many solutions: the rank does not hang on the way ===== -/
noncomputable def bl (P : Prop) : Bool := @decide P (Classical.propDecidable P)
theorem bl_t {P : Prop} (h : P) : bl P = true := by unfold bl; exact @decide_eq_true P (Classical.propDecidable P) h
theorem bl_f {P : Prop} (h : ¬ P) : bl P = false := by unfold bl; exact @decide_eq_false P (Classical.propDecidable P) h
theorem bl_iff {P : Prop} : bl P = true ↔ P := by unfold bl; exact @decide_eq_true_iff P (Classical.propDecidable P)
theorem bl_congr {P Q : Prop} (h : P ↔ Q) : bl P = bl Q := by rw [propext h]
/-- how many below N -/
def cn : Nat → (Nat → Bool) → Nat
  | 0, _ => 0
  | n + 1, P => cn n P + if P n = true then 1 else 0
theorem cn_congr {P Q : Nat → Bool} : ∀ {n : Nat}, (∀ x, x < n → P x = Q x) → cn n P = cn n Q
  | 0, _ => rfl
  | n + 1, h => by
    show cn n P + _ = cn n Q + _
    rw [cn_congr (n := n) (fun x hx => h x (by omega)), h n (by omega)]
theorem cn_add (a : Nat) (P : Nat → Bool) : ∀ b, cn (a + b) P = cn a P + cn b (fun y => P (a + y))
  | 0 => rfl
  | b + 1 => by
    show cn (a + b) P + _ = cn a P + (cn b (fun y => P (a + y)) + _)
    rw [cn_add a P b, Nat.add_assoc]
    rfl
theorem cn_mul (N : Nat) (P : Nat → Bool) : ∀ d, cn (d * N) P = sg d (fun e => cn N (fun y => P (e * N + y)))
  | 0 => by rw [Nat.zero_mul]; rfl
  | d + 1 => by
    rw [Nat.add_mul, Nat.one_mul, cn_add, cn_mul N P d]
    rfl
theorem cn_none {P : Nat → Bool} {n : Nat} (h : ∀ x, x < n → P x = false) : cn n P = 0 := by
  induction n with
  | zero => rfl
  | succ n ih =>
    show cn n P + (if P n = true then 1 else 0) = 0
    rw [ih (fun x hx => h x (by omega)), h n (by omega)]
    rfl
theorem sg_ind {d : Nat} : ∀ {n m : Nat}, m < n → sg n (fun t => if t = m then d else 0) = d
  | 0, _, h => absurd h (Nat.not_lt_zero _)
  | n + 1, m, h => by
    show sg n _ + (if n = m then d else 0) = d
    by_cases e : n = m
    · subst e
      rw [if_pos rfl, sg_zero (fun t ht => if_neg (by omega)), Nat.zero_add]
    · rw [if_neg e, Nat.add_zero]
      exact sg_ind (by omega)
theorem one_d {p K c : Nat} (hp : Pm p) : sg p (fun d => if (K + d) % p = 0 then c else 0) = c := by
  have hlt : (p - K % p) % p < p := Nat.mod_lt _ (by rcases hp with rfl | rfl | rfl <;> decide)
  rw [sg_congr (g := fun d => if d = (p - K % p) % p then c else 0) (fun d hd => by
    have : (K + d) % p = 0 ↔ d = (p - K % p) % p := by rcases hp with rfl | rfl | rfl <;> omega
    by_cases e : (K + d) % p = 0
    · rw [if_pos e, if_pos (this.mp e)]
    · rw [if_neg e, if_neg (fun z => e (this.mpr z))]), sg_ind hlt]
/-- low digits of y, what stands above -/
def mix (p m y : Nat) (v : Nat → Nat) : Nat → Nat := fun t => if t < m then dg p y t else v t
theorem mix_up {p m y d : Nat} {v : Nat → Nat} (hp : 0 < p) (hd : d < p) (hy : y < p ^ m) : mix p (m + 1) (d * p ^ m + y) v = mix p m y (fun t => if t = m then d else v t) := by
  funext t
  dsimp only [mix]
  by_cases e : t < m
  · rw [if_pos (by omega), if_pos e]
    unfold dg
    obtain ⟨c, rfl⟩ : ∃ c, m = t + 1 + c := ⟨m - (t + 1), by omega⟩
    rw [Nat.add_comm, show d * p ^ (t + 1 + c) = (d * p ^ c * p) * p ^ t by rw [Nat.pow_add, Nat.pow_succ]; ac_rfl, Nat.add_mul_div_right _ _ (Nat.pow_pos hp), Nat.add_mul_mod_self_right]
  · rw [if_neg e]
    by_cases e2 : t = m
    · subst e2
      rw [if_pos (by omega), if_pos rfl]
      unfold dg
      rw [Nat.add_comm, Nat.add_mul_div_right _ _ (Nat.pow_pos hp), Nat.div_eq_of_lt hy, Nat.zero_add, Nat.mod_eq_of_lt hd]
    · rw [if_neg (by omega), if_neg e2]
theorem cnt_low {p w : Nat} {led : Nat → Bool} {rows : Nat → Nat → Nat} (hp : Pm p) (hO : EOk p w led rows) : ∀ (m : Nat), m ≤ w → ∀ v : Nat → Nat, cn (p ^ m) (fun y => bl (∀ i, i < m → led i = true → dot w (rows i) (mix p m y v) % p = 0)) = p ^ (m - rk m led) := by
  have hp0 : 0 < p := by rcases hp with rfl | rfl | rfl <;> decide
  intro m
  induction m with
  | zero =>
    intro _ v
    show 0 + (if bl _ = true then 1 else 0) = 1
    rw [bl_t (fun i hi => absurd hi (Nat.not_lt_zero i))]
    rfl
  | succ m ih =>
    intro hm v
    have hrk := rk_le m led
    rw [Nat.pow_succ, Nat.mul_comm, cn_mul]
    have step : ∀ d, d < p → cn (p ^ m) (fun y => bl (∀ i, i < m + 1 → led i = true → dot w (rows i) (mix p (m + 1) (d * p ^ m + y) v) % p = 0)) = if led m = true then (if (sg w (fun t => if t ≤ m then 0 else rows m t * v t) + d) % p = 0 then p ^ (m - rk m led) else 0) else p ^ (m - rk m led) := by
      intro d hd
      have e0 : ∀ y, y < p ^ m → (∀ i, i < m + 1 → led i = true → dot w (rows i) (mix p (m + 1) (d * p ^ m + y) v) % p = 0) = ((∀ i, i < m → led i = true → dot w (rows i) (mix p m y (fun t => if t = m then d else v t)) % p = 0) ∧ (led m = true → (sg w (fun t => if t ≤ m then 0 else rows m t * v t) + d) % p = 0)) := by
        intro y hy
        rw [mix_up hp0 hd hy]
        have key : led m = true → dot w (rows m) (mix p m y (fun t => if t = m then d else v t)) = sg w (fun t => if t ≤ m then 0 else rows m t * v t) + d := by
          intro hl
          obtain ⟨o1, o2, -⟩ := hO m (by omega) hl
          have e : sg w (fun t => if t = m then d else 0) = d := sg_ind (by omega)
          unfold dot
          rw [sg_congr (g := fun t => (if t ≤ m then 0 else rows m t * v t) + (if t = m then d else 0)) (fun t _ => by
            dsimp only [mix]
            by_cases c1 : t < m
            · rw [o2 t c1, Nat.zero_mul, if_pos (by omega), if_neg (by omega)]
            · by_cases c2 : t = m
              · subst c2
                rw [if_neg (Nat.lt_irrefl t), if_pos rfl, if_pos (Nat.le_refl t), if_pos rfl, o1, Nat.one_mul, Nat.zero_add]
              · rw [if_neg c1, if_neg c2, if_neg (by omega), if_neg c2, Nat.add_zero]), sg_add, e]
        apply propext
        constructor
        · intro q
          exact ⟨fun i hi hl => q i (by omega) hl, fun hl => by rw [← key hl]; exact q m (by omega) hl⟩
        · intro q i hi hl
          by_cases c : i = m
          · subst c; rw [key hl]; exact q.2 hl
          · exact q.1 i (by omega) hl
      rw [cn_congr (fun y hy => congrArg bl (e0 y hy))]
      by_cases hl : led m = true
      · rw [if_pos hl]
        by_cases hK : (sg w (fun t => if t ≤ m then 0 else rows m t * v t) + d) % p = 0
        · rw [if_pos hK, ← ih (by omega) (fun t => if t = m then d else v t)]
          exact cn_congr (fun y _ => bl_congr ⟨fun q => q.1, fun q => ⟨q, fun _ => hK⟩⟩)
        · rw [if_neg hK]
          exact cn_none (fun y _ => bl_f (fun q => hK (q.2 hl)))
      · rw [if_neg hl, ← ih (by omega) (fun t => if t = m then d else v t)]
        exact cn_congr (fun y _ => bl_congr ⟨fun q => q.1, fun q => ⟨q, fun z => absurd z hl⟩⟩)
    rw [sg_congr step]
    show _ = p ^ (m + 1 - (rk m led + if led m = true then 1 else 0))
    by_cases hl : led m = true
    · simp only [if_pos hl]
      rw [one_d hp]
      congr 1
      omega
    · simp only [if_neg hl]
      rw [show m + 1 - (rk m led + 0) = (m - rk m led) + 1 by omega, Nat.pow_succ, Nat.mul_comm]
      have : ∀ n c, sg n (fun _ => c) = n * c := fun n c => by
        induction n with
        | zero => show 0 = 0 * c; omega
        | succ n ih => show sg n (fun _ => c) + c = _; rw [ih, Nat.add_mul, Nat.one_mul]
      rw [this]
theorem cnt_sol {p w : Nat} {S : (Nat → Nat) → Prop} {r : Nat} (hp : Pm p) (h : isRank p w S r) : r ≤ w ∧ cn (p ^ w) (fun y => bl (S (mix p w y (fun _ => 0)))) = p ^ (w - r) := by
  obtain ⟨led, rows, hO, rfl, hS⟩ := h
  refine ⟨rk_le w led, ?_⟩
  rw [← cnt_low hp hO w (Nat.le_refl w) (fun _ => 0)]
  exact cn_congr (fun y _ => bl_congr (hS _).symm)
theorem rank_uniq {p w : Nat} {S S2 : (Nat → Nat) → Prop} {r r2 : Nat} (hp : Pm p) (h : isRank p w S r) (h2 : isRank p w S2 r2) (hS : ∀ u, S u ↔ S2 u) : r = r2 := by
  obtain ⟨a1, a2⟩ := cnt_sol hp h
  obtain ⟨b1, b2⟩ := cnt_sol hp h2
  have e : p ^ (w - r) = p ^ (w - r2) := by
    rw [← a2, ← b2]
    exact cn_congr (fun y _ => bl_congr (hS _))
  have hp1 : 1 < p := by rcases hp with rfl | rfl | rfl <;> decide
  have := (Nat.pow_right_inj hp1).mp e
  omega
theorem mix_dg {p w y : Nat} (hp : 0 < p) (hy : y < p ^ w) : mix p w y (fun _ => 0) = dg p y := by
  funext t
  dsimp only [mix]
  by_cases e : t < w
  · rw [if_pos e]
  · rw [if_neg e, dg_big hp hy (by omega)]
theorem isRank.congr {p w : Nat} {S S2 : (Nat → Nat) → Prop} {r : Nat} (h : isRank p w S r) (hS : ∀ u, S u ↔ S2 u) : isRank p w S2 r := by
  obtain ⟨led, rows, a, b, c⟩ := h
  exact ⟨led, rows, a, b, fun u => (c u).trans (hS u)⟩
/-- full rank: nothing but noughts solves -/
theorem rank_full {p w : Nat} {S : (Nat → Nat) → Prop} {r : Nat} (hp : Pm p) (h : isRank p w S r) (h0 : S (fun _ => 0)) : r = w ↔ ∀ y, 0 < y → y < p ^ w → ¬ S (dg p y) := by
  have hp0 : 0 < p := by rcases hp with rfl | rfl | rfl <;> decide
  have hp1 : 1 < p := by rcases hp with rfl | rfl | rfl <;> decide
  obtain ⟨a1, a2⟩ := cnt_sol hp h
  rw [cn_congr (Q := fun y => bl (S (dg p y))) (fun y hy => by rw [mix_dg hp0 hy])] at a2
  have hpos : 0 < p ^ w := Nat.pow_pos hp0
  have hz : S (dg p 0) := by
    have : dg p 0 = fun _ => 0 := by funext t; unfold dg; rw [Nat.zero_div, Nat.zero_mod]
    rw [this]; exact h0
  obtain ⟨N, hN⟩ : ∃ N, p ^ w = 1 + N := ⟨p ^ w - 1, by omega⟩
  rw [hN, cn_add] at a2
  have e1 : cn 1 (fun y => bl (S (dg p y))) = 1 := by
    show 0 + (if bl (S (dg p 0)) = true then 1 else 0) = 1
    rw [bl_t hz]; rfl
  rw [e1] at a2
  constructor
  · intro e y hy0 hy hSy
    rw [e, Nat.sub_self, Nat.pow_zero] at a2
    have e2 : cn N (fun y => bl (S (dg p (1 + y)))) = 0 := by omega
    have pos : ∀ n z, z < n → bl (S (dg p (1 + z))) = true → 0 < cn n (fun y => bl (S (dg p (1 + y)))) := fun n => by
      induction n with
      | zero => intro z hz; exact absurd hz (Nat.not_lt_zero z)
      | succ n ih =>
        intro z hz hb
        show 0 < cn n _ + (if bl (S (dg p (1 + n))) = true then 1 else 0)
        by_cases c : z = n
        · subst c; rw [if_pos hb]; omega
        · have := ih z (by omega) hb
          omega
    have := pos N (y - 1) (by omega) (by rw [show 1 + (y - 1) = y by omega]; exact bl_t hSy)
    omega
  · intro q
    have e2 : cn N (fun y => bl (S (dg p (1 + y)))) = 0 := cn_none (fun y hy => bl_f (q (1 + y) (by omega) (by omega)))
    rw [e2] at a2
    have : w - r = 0 := by
      rcases Nat.eq_zero_or_pos (w - r) with z | z
      · exact z
      · have := Nat.one_lt_pow (by omega) hp1 (n := w - r)
        omega
    omega
