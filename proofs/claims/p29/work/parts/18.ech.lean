/-! ===== rows over a prime, taken in one by one ===== -/
theorem sg_add {f g : Nat → Nat} : ∀ (n : Nat), sg n (fun i => f i + g i) = sg n f + sg n g
  | 0 => rfl
  | n + 1 => by
    show sg n (fun i => f i + g i) + (f n + g n) = sg n f + f n + (sg n g + g n)
    rw [sg_add n]
    omega
theorem sg_mul {f : Nat → Nat} (a : Nat) : ∀ (n : Nat), sg n (fun i => a * f i) = a * sg n f
  | 0 => by show 0 = a * 0; simp
  | n + 1 => by
    show sg n (fun i => a * f i) + a * f n = a * (sg n f + f n)
    rw [sg_mul a n, Nat.mul_add]
theorem sg_mod {p : Nat} {f g : Nat → Nat} : ∀ {n : Nat}, (∀ i, i < n → f i % p = g i % p) → sg n f % p = sg n g % p
  | 0, _ => rfl
  | n + 1, h => by
    show (sg n f + f n) % p = (sg n g + g n) % p
    rw [Nat.add_mod, sg_mod (n := n) (fun i hi => h i (by omega)), h n (by omega), ← Nat.add_mod]
def dot (w : Nat) (a u : Nat → Nat) : Nat := sg w (fun t => a t * u t)
theorem dot_mod {p w : Nat} {a b : Nat → Nat} (u : Nat → Nat) (h : ∀ t, t < w → a t % p = b t % p) : dot w a u % p = dot w b u % p := sg_mod (fun t ht => by rw [Nat.mul_mod, h t ht, ← Nat.mul_mod])
theorem dot_lin {w k : Nat} (a b u : Nat → Nat) : dot w (fun t => a t + k * b t) u = dot w a u + k * dot w b u := by
  unfold dot
  rw [← sg_mul, ← sg_add]
  exact sg_congr (fun t _ => by rw [Nat.add_mul, Nat.mul_assoc])
theorem dot_zero {w : Nat} {a : Nat → Nat} (u : Nat → Nat) (h : ∀ t, t < w → a t = 0) : dot w a u = 0 := sg_zero (fun t ht => by rw [h t ht, Nat.zero_mul])
abbrev Pm (p : Nat) : Prop := p = 2 ∨ p = 3 ∨ p = 5
theorem unit_dot {p a d : Nat} (hp : Pm p) (ha : 0 < a) (hap : a < p) : a * d % p = 0 ↔ d % p = 0 := by
  rcases hp with rfl | rfl | rfl
  · have : a = 1 := by omega
    subst this; omega
  · have : a = 1 ∨ a = 2 := by omega
    rcases this with rfl | rfl <;> omega
  · have : a = 1 ∨ a = 2 ∨ a = 3 ∨ a = 4 := by omega
    rcases this with rfl | rfl | rfl | rfl <;> omega
def inv (p v : Nat) : Nat := if p = 5 then v * v * v % p else v
theorem inv_ok {p v : Nat} (hp : Pm p) (h0 : 0 < v) (hv : v < p) : 0 < inv p v ∧ inv p v < p ∧ v * inv p v % p = 1 := by
  rcases hp with rfl | rfl | rfl
  · have : v = 1 := by omega
    subst this; decide
  · have : v = 1 ∨ v = 2 := by omega
    rcases this with rfl | rfl <;> decide
  · have : v = 1 ∨ v = 2 ∨ v = 3 ∨ v = 4 := by omega
    rcases this with rfl | rfl | rfl | rfl <;> decide
/-- the rows lead: a one in their own column, noughts before it -/
def EOk (p w : Nat) (led : Nat → Bool) (rows : Nat → Nat → Nat) : Prop := ∀ i, i < w → led i = true → rows i i = 1 ∧ (∀ t, t < i → rows i t = 0) ∧ ∀ t, t < w → rows i t < p
/-- what solves all rows -/
def Sol (p w : Nat) (led : Nat → Bool) (rows : Nat → Nat → Nat) (u : Nat → Nat) : Prop := ∀ i, i < w → led i = true → dot w (rows i) u % p = 0
def rk (w : Nat) (led : Nat → Bool) : Nat := sg w (fun i => if led i = true then 1 else 0)
theorem rk_le (w : Nat) (led : Nat → Bool) : rk w led ≤ w := by
  have := sg_le (f := fun i => if led i = true then 1 else 0) (b := 1) (n := w) (fun i _ => by show (if led i = true then 1 else 0) ≤ 1; split <;> omega)
  rw [Nat.mul_one] at this
  exact this
theorem rk_put {led : Nat → Bool} {c : Nat} : ∀ {w : Nat}, c < w → led c = false → rk w (fun t => if t = c then true else led t) = rk w led + 1
  | 0, h, _ => absurd h (Nat.not_lt_zero _)
  | w + 1, h, hl => by
    show rk w (fun t => if t = c then true else led t) + (if (if w = c then true else led w) = true then 1 else 0) = rk w led + (if led w = true then 1 else 0) + 1
    by_cases e : w = c
    · subst e
      have : rk w (fun t => if t = w then true else led t) = rk w led := sg_congr (fun i hi => by
        have : ¬ i = w := by omega
        simp [this])
      rw [this, hl]
      simp
    · rw [rk_put (w := w) (by omega) hl, if_neg e]
      omega
def redv (p : Nat) (v row : Nat → Nat) (c : Nat) : Nat → Nat := fun t => if c ≤ t then (v t + (p - v c) * row t) % p else v t
theorem redv_dot {p w c : Nat} {v row u : Nat → Nat} (hr : ∀ t, t < c → row t = 0) (hu : dot w row u % p = 0) : dot w (redv p v row c) u % p = dot w v u % p := by
  have e : dot w (redv p v row c) u % p = dot w (fun t => v t + (p - v c) * row t) u % p := dot_mod u (fun t _ => by
    unfold redv
    by_cases q : c ≤ t
    · rw [if_pos q, Nat.mod_mod]
    · rw [if_neg q, hr t (by omega), Nat.mul_zero, Nat.add_zero])
  rw [e, dot_lin, Nat.add_mod, Nat.mul_mod, hu, Nat.mul_zero, Nat.zero_mod, Nat.add_zero, Nat.mod_mod]
/-- the object: behind it the grid, its 75 rows, the marks, the next row -/
def EAt (h : AH) (E p w r : Nat) (led : Nat → Bool) (rows : Nat → Nat → Nat) (nx : Nat → Nat) : Prop :=
  h E = some (ob 0 [.int (nI p), .int (nI w), .int (nI r), .ref (E + 1), .ref (E + 77), .ref (E + 78)]) ∧
  h (E + 1) = some (aG 75 (fun i => if i < 75 then some (E + 2 + i) else none)) ∧
  (∀ i, i < 75 → ∃ f, h (E + 2 + i) = some (aI 75 f) ∧ (led i = true → ∀ c, c < w → f c = nI (rows i c))) ∧
  (∃ f, h (E + 77) = some (aZ 75 f) ∧ ∀ c, c < w → f c = bI (led c)) ∧
  ∃ f, h (E + 78) = some (aI 75 f) ∧ ∀ c, c < w → f c = nI (nx c)
/-- its shape alone -/
def ESh (h : AH) (E : Nat) : Prop :=
  (∃ p w r : Int32, h E = some (ob 0 [.int p, .int w, .int r, .ref (E + 1), .ref (E + 77), .ref (E + 78)])) ∧
  h (E + 1) = some (aG 75 (fun i => if i < 75 then some (E + 2 + i) else none)) ∧
  (∀ i, i < 75 → ∃ f, h (E + 2 + i) = some (aI 75 f)) ∧
  (∃ f, h (E + 77) = some (aZ 75 f)) ∧
  ∃ f, h (E + 78) = some (aI 75 f)
theorem EAt.sh {h : AH} {E p w r : Nat} {led : Nat → Bool} {rows : Nat → Nat → Nat} {nx : Nat → Nat} (q : EAt h E p w r led rows nx) : ESh h E := by
  obtain ⟨h1, h2, h3, ⟨f4, h4, -⟩, ⟨f5, h5, -⟩⟩ := q
  exact ⟨⟨_, _, _, h1⟩, h2, fun i hi => by obtain ⟨f, q, -⟩ := h3 i hi; exact ⟨f, q⟩, ⟨f4, h4⟩, ⟨f5, h5⟩⟩
/-- nothing but its cells changed -/
def Ee (E : Nat) (h h' : AH) : Prop := ∀ a, (a < E ∨ E + 79 ≤ a) → h' a = h a
theorem Ee.rf (E : Nat) (h : AH) : Ee E h h := fun _ _ => rfl
theorem Ee.tr {E : Nat} {h h1 h2 : AH} (a : Ee E h h1) (b : Ee E h1 h2) : Ee E h h2 := fun q x => (b q x).trans (a q x)
theorem Ee.set {E : Nat} {h h1 : AH} {a : Nat} {x : AE} (e : Ee E h h1) (ha : E ≤ a ∧ a < E + 79) : Ee E h (hset h1 a x) := fun q p1 => by
  rw [hset_ne _ _ (by omega)]
  exact e q p1
theorem ESh.far {h h2 : AH} {E : Nat} (q : ESh h E) (e : ∀ a, E ≤ a → a < E + 79 → h2 a = h a) : ESh h2 E := by
  obtain ⟨⟨p, w, r, h1⟩, h2', h3, ⟨f4, h4⟩, ⟨f5, h5⟩⟩ := q
  refine ⟨⟨p, w, r, by rw [e _ (by omega) (by omega)]; exact h1⟩, by rw [e _ (by omega) (by omega)]; exact h2', fun i hi => ?_, ⟨f4, by rw [e _ (by omega) (by omega)]; exact h4⟩, ⟨f5, by rw [e _ (by omega) (by omega)]; exact h5⟩⟩
  obtain ⟨f, hf⟩ := h3 i hi
  exact ⟨f, by rw [e _ (by omega) (by omega)]; exact hf⟩
theorem EAt.far {h h2 : AH} {E p w r : Nat} {led : Nat → Bool} {rows : Nat → Nat → Nat} {nx : Nat → Nat} (q : EAt h E p w r led rows nx) (e : ∀ a, E ≤ a → a < E + 79 → h2 a = h a) : EAt h2 E p w r led rows nx := by
  obtain ⟨h1, h2', h3, ⟨f4, h4, h4'⟩, ⟨f5, h5, h5'⟩⟩ := q
  refine ⟨by rw [e _ (by omega) (by omega)]; exact h1, by rw [e _ (by omega) (by omega)]; exact h2', fun i hi => ?_, ⟨f4, by rw [e _ (by omega) (by omega)]; exact h4, h4'⟩, ⟨f5, by rw [e _ (by omega) (by omega)]; exact h5, h5'⟩⟩
  obtain ⟨f, hf, hf'⟩ := h3 i hi
  exact ⟨f, by rw [e _ (by omega) (by omega)]; exact hf, hf'⟩
/-- the next row is another one -/
theorem EAt.nx {h : AH} {E p w r : Nat} {led : Nat → Bool} {rows : Nat → Nat → Nat} {nx nx2 : Nat → Nat} {f : Nat → Int32} (q : EAt h E p w r led rows nx) (hf : ∀ c, c < w → f c = nI (nx2 c)) : EAt (hset h (E + 78) (aI 75 f)) E p w r led rows nx2 := by
  obtain ⟨h1, h2', h3, ⟨f4, h4, h4'⟩, -⟩ := q
  refine ⟨by rw [hset_ne _ _ (by omega)]; exact h1, by rw [hset_ne _ _ (by omega)]; exact h2', fun i hi => ?_, ⟨f4, by rw [hset_ne _ _ (by omega)]; exact h4, h4'⟩, ⟨f, hset_eq _ _ _, hf⟩⟩
  obtain ⟨f, hf, hf'⟩ := h3 i hi
  exact ⟨f, by rw [hset_ne _ _ (by omega)]; exact hf, hf'⟩
section EC
variable {h : AH} {E p w r : Nat} {led : Nat → Bool} {rows : Nat → Nat → Nat} {nx : Nat → Nat}
theorem c_X0_rank (hE : EAt h E p w r led rows nx) : CP yX0_rank MX0_rank [.ref E] h (nI r) := by
  obtain ⟨h0, -⟩ := hE
  refine CI.ofV (by decide) rfl rfl (by simp [Value.category]) (by exact Nat.le_of_ble_eq_true rfl) (fun sz => ?_)
  refine e_aload_n (pc := 0) dX0_rank_0 rfl rfl ?_
  refine e_get (pc := 1) fl_X0_16 dX0_rank_1 (by repeat (first | assumption | exact hset_eq _ _ _ | rw [hset_ne _ _ (by omega)])) (by rfl) ?_
  exact n_iret (pc := 4) dX0_rank_4 rfl ⟨rfl, rfl⟩
theorem c_X0_add (hE : EAt h E p w r led rows nx) (hp : 0 < p ∧ p < 100) (hw : w ≤ 75) {c a : Nat} (hc : c < w) (ha : a < 2 ^ 30) (hn : nx c < p) : CV yX0_add MX0_add [.ref E, .int (nI c), .int (nI a)] h (fun h' => EAt h' E p w r led rows (fun t => if t = c then (nx t + a) % p else nx t) ∧ Ee E h h') := by
  obtain ⟨h0, -, -, -, ⟨f, h1, h2⟩⟩ := id hE
  have h3 := h2 c hc
  refine CV.ofV (by decide) rfl rfl (by simp [Value.category]) (by exact Nat.le_of_ble_eq_true rfl) (fun sz => ?_)
  refine e_iload_n (pc := 0) dX0_add_0 rfl rfl ?_
  refine n_if_lt (pc := 1) (tgt := 31) dX0_add_1 (by omega) ?_ (by decide)
  refine e_iload_n (pc := 4) dX0_add_4 rfl rfl ?_
  refine e_aload_n (pc := 5) dX0_add_5 rfl rfl ?_
  refine e_get (pc := 6) fl_X0_13 dX0_add_6 (by repeat (first | assumption | exact hset_eq _ _ _ | rw [hset_ne _ _ (by omega)])) (by rfl) ?_
  refine n_icmp_ge (pc := 9) (tgt := 31) dX0_add_9 (by decide) (by omega) (by omega) (fun c => absurd c (by omega)) (fun hb_ => ?_)
  refine e_aload_n (pc := 12) dX0_add_12 rfl rfl ?_
  refine e_get (pc := 13) fl_X0_28 dX0_add_13 (by repeat (first | assumption | exact hset_eq _ _ _ | rw [hset_ne _ _ (by omega)])) (by rfl) ?_
  refine e_iload_n (pc := 16) dX0_add_16 rfl rfl ?_
  refine e_aload_n (pc := 17) dX0_add_17 rfl rfl ?_
  refine e_get (pc := 18) fl_X0_28 dX0_add_18 (by repeat (first | assumption | exact hset_eq _ _ _ | rw [hset_ne _ _ (by omega)])) (by rfl) ?_
  refine e_iload_n (pc := 21) dX0_add_21 rfl rfl ?_
  refine e_ialdN (pc := 22) _ dX0_add_22 (by repeat (first | assumption | exact hset_eq _ _ _ | rw [hset_ne _ _ (by omega)])) (by rfl) (by omega) (by first | decide | omega) ?_
  rw [h3]
  refine e_iload_n (pc := 23) dX0_add_23 rfl rfl ?_
  refine n_iadd (pc := 24) dX0_add_24 ?_
  refine e_aload_n (pc := 25) dX0_add_25 rfl rfl ?_
  refine e_get (pc := 26) fl_X0_7 dX0_add_26 (by repeat (first | assumption | exact hset_eq _ _ _ | rw [hset_ne _ _ (by omega)])) (by rfl) ?_
  refine n_irem (pc := 29) dX0_add_29 (by omega) (by omega) (by omega) ?_
  refine e_iastN (pc := 30) _ dX0_add_30 (by repeat (first | assumption | exact hset_eq _ _ _ | rw [hset_ne _ _ (by omega)])) (by rfl) (by omega) (by first | decide | omega) ?_
  refine n_vret (pc := 31) dX0_add_31 rfl ⟨hE.nx (fun t ht => ?_), (Ee.rf E h).set (by omega)⟩
  by_cases e : t = c
  · subst e; rw [pk_us, if_pos rfl]
  · rw [pk_un e, if_neg e]; exact h2 t ht
theorem l_reduce {sz c : Nat} {fr : Nat → Int32} (hE : EAt h E p w r led rows nx) (hp : 2 ≤ p ∧ p ≤ 5) (hw : w ≤ 75) (hc : c < w) (hn : ∀ t, t < w → nx t < p) (h0 : 0 < nx c) (hr : ∀ t, t < w → rows c t < p) (hf : h (E + 2 + c) = some (aI 75 fr)) (hfr : ∀ t, t < w → fr t = nI (rows c t)) :
    ∀ (n t : Nat), n = w - t → c ≤ t → t ≤ w → ∀ g, (∀ s, s < w → g s = nI (if s < t then redv p nx (rows c) c s else nx s)) → VV MX0_reduce sz (fun h' => EAt h' E p w r led rows (redv p nx (rows c) c) ∧ Ee E h h') (hset h (E + 78) (aI 75 g)) 22 [some (.ref E), some (.int (nI c)), some (.ref (E + 2 + c)), some (.int (nI (p - nx c))), some (.int (nI t))] [] := by
  obtain ⟨q0, q1, -, -, -⟩ := id hE
  have hnc := hn c hc
  intro n
  induction n with
  | zero =>
    intro t h1 h2 h3 g hg
    have e : t = w := by omega
    subst e
    refine e_iload (pc := 22) dX0_reduce_22 rfl ?_
    refine e_aload_n (pc := 24) dX0_reduce_24 rfl rfl ?_
    refine e_get (pc := 25) fl_X0_13 dX0_reduce_25 (by repeat (first | assumption | exact hset_eq _ _ _ | rw [hset_ne _ _ (by omega)])) (by rfl) ?_
    refine n_icmp_ge (pc := 28) (tgt := 70) dX0_reduce_28 (by decide) (by omega) (by omega) (fun hb_ => ?_) (fun c => absurd c (by omega))
    refine n_vret (pc := 70) dX0_reduce_70 rfl ⟨hE.nx (fun s hs => by rw [hg s hs, if_pos hs]), (Ee.rf E h).set (by omega)⟩
  | succ n ih =>
    intro t h1 h2 h3 g hg
    have e1 := hfr t (by omega)
    have e2 := hg t (by omega)
    rw [if_neg (Nat.lt_irrefl t)] at e2
    have e3 := hr t (by omega)
    have e4 := hn t (by omega)
    have e5 : (p - nx c) * rows c t ≤ 5 * 5 := Nat.mul_le_mul (by omega) (by omega)
    have fin : ∀ g2 : Nat → Int32, (∀ s, s < w → g2 s = if s = t then nI ((nx t + (p - nx c) * rows c t) % p) else g s) → ∀ s, s < w → g2 s = nI (if s < t + 1 then redv p nx (rows c) c s else nx s) := fun g2 hg2 s hs => by
      rw [hg2 s hs]
      by_cases e : s = t
      · subst e
        rw [if_pos rfl, if_pos (by omega)]
        unfold redv
        rw [if_pos h2]
      · rw [if_neg e, hg s hs]
        by_cases e6 : s < t
        · rw [if_pos e6, if_pos (by omega)]
        · rw [if_neg e6, if_neg (by omega)]
    refine e_iload (pc := 22) dX0_reduce_22 rfl ?_
    refine e_aload_n (pc := 24) dX0_reduce_24 rfl rfl ?_
    refine e_get (pc := 25) fl_X0_13 dX0_reduce_25 (by repeat (first | assumption | exact hset_eq _ _ _ | rw [hset_ne _ _ (by omega)])) (by rfl) ?_
    refine n_icmp_ge (pc := 28) (tgt := 70) dX0_reduce_28 (by decide) (by omega) (by omega) (fun c => absurd c (by omega)) (fun hb_ => ?_)
    refine e_aload_n (pc := 31) dX0_reduce_31 rfl rfl ?_
    refine e_iload (pc := 32) dX0_reduce_32 rfl ?_
    refine e_ialdN (pc := 34) _ dX0_reduce_34 (by repeat (first | assumption | exact hset_eq _ _ _ | rw [hset_ne _ _ (by omega)])) (by rfl) (by omega) (by first | decide | omega) ?_
    rw [e1]
    refine n_if_eq (pc := 35) (tgt := 64) dX0_reduce_35 (by decide) (by omega) (fun c9 => ?_) (fun c9 => ?_)
    · refine n_inc (pc := 64) dX0_reduce_64 rfl (by decide) ?_
      refine e_goto (pc := 67) (tgt := 22) dX0_reduce_67 (by decide) ?_
      refine ih (t + 1) (by omega) (by omega) (by omega) g (fin g (fun s hs => ?_))
      by_cases e : s = t
      · subst e
        rw [if_pos rfl, e2, c9, Nat.mul_zero, Nat.add_zero, Nat.mod_eq_of_lt e4]
      · rw [if_neg e]
    refine e_aload_n (pc := 38) dX0_reduce_38 rfl rfl ?_
    refine e_get (pc := 39) fl_X0_28 dX0_reduce_39 (by repeat (first | assumption | exact hset_eq _ _ _ | rw [hset_ne _ _ (by omega)])) (by rfl) ?_
    refine e_iload (pc := 42) dX0_reduce_42 rfl ?_
    refine e_aload_n (pc := 44) dX0_reduce_44 rfl rfl ?_
    refine e_get (pc := 45) fl_X0_28 dX0_reduce_45 (by repeat (first | assumption | exact hset_eq _ _ _ | rw [hset_ne _ _ (by omega)])) (by rfl) ?_
    refine e_iload (pc := 48) dX0_reduce_48 rfl ?_
    refine e_ialdN (pc := 50) _ dX0_reduce_50 (by repeat (first | assumption | exact hset_eq _ _ _ | rw [hset_ne _ _ (by omega)])) (by rfl) (by omega) (by first | decide | omega) ?_
    rw [e2]
    refine e_iload_n (pc := 51) dX0_reduce_51 rfl rfl ?_
    refine e_aload_n (pc := 52) dX0_reduce_52 rfl rfl ?_
    refine e_iload (pc := 53) dX0_reduce_53 rfl ?_
    refine e_ialdN (pc := 55) _ dX0_reduce_55 (by repeat (first | assumption | exact hset_eq _ _ _ | rw [hset_ne _ _ (by omega)])) (by rfl) (by omega) (by first | decide | omega) ?_
    rw [e1]
    refine n_imul (pc := 56) dX0_reduce_56 ?_
    refine n_iadd (pc := 57) dX0_reduce_57 ?_
    refine e_aload_n (pc := 58) dX0_reduce_58 rfl rfl ?_
    refine e_get (pc := 59) fl_X0_7 dX0_reduce_59 (by repeat (first | assumption | exact hset_eq _ _ _ | rw [hset_ne _ _ (by omega)])) (by rfl) ?_
    refine n_irem (pc := 62) dX0_reduce_62 (by omega) (by omega) (by omega) ?_
    refine e_iastN (pc := 63) _ dX0_reduce_63 (by repeat (first | assumption | exact hset_eq _ _ _ | rw [hset_ne _ _ (by omega)])) (by rfl) (by omega) (by first | decide | omega) ?_
    refine n_inc (pc := 64) dX0_reduce_64 rfl (by decide) ?_
    refine e_goto (pc := 67) (tgt := 22) dX0_reduce_67 (by decide) ?_
    rw [hset_hset]
    refine ih (t + 1) (by omega) (by omega) (by omega) _ (fin _ (fun s hs => ?_))
    by_cases e : s = t
    · subst e; rw [pk_us, if_pos rfl]
    · rw [pk_un e, if_neg e]
theorem c_X0_reduce {c : Nat} (hE : EAt h E p w r led rows nx) (hp : 2 ≤ p ∧ p ≤ 5) (hw : w ≤ 75) (hc : c < w) (hl : led c = true) (hn : ∀ t, t < w → nx t < p) (h0 : 0 < nx c) (hr : ∀ t, t < w → rows c t < p) : CV yX0_reduce MX0_reduce [.ref E, .int (nI c)] h (fun h' => EAt h' E p w r led rows (redv p nx (rows c) c) ∧ Ee E h h') := by
  obtain ⟨q0, q1, q2, -, ⟨f5, q5, q6⟩⟩ := id hE
  obtain ⟨fr, q7, q8⟩ := q2 c (by omega)
  have hnc := hn c hc
  have e1 := q6 c hc
  refine CV.ofV (by decide) rfl rfl (by simp [Value.category]) (by exact Nat.le_of_ble_eq_true rfl) (fun sz => ?_)
  refine e_aload_n (pc := 0) dX0_reduce_0 rfl rfl ?_
  refine e_get (pc := 1) fl_X0_21 dX0_reduce_1 (by repeat (first | assumption | exact hset_eq _ _ _ | rw [hset_ne _ _ (by omega)])) (by rfl) ?_
  refine e_iload_n (pc := 4) dX0_reduce_4 rfl rfl ?_
  refine e_aldGS (pc := 5) _ dX0_reduce_5 (by repeat (first | assumption | exact hset_eq _ _ _ | rw [hset_ne _ _ (by omega)])) (by rfl) (by omega) (by first | decide | omega) (if_pos (show c < 75 by omega)) ?_
  refine e_astore_n (pc := 6) dX0_reduce_6 rfl (by decide) ?_
  refine e_aload_n (pc := 7) dX0_reduce_7 rfl rfl ?_
  refine e_get (pc := 8) fl_X0_7 dX0_reduce_8 (by repeat (first | assumption | exact hset_eq _ _ _ | rw [hset_ne _ _ (by omega)])) (by rfl) ?_
  refine e_aload_n (pc := 11) dX0_reduce_11 rfl rfl ?_
  refine e_get (pc := 12) fl_X0_28 dX0_reduce_12 (by repeat (first | assumption | exact hset_eq _ _ _ | rw [hset_ne _ _ (by omega)])) (by rfl) ?_
  refine e_iload_n (pc := 15) dX0_reduce_15 rfl rfl ?_
  refine e_ialdN (pc := 16) _ dX0_reduce_16 (by repeat (first | assumption | exact hset_eq _ _ _ | rw [hset_ne _ _ (by omega)])) (by rfl) (by omega) (by first | decide | omega) ?_
  rw [e1]
  refine n_isub (pc := 17) dX0_reduce_17 (by omega) ?_
  refine e_istore_n (pc := 18) dX0_reduce_18 rfl (by decide) ?_
  refine e_iload_n (pc := 19) dX0_reduce_19 rfl rfl ?_
  refine e_istore (pc := 20) dX0_reduce_20 (by decide) ?_
  refine e_heap (hset_self q5).symm ?_
  refine l_reduce hE hp hw hc hn h0 hr q7 (q8 hl) (w - c) c rfl (Nat.le_refl c) (by omega) f5 (fun s hs => ?_)
  rw [q6 s hs]
  unfold redv
  by_cases e : s < c
  · rw [if_pos e, if_neg (by omega)]
  · rw [if_neg e]
theorem l_lead {sz c : Nat} {g : Nat → Int32} (hE : EAt h E p w r led rows nx) (hp : Pm p) (hw : w ≤ 75) (hc : c < w) (hn : ∀ t, t < w → nx t < p) (hg0 : h (E + 2 + c) = some (aI 75 g)) {Pr : AH → Prop}
    (kk : ∀ f', (∀ t, t < w → f' t = nI (nx t * inv p (nx c) % p)) → VV MX0_lead sz Pr (hset h (E + 2 + c) (aI 75 f')) 75 [some (.ref E), some (.int (nI c)), none, none, none, none] []) :
    ∀ (n t : Nat), n = w - t → t ≤ w → ∀ f', (∀ s, s < t → f' s = nI (nx s * inv p (nx c) % p)) → VV MX0_lead sz Pr (hset h (E + 2 + c) (aI 75 f')) 41 [some (.ref E), some (.int (nI c)), some (.ref (E + 2 + c)), some (.int (nI (nx c))), some (.int (nI (inv p (nx c)))), some (.int (nI t))] [] := by
  obtain ⟨q0, q1, -, -, ⟨f5, q5, q6⟩⟩ := id hE
  have hnc := hn c hc
  have hi : inv p (nx c) < 125 := by
    unfold inv
    rcases hp with rfl | rfl | rfl
    · rw [if_neg (by decide)]; omega
    · rw [if_neg (by decide)]; omega
    · rw [if_pos rfl]; omega
  intro n
  induction n with
  | zero =>
    intro t h1 h2 f' hf
    have e : t = w := by omega
    subst e
    refine e_iload (pc := 41) dX0_lead_41 rfl ?_
    refine e_aload_n (pc := 43) dX0_lead_43 rfl rfl ?_
    refine e_get (pc := 44) fl_X0_13 dX0_lead_44 (by repeat (first | assumption | exact hset_eq _ _ _ | rw [hset_ne _ _ (by omega)])) (by rfl) ?_
    refine n_icmp_ge (pc := 47) (tgt := 75) dX0_lead_47 (by decide) (by omega) (by omega) (fun hb_ => ?_) (fun c => absurd c (by omega))
    refine V.mask [true, true, false, false, false, false] ?_
    exact kk f' hf
  | succ n ih =>
    intro t h1 h2 f' hf
    have e1 := q6 t (by omega)
    have e2 := hn t (by omega)
    have e3 : nx t * inv p (nx c) ≤ 5 * 125 := Nat.mul_le_mul (by rcases hp with rfl | rfl | rfl <;> omega) (by omega)
    have e4 : 0 < p ∧ p < 6 := by rcases hp with rfl | rfl | rfl <;> decide
    refine e_iload (pc := 41) dX0_lead_41 rfl ?_
    refine e_aload_n (pc := 43) dX0_lead_43 rfl rfl ?_
    refine e_get (pc := 44) fl_X0_13 dX0_lead_44 (by repeat (first | assumption | exact hset_eq _ _ _ | rw [hset_ne _ _ (by omega)])) (by rfl) ?_
    refine n_icmp_ge (pc := 47) (tgt := 75) dX0_lead_47 (by decide) (by omega) (by omega) (fun c => absurd c (by omega)) (fun hb_ => ?_)
    refine e_aload_n (pc := 50) dX0_lead_50 rfl rfl ?_
    refine e_iload (pc := 51) dX0_lead_51 rfl ?_
    refine e_aload_n (pc := 53) dX0_lead_53 rfl rfl ?_
    refine e_get (pc := 54) fl_X0_28 dX0_lead_54 (by repeat (first | assumption | exact hset_eq _ _ _ | rw [hset_ne _ _ (by omega)])) (by rfl) ?_
    refine e_iload (pc := 57) dX0_lead_57 rfl ?_
    refine e_ialdN (pc := 59) _ dX0_lead_59 (by repeat (first | assumption | exact hset_eq _ _ _ | rw [hset_ne _ _ (by omega)])) (by rfl) (by omega) (by first | decide | omega) ?_
    rw [e1]
    refine e_iload (pc := 60) dX0_lead_60 rfl ?_
    refine n_imul (pc := 62) dX0_lead_62 ?_
    refine e_aload_n (pc := 63) dX0_lead_63 rfl rfl ?_
    refine e_get (pc := 64) fl_X0_7 dX0_lead_64 (by repeat (first | assumption | exact hset_eq _ _ _ | rw [hset_ne _ _ (by omega)])) (by rfl) ?_
    refine n_irem (pc := 67) dX0_lead_67 (by omega) (by omega) (by omega) ?_
    refine e_iastN (pc := 68) _ dX0_lead_68 (by repeat (first | assumption | exact hset_eq _ _ _ | rw [hset_ne _ _ (by omega)])) (by rfl) (by omega) (by first | decide | omega) ?_
    refine n_inc (pc := 69) dX0_lead_69 rfl (by decide) ?_
    refine e_goto (pc := 72) (tgt := 41) dX0_lead_72 (by decide) ?_
    rw [hset_hset]
    refine ih (t + 1) (by omega) (by omega) _ (fun s hs => ?_)
    by_cases e : s = t
    · subst e; rw [pk_us]
    · rw [pk_un e]; exact hf s (by omega)
theorem c_X0_lead {c : Nat} (hE : EAt h E p w r led rows nx) (hp : Pm p) (hw : w ≤ 75) (hc : c < w) (hl : led c = false) (hn : ∀ t, t < w → nx t < p) (hr : r < 100) : CV yX0_lead MX0_lead [.ref E, .int (nI c)] h (fun h' => EAt h' E p w (r + 1) (fun t => if t = c then true else led t) (fun i => if i = c then (fun t => nx t * inv p (nx c) % p) else rows i) nx ∧ Ee E h h') := by
  obtain ⟨q0, q1, q2, ⟨f4, q3, q4⟩, ⟨f5, q5, q6⟩⟩ := id hE
  obtain ⟨fr, q7, q8⟩ := q2 c (by omega)
  have hnc := hn c hc
  have e1 := q6 c hc
  have hp' : 0 < p ∧ p < 6 := by rcases hp with rfl | rfl | rfl <;> decide
  have e9 : nx c * nx c * nx c ≤ 5 * 5 * 5 := Nat.mul_le_mul (Nat.mul_le_mul (by omega) (by omega)) (by omega)
  refine CV.ofV (by decide) rfl rfl (by simp [Value.category]) (by exact Nat.le_of_ble_eq_true rfl) (fun sz => ?_)
  refine e_aload_n (pc := 0) dX0_lead_0 rfl rfl ?_
  refine e_get (pc := 1) fl_X0_21 dX0_lead_1 (by repeat (first | assumption | exact hset_eq _ _ _ | rw [hset_ne _ _ (by omega)])) (by rfl) ?_
  refine e_iload_n (pc := 4) dX0_lead_4 rfl rfl ?_
  refine e_aldGS (pc := 5) _ dX0_lead_5 (by repeat (first | assumption | exact hset_eq _ _ _ | rw [hset_ne _ _ (by omega)])) (by rfl) (by omega) (by first | decide | omega) (if_pos (show c < 75 by omega)) ?_
  refine e_astore_n (pc := 6) dX0_lead_6 rfl (by decide) ?_
  refine e_aload_n (pc := 7) dX0_lead_7 rfl rfl ?_
  refine e_get (pc := 8) fl_X0_28 dX0_lead_8 (by repeat (first | assumption | exact hset_eq _ _ _ | rw [hset_ne _ _ (by omega)])) (by rfl) ?_
  refine e_iload_n (pc := 11) dX0_lead_11 rfl rfl ?_
  refine e_ialdN (pc := 12) _ dX0_lead_12 (by repeat (first | assumption | exact hset_eq _ _ _ | rw [hset_ne _ _ (by omega)])) (by rfl) (by omega) (by first | decide | omega) ?_
  rw [e1]
  refine e_istore_n (pc := 13) dX0_lead_13 rfl (by decide) ?_
  refine e_aload_n (pc := 14) dX0_lead_14 rfl rfl ?_
  refine e_get (pc := 15) fl_X0_7 dX0_lead_15 (by repeat (first | assumption | exact hset_eq _ _ _ | rw [hset_ne _ _ (by omega)])) (by rfl) ?_
  refine n_iconst (pc := 18) 5 dX0_lead_18 (by decide) ?_
  have fin : VV MX0_lead sz (fun h' => EAt h' E p w (r + 1) (fun t => if t = c then true else led t) (fun i => if i = c then (fun t => nx t * inv p (nx c) % p) else rows i) nx ∧ Ee E h h') h 36 [some (.ref E), some (.int (nI c)), some (.ref (E + 2 + c)), some (.int (nI (nx c))), none, none] [.int (nI (inv p (nx c)))] := by
    refine e_istore (pc := 36) dX0_lead_36 (by decide) ?_
    refine n_iconst (pc := 38) 0 dX0_lead_38 (by decide) ?_
    refine e_istore (pc := 39) dX0_lead_39 (by decide) ?_
    refine e_heap (hset_self q7).symm ?_
    refine l_lead hE hp hw hc hn q7 (fun f' hf' => ?_) w 0 rfl (by omega) fr (fun s hs => absurd hs (Nat.not_lt_zero s))
    refine e_aload_n (pc := 75) dX0_lead_75 rfl rfl ?_
    refine e_get (pc := 76) fl_X0_24 dX0_lead_76 (by repeat (first | assumption | exact hset_eq _ _ _ | rw [hset_ne _ _ (by omega)])) (by rfl) ?_
    refine e_iload_n (pc := 79) dX0_lead_79 rfl rfl ?_
    refine n_iconst (pc := 80) 1 dX0_lead_80 (by decide) ?_
    refine e_zastN (pc := 81) _ dX0_lead_81 (by repeat (first | assumption | exact hset_eq _ _ _ | rw [hset_ne _ _ (by omega)])) (by rfl) (by omega) (by first | decide | omega) ?_
    refine e_aload_n (pc := 82) dX0_lead_82 rfl rfl ?_
    refine e_dup (pc := 83) dX0_lead_83 rfl ?_
    refine e_get (pc := 84) fl_X0_16 dX0_lead_84 (by repeat (first | assumption | exact hset_eq _ _ _ | rw [hset_ne _ _ (by omega)])) (by rfl) ?_
    refine n_iconst (pc := 87) 1 dX0_lead_87 (by decide) ?_
    refine n_iadd (pc := 88) dX0_lead_88 ?_
    refine e_put (pc := 89) pl_X0_16 dX0_lead_89 (by repeat (first | assumption | exact hset_eq _ _ _ | rw [hset_ne _ _ (by omega)])) (by rfl) (by rfl) (by exact Nat.le_of_ble_eq_true rfl) ?_
    refine n_vret (pc := 92) dX0_lead_92 rfl ⟨⟨hset_eq _ _ _, ?_, fun i hi => ?_, ⟨upd f4 c (vp_nar .boolean (nI 1)), ?_, fun t ht => ?_⟩, ⟨f5, ?_, q6⟩⟩, (((Ee.rf E h).set (by omega)).set (by omega)).set (by omega)⟩
    · rw [hset_ne _ _ (by omega), hset_ne _ _ (by omega), hset_ne _ _ (by omega)]; exact q1
    · by_cases e : i = c
      · subst e
        refine ⟨f', by rw [hset_ne _ _ (by omega), hset_ne _ _ (by omega), hset_eq], fun _ t ht => ?_⟩
        rw [hf' t ht]
        dsimp only
        rw [if_pos rfl]
      · obtain ⟨fi, s1, s2⟩ := q2 i hi
        refine ⟨fi, by rw [hset_ne _ _ (by omega), hset_ne _ _ (by omega), hset_ne _ _ (by omega)]; exact s1, fun z t ht => ?_⟩
        dsimp only at z ⊢
        rw [if_neg e] at z
        rw [if_neg e]
        exact s2 z t ht
    · rw [hset_ne _ _ (by omega), hset_eq]
    · show upd f4 c (vp_nar .boolean (nI 1)) t = bI (if t = c then true else led t)
      by_cases e : t = c
      · subst e
        rw [pk_us, if_pos rfl]
        rfl
      · rw [pk_un e, if_neg e]
        exact q4 t ht
    · rw [hset_ne _ _ (by omega), hset_ne _ _ (by omega), hset_ne _ _ (by omega)]; exact q5
  refine n_icmp_ne (pc := 19) (tgt := 35) dX0_lead_19 (by decide) (by omega) (by omega) (fun hb_ => ?_) (fun hb_ => ?_)
  · refine e_iload_n (pc := 35) dX0_lead_35 rfl rfl ?_
    have e : inv p (nx c) = nx c := if_neg hb_
    refine e_top (congrArg nI e.symm) ?_
    exact fin
  · refine e_iload_n (pc := 22) dX0_lead_22 rfl rfl ?_
    refine e_iload_n (pc := 23) dX0_lead_23 rfl rfl ?_
    refine n_imul (pc := 24) dX0_lead_24 ?_
    refine e_iload_n (pc := 25) dX0_lead_25 rfl rfl ?_
    refine n_imul (pc := 26) dX0_lead_26 ?_
    refine e_aload_n (pc := 27) dX0_lead_27 rfl rfl ?_
    refine e_get (pc := 28) fl_X0_7 dX0_lead_28 (by repeat (first | assumption | exact hset_eq _ _ _ | rw [hset_ne _ _ (by omega)])) (by rfl) ?_
    refine n_irem (pc := 31) dX0_lead_31 (by omega) (by omega) (by omega) ?_
    refine e_goto (pc := 32) (tgt := 36) dX0_lead_32 (by decide) ?_
    have e : inv p (nx c) = nx c * nx c * nx c % p := if_pos hb_
    refine e_top (congrArg nI e.symm) ?_
    exact fin
theorem l_settle_z {sz b : Nat} {hh : AH} (hw : w ≤ 75) (hb : b < 2) {nn : Nat → Nat} {Pr : Int32 → AH → Prop} (kk : ∀ h1, EAt h1 E p w r led rows (fun _ => 0) → Ee E hh h1 → Pr (nI b) h1) :
    ∀ (n t : Nat), n = w - t → t ≤ w → ∀ h1, EAt h1 E p w r led rows (fun s => if s < t then 0 else nn s) → Ee E hh h1 → VI MX0_settle sz Pr h1 59 [some (.ref E), some (.int (nI b)), some (.int (nI t))] [] := by
  intro n
  induction n with
  | zero =>
    intro t e1 e2 h1 hE he
    have e : t = w := by omega
    subst e
    obtain ⟨q0, q1, q2, q3, ⟨f5, q5, q6⟩⟩ := id hE
    refine e_iload_n (pc := 59) dX0_settle_59 rfl rfl ?_
    refine e_aload_n (pc := 60) dX0_settle_60 rfl rfl ?_
    refine e_get (pc := 61) fl_X0_13 dX0_settle_61 (by repeat (first | assumption | exact hset_eq _ _ _ | rw [hset_ne _ _ (by omega)])) (by rfl) ?_
    refine n_icmp_ge (pc := 64) (tgt := 80) dX0_settle_64 (by decide) (by omega) (by omega) (fun hb_ => ?_) (fun c => absurd c (by omega))
    refine e_iload_n (pc := 80) dX0_settle_80 rfl rfl ?_
    refine n_zret (pc := 81) dX0_settle_81 rfl (by rcases (show b = 0 ∨ b = 1 by omega) with rfl | rfl <;> rfl) (kk h1 ⟨q0, q1, q2, q3, f5, q5, fun s hs => ?_⟩ he)
    rw [q6 s hs]
    exact congrArg nI (if_pos hs)
  | succ n ih =>
    intro t e1 e2 h1 hE he
    obtain ⟨q0, q1, q2, q3, ⟨f5, q5, q6⟩⟩ := id hE
    refine e_iload_n (pc := 59) dX0_settle_59 rfl rfl ?_
    refine e_aload_n (pc := 60) dX0_settle_60 rfl rfl ?_
    refine e_get (pc := 61) fl_X0_13 dX0_settle_61 (by repeat (first | assumption | exact hset_eq _ _ _ | rw [hset_ne _ _ (by omega)])) (by rfl) ?_
    refine n_icmp_ge (pc := 64) (tgt := 80) dX0_settle_64 (by decide) (by omega) (by omega) (fun c => absurd c (by omega)) (fun hb_ => ?_)
    refine e_aload_n (pc := 67) dX0_settle_67 rfl rfl ?_
    refine e_get (pc := 68) fl_X0_28 dX0_settle_68 (by repeat (first | assumption | exact hset_eq _ _ _ | rw [hset_ne _ _ (by omega)])) (by rfl) ?_
    refine e_iload_n (pc := 71) dX0_settle_71 rfl rfl ?_
    refine n_iconst (pc := 72) 0 dX0_settle_72 (by decide) ?_
    refine e_iastN (pc := 73) _ dX0_settle_73 (by repeat (first | assumption | exact hset_eq _ _ _ | rw [hset_ne _ _ (by omega)])) (by rfl) (by omega) (by first | decide | omega) ?_
    refine n_inc (pc := 74) dX0_settle_74 rfl (by decide) ?_
    refine e_goto (pc := 77) (tgt := 59) dX0_settle_77 (by decide) ?_
    refine ih (t + 1) (by omega) (by omega) _ (hE.nx (fun s hs => ?_)) (he.set (by omega))
    by_cases e : s = t
    · subst e
      rw [pk_us, if_pos (by omega)]
    · rw [pk_un e, q6 s hs]
      dsimp only
      by_cases e3 : s < t
      · rw [if_pos e3, if_pos (by omega)]
      · rw [if_neg e3, if_neg (by omega)]
/-- what settling a row does to what is led: u solves the new rows if it solves the old ones and the row -/
def Settled (p w r : Nat) (led : Nat → Bool) (rows : Nat → Nat → Nat) (nx : Nat → Nat) (b : Nat) (r2 : Nat) (led2 : Nat → Bool) (rows2 : Nat → Nat → Nat) : Prop :=
  b < 2 ∧ r2 = r + b ∧ EOk p w led2 rows2 ∧ r2 = rk w led2 ∧ (∀ u, Sol p w led2 rows2 u ↔ Sol p w led rows u ∧ dot w nx u % p = 0)
theorem l_settle {sz : Nat} {hh : AH} (hp : Pm p) (hw : w ≤ 75) (hO : EOk p w led rows) (hr : r = rk w led) {nx0 : Nat → Nat} :
    ∀ (n c : Nat), n = w - c → c ≤ w → ∀ h1 v, EAt h1 E p w r led rows v → Ee E hh h1 → (∀ t, t < w → v t < p) → (∀ t, t < c → v t = 0) → (∀ u, Sol p w led rows u → (dot w v u % p = 0 ↔ dot w nx0 u % p = 0)) →
      VI MX0_settle sz (fun x h' => ∃ b r2 led2 rows2, x = nI b ∧ EAt h' E p w r2 led2 rows2 (fun _ => 0) ∧ Settled p w r led rows nx0 b r2 led2 rows2 ∧ Ee E hh h') h1 4 [some (.ref E), some (.int (nI 0)), some (.int (nI c))] [] := by
  have hp' : 2 ≤ p ∧ p ≤ 5 := by rcases hp with rfl | rfl | rfl <;> decide
  have hrw := rk_le w led
  intro n
  induction n with
  | zero =>
    intro c e1 e2 h1 v hE he hv hz hd
    have e : c = w := by omega
    subst e
    obtain ⟨q0, q1, q2, q3, ⟨f5, q5, q6⟩⟩ := id hE
    refine e_iload_n (pc := 4) dX0_settle_4 rfl rfl ?_
    refine e_aload_n (pc := 5) dX0_settle_5 rfl rfl ?_
    refine e_get (pc := 6) fl_X0_13 dX0_settle_6 (by repeat (first | assumption | exact hset_eq _ _ _ | rw [hset_ne _ _ (by omega)])) (by rfl) ?_
    refine n_icmp_ge (pc := 9) (tgt := 57) dX0_settle_9 (by decide) (by omega) (by omega) (fun hb_ => ?_) (fun c => absurd c (by omega))
    refine n_iconst (pc := 57) 0 dX0_settle_57 (by decide) ?_
    refine e_istore_n (pc := 58) dX0_settle_58 rfl (by decide) ?_
    refine l_settle_z (nn := v) hw (by omega) (fun h3 hE3 he3 => ⟨0, r, led, rows, rfl, hE3, ⟨by omega, rfl, hO, hr, fun u => ⟨fun q => ⟨q, (hd u q).mp ?_⟩, fun q => q.1⟩⟩, he3⟩) c 0 rfl (by omega) h1 hE he
    rw [dot_zero u hz, Nat.zero_mod]
  | succ n ih =>
    intro c e1 e2 h1 v hE he hv hz hd
    obtain ⟨q0, q1, q2, ⟨f4, q3, q4⟩, ⟨f5, q5, q6⟩⟩ := id hE
    have a1 := q6 c (by omega)
    have a2 := q4 c (by omega)
    have a3 := hv c (by omega)
    refine e_iload_n (pc := 4) dX0_settle_4 rfl rfl ?_
    refine e_aload_n (pc := 5) dX0_settle_5 rfl rfl ?_
    refine e_get (pc := 6) fl_X0_13 dX0_settle_6 (by repeat (first | assumption | exact hset_eq _ _ _ | rw [hset_ne _ _ (by omega)])) (by rfl) ?_
    refine n_icmp_ge (pc := 9) (tgt := 57) dX0_settle_9 (by decide) (by omega) (by omega) (fun c => absurd c (by omega)) (fun hb_ => ?_)
    refine e_aload_n (pc := 12) dX0_settle_12 rfl rfl ?_
    refine e_get (pc := 13) fl_X0_28 dX0_settle_13 (by repeat (first | assumption | exact hset_eq _ _ _ | rw [hset_ne _ _ (by omega)])) (by rfl) ?_
    refine e_iload_n (pc := 16) dX0_settle_16 rfl rfl ?_
    refine e_ialdN (pc := 17) _ dX0_settle_17 (by repeat (first | assumption | exact hset_eq _ _ _ | rw [hset_ne _ _ (by omega)])) (by rfl) (by omega) (by first | decide | omega) ?_
    rw [a1]
    refine n_if_ne (pc := 18) (tgt := 24) dX0_settle_18 (by decide) (by omega) (fun hv0 => ?_) (fun hv0 => ?_)
    · refine e_aload_n (pc := 24) dX0_settle_24 rfl rfl ?_
      refine e_get (pc := 25) fl_X0_24 dX0_settle_25 (by repeat (first | assumption | exact hset_eq _ _ _ | rw [hset_ne _ _ (by omega)])) (by rfl) ?_
      refine e_iload_n (pc := 28) dX0_settle_28 rfl rfl ?_
      refine e_zaldN (pc := 29) _ dX0_settle_29 (by repeat (first | assumption | exact hset_eq _ _ _ | rw [hset_ne _ _ (by omega)])) (by rfl) (by omega) (by first | decide | omega) ?_
      rw [a2]
      cases hl : led c with
      | true =>
        obtain ⟨o1, o2, o3⟩ := hO c (by omega) hl
        refine e_if_eq (pc := 30) (tgt := 41) dX0_settle_30 (by decide) (fun q => absurd q (by decide)) (fun _ => ?_)
        refine e_aload_n (pc := 33) dX0_settle_33 rfl rfl ?_
        refine e_iload_n (pc := 34) dX0_settle_34 rfl rfl ?_
        refine n_Vv (pc := 35) (c_X0_reduce hE hp' hw (show c < w by omega) hl hv (show 0 < v c by omega) o3) bX0_reduce q_i_X0_reduce q_s_X0_reduce q_m_X0_42 dX0_settle_35 rfl rfl (by repeat (first | assumption | exact hset_eq _ _ _ | rw [hset_ne _ _ (by omega)])) rfl rfl (by exact Nat.le_of_ble_eq_true rfl) ⟨by decide, by decide⟩ ⟨rfl, rfl, Nat.zero_le _, Nat.zero_le _⟩ (fun h2 hp => ?_)
        obtain ⟨p1, p2⟩ := hp
        refine e_goto (pc := 38) (tgt := 51) dX0_settle_38 (by decide) ?_
        obtain ⟨s0, -, -, -, -⟩ := id p1
        refine n_inc (pc := 51) dX0_settle_51 rfl (by decide) ?_
        refine e_goto (pc := 54) (tgt := 4) dX0_settle_54 (by decide) ?_
        refine ih (c + 1) (by omega) (by omega) h2 _ p1 (he.tr p2) (fun t ht => ?_) (fun t ht => ?_) (fun u hu => ?_)
        · unfold redv
          by_cases e : c ≤ t
          · rw [if_pos e]; exact Nat.mod_lt _ (by omega)
          · rw [if_neg e]; exact hv t ht
        · unfold redv
          by_cases e : c ≤ t
          · have e3 : t = c := by omega
            subst e3
            rw [if_pos e, o1, Nat.mul_one, Nat.add_sub_cancel' (by omega), Nat.mod_self]
          · rw [if_neg e]; exact hz t (by omega)
        · rw [redv_dot o2 (hu c (by omega) hl)]
          exact hd u hu
      | false =>
        refine e_if_eq (pc := 30) (tgt := 41) dX0_settle_30 (by decide) (fun _ => ?_) (fun q => absurd (by decide) q)
        obtain ⟨i1, i2, i3⟩ := inv_ok (v := v c) hp (by omega) a3
        refine e_aload_n (pc := 41) dX0_settle_41 rfl rfl ?_
        refine e_iload_n (pc := 42) dX0_settle_42 rfl rfl ?_
        refine n_Vv (pc := 43) (c_X0_lead hE hp hw (show c < w by omega) hl hv (show r < 100 by omega)) bX0_lead q_i_X0_lead q_s_X0_lead q_m_X0_46 dX0_settle_43 rfl rfl (by repeat (first | assumption | exact hset_eq _ _ _ | rw [hset_ne _ _ (by omega)])) rfl rfl (by exact Nat.le_of_ble_eq_true rfl) ⟨by decide, by decide⟩ ⟨rfl, rfl, Nat.zero_le _, Nat.zero_le _⟩ (fun h2 hp => ?_)
        obtain ⟨p1, p2⟩ := hp
        refine n_iconst (pc := 46) 1 dX0_settle_46 (by decide) ?_
        refine e_istore_n (pc := 47) dX0_settle_47 rfl (by decide) ?_
        refine e_goto (pc := 48) (tgt := 57) dX0_settle_48 (by decide) ?_
        refine n_iconst (pc := 57) 0 dX0_settle_57 (by decide) ?_
        refine e_istore_n (pc := 58) dX0_settle_58 rfl (by decide) ?_
        refine l_settle_z (nn := v) hw (by omega) (fun h3 hE3 he3 => ⟨1, r + 1, _, _, rfl, hE3, ⟨by omega, rfl, fun i hi hli => ?_, by rw [rk_put (show c < w by omega) hl, hr], fun u => ?_⟩, he3⟩) w 0 rfl (by omega) h2 p1 (he.tr p2)
        · show (if i = c then (fun t => v t * inv p (v c) % p) else rows i) i = 1 ∧ (∀ t, t < i → (if i = c then (fun t => v t * inv p (v c) % p) else rows i) t = 0) ∧ ∀ t, t < w → (if i = c then (fun t => v t * inv p (v c) % p) else rows i) t < p
          by_cases e : i = c
          · subst e
            simp only [if_pos]
            refine ⟨i3, fun t ht => by rw [hz t ht, Nat.zero_mul, Nat.zero_mod], fun t _ => Nat.mod_lt _ (by omega)⟩
          · dsimp only at hli
            rw [if_neg e] at hli
            simp only [if_neg e]
            exact hO i hi hli
        · have key : dot w (fun t => v t * inv p (v c) % p) u % p = 0 ↔ dot w v u % p = 0 := by
            rw [dot_mod (b := fun t => inv p (v c) * v t) u (fun t _ => by rw [Nat.mod_mod, Nat.mul_comm])]
            have : dot w (fun t => inv p (v c) * v t) u = inv p (v c) * dot w v u := by
              unfold dot
              rw [← sg_mul]
              exact sg_congr (fun t _ => Nat.mul_assoc _ _ _)
            rw [this]
            exact unit_dot hp i1 i2
          constructor
          · intro q
            have q1 : Sol p w led rows u := fun i hi hli => by
              have := q i hi
              by_cases e : i = c
              · subst e; rw [hl] at hli; cases hli
              · simp only [if_neg e] at this
                exact this hli
            have q2 := q c (by omega) (if_pos rfl)
            simp only [if_pos] at q2
            exact ⟨q1, (hd u q1).mp (key.mp q2)⟩
          · intro q i hi hli
            by_cases e : i = c
            · subst e
              simp only [if_pos]
              exact key.mpr ((hd u q.1).mpr q.2)
            · simp only [if_neg e] at hli ⊢
              exact q.1 i hi hli
    · refine e_goto (pc := 21) (tgt := 51) dX0_settle_21 (by decide) ?_
      refine n_inc (pc := 51) dX0_settle_51 rfl (by decide) ?_
      refine e_goto (pc := 54) (tgt := 4) dX0_settle_54 (by decide) ?_
      refine ih (c + 1) (by omega) (by omega) h1 v hE he hv (fun t ht => ?_) hd
      by_cases e : t = c
      · subst e; exact hv0
      · exact hz t (by omega)
theorem c_X0_settle (hE : EAt h E p w r led rows nx) (hp : Pm p) (hw : w ≤ 75) (hO : EOk p w led rows) (hr : r = rk w led) (hn : ∀ t, t < w → nx t < p) : CI yX0_settle MX0_settle [.ref E] h (fun x h' => ∃ b r2 led2 rows2, x = nI b ∧ EAt h' E p w r2 led2 rows2 (fun _ => 0) ∧ Settled p w r led rows nx b r2 led2 rows2 ∧ Ee E h h') := by
  refine CI.ofV (by decide) rfl rfl (by simp [Value.category]) (by exact Nat.le_of_ble_eq_true rfl) (fun sz => ?_)
  refine n_iconst (pc := 0) 0 dX0_settle_0 (by decide) ?_
  refine e_istore_n (pc := 1) dX0_settle_1 rfl (by decide) ?_
  refine n_iconst (pc := 2) 0 dX0_settle_2 (by decide) ?_
  refine e_istore_n (pc := 3) dX0_settle_3 rfl (by decide) ?_
  exact l_settle hp hw hO hr w 0 rfl (by omega) h nx hE (Ee.rf E h) hn (fun t ht => absurd ht (Nat.not_lt_zero t)) (fun u _ => Iff.rfl)
theorem l_start {sz : Nat} {hh : AH} (hw : w ≤ 75) {Pr : AH → Prop} (kk : ∀ h1, EAt h1 E p w 0 (fun _ => false) (fun _ _ => 0) (fun _ => 0) → Ee E hh h1 → Pr h1) :
    ∀ (n t : Nat), n = w - t → t ≤ w → ∀ h1 f4 f5, h1 E = some (ob 0 [.int (nI p), .int (nI w), .int (nI 0), .ref (E + 1), .ref (E + 77), .ref (E + 78)]) → ESh h1 E → h1 (E + 77) = some (aZ 75 f4) → h1 (E + 78) = some (aI 75 f5) → (∀ s, s < t → f4 s = 0 ∧ f5 s = nI 0) → Ee E hh h1 → VV MX0_start sz Pr h1 36 [some (.ref E), some (.int (nI p)), some (.int (nI w)), some (.int (nI t))] [] := by
  intro n
  induction n with
  | zero =>
    intro t e1 e2 h1 f4 f5 q0 hs q4 q5 hz he
    have e : t = w := by omega
    subst e
    obtain ⟨-, s2, s3, -, -⟩ := id hs
    refine e_iload_n (pc := 36) dX0_start_36 rfl rfl ?_
    refine e_aload_n (pc := 37) dX0_start_37 rfl rfl ?_
    refine e_get (pc := 38) fl_X0_13 dX0_start_38 (by repeat (first | assumption | exact hset_eq _ _ _ | rw [hset_ne _ _ (by omega)])) (by rfl) ?_
    refine n_icmp_ge (pc := 41) (tgt := 64) dX0_start_41 (by decide) (by omega) (by omega) (fun hb_ => ?_) (fun c => absurd c (by omega))
    refine n_vret (pc := 64) dX0_start_64 rfl (kk h1 ⟨q0, s2, fun i hi => ?_, ⟨f4, q4, fun s hs => (hz s hs).1⟩, ⟨f5, q5, fun s hs => (hz s hs).2⟩⟩ he)
    obtain ⟨f, hf⟩ := s3 i hi
    exact ⟨f, hf, fun z => by cases z⟩
  | succ n ih =>
    intro t e1 e2 h1 f4 f5 q0 hs q4 q5 hz he
    obtain ⟨-, s2, s3, -, -⟩ := id hs
    refine e_iload_n (pc := 36) dX0_start_36 rfl rfl ?_
    refine e_aload_n (pc := 37) dX0_start_37 rfl rfl ?_
    refine e_get (pc := 38) fl_X0_13 dX0_start_38 (by repeat (first | assumption | exact hset_eq _ _ _ | rw [hset_ne _ _ (by omega)])) (by rfl) ?_
    refine n_icmp_ge (pc := 41) (tgt := 64) dX0_start_41 (by decide) (by omega) (by omega) (fun c => absurd c (by omega)) (fun hb_ => ?_)
    refine e_aload_n (pc := 44) dX0_start_44 rfl rfl ?_
    refine e_get (pc := 45) fl_X0_24 dX0_start_45 (by repeat (first | assumption | exact hset_eq _ _ _ | rw [hset_ne _ _ (by omega)])) (by rfl) ?_
    refine e_iload_n (pc := 48) dX0_start_48 rfl rfl ?_
    refine n_iconst (pc := 49) 0 dX0_start_49 (by decide) ?_
    refine e_zastN (pc := 50) _ dX0_start_50 (by repeat (first | assumption | exact hset_eq _ _ _ | rw [hset_ne _ _ (by omega)])) (by rfl) (by omega) (by first | decide | omega) ?_
    refine e_aload_n (pc := 51) dX0_start_51 rfl rfl ?_
    refine e_get (pc := 52) fl_X0_28 dX0_start_52 (by repeat (first | assumption | exact hset_eq _ _ _ | rw [hset_ne _ _ (by omega)])) (by rfl) ?_
    refine e_iload_n (pc := 55) dX0_start_55 rfl rfl ?_
    refine n_iconst (pc := 56) 0 dX0_start_56 (by decide) ?_
    refine e_iastN (pc := 57) _ dX0_start_57 (by repeat (first | assumption | exact hset_eq _ _ _ | rw [hset_ne _ _ (by omega)])) (by rfl) (by omega) (by first | decide | omega) ?_
    refine n_inc (pc := 58) dX0_start_58 rfl (by decide) ?_
    refine e_goto (pc := 61) (tgt := 36) dX0_start_61 (by decide) ?_
    refine ih (t + 1) (by omega) (by omega) _ _ _ (by rw [hset_ne _ _ (by omega), hset_ne _ _ (by omega)]; exact q0) ⟨⟨_, _, _, by rw [hset_ne _ _ (by omega), hset_ne _ _ (by omega)]; exact q0⟩, by rw [hset_ne _ _ (by omega), hset_ne _ _ (by omega)]; exact s2, fun i hi => ?_, ⟨_, by rw [hset_ne _ _ (by omega), hset_eq]⟩, ⟨_, hset_eq _ _ _⟩⟩ (by rw [hset_ne _ _ (by omega), hset_eq]) (hset_eq _ _ _) (fun s hs => ?_) ((he.set (by omega)).set (by omega))
    · obtain ⟨f, hf⟩ := s3 i hi
      exact ⟨f, by rw [hset_ne _ _ (by omega), hset_ne _ _ (by omega)]; exact hf⟩
    · by_cases e : s = t
      · subst e
        rw [pk_us, pk_us]
        exact ⟨rfl, rfl⟩
      · rw [pk_un e, pk_un e]
        exact hz s (by omega)
theorem c_X0_start (hs : ESh h E) (hp : Pm p) (hw : 1 ≤ w ∧ w ≤ 75) : CV yX0_start MX0_start [.ref E, .int (nI p), .int (nI w)] h (fun h' => EAt h' E p w 0 (fun _ => false) (fun _ _ => 0) (fun _ => 0) ∧ Ee E h h') := by
  have hp' : 2 ≤ p ∧ p ≤ 5 := by rcases hp with rfl | rfl | rfl <;> decide
  obtain ⟨⟨p0, w0, r0, s1⟩, s2, s3, ⟨f4, s4⟩, ⟨f5, s5⟩⟩ := id hs
  refine CV.ofV (by decide) rfl rfl (by simp [Value.category]) (by exact Nat.le_of_ble_eq_true rfl) (fun sz => ?_)
  refine e_iload_n (pc := 0) dX0_start_0 rfl rfl ?_
  refine n_SP (pc := 1) (c_X8_isPrime (by omega)) bX8_isPrime q_st_X8_isPrime q_m_X0_32 dX0_start_1 rfl rfl (by exact Nat.le_of_ble_eq_true rfl) ⟨by decide, by decide⟩ ⟨rfl, rfl, Nat.zero_le _, Nat.zero_le _⟩ ?_
  rw [if_pos hp]
  refine n_if_eq (pc := 4) (tgt := 18) dX0_start_4 (by decide) (by omega) (fun c => absurd c (by omega)) (fun hb_ => ?_)
  refine e_iload_n (pc := 7) dX0_start_7 rfl rfl ?_
  refine n_iconst (pc := 8) 1 dX0_start_8 (by decide) ?_
  refine n_icmp_lt (pc := 9) (tgt := 18) dX0_start_9 (by decide) (by omega) (by omega) (fun c => absurd c (by omega)) (fun hb_ => ?_)
  refine e_iload_n (pc := 12) dX0_start_12 rfl rfl ?_
  refine n_bipush (pc := 13) 75 dX0_start_13 (by decide) ?_
  refine n_icmp_le (pc := 15) (tgt := 19) dX0_start_15 (by decide) (by omega) (by omega) (fun hb_ => ?_) (fun c => absurd c (by omega))
  refine e_aload_n (pc := 19) dX0_start_19 rfl rfl ?_
  refine e_iload_n (pc := 20) dX0_start_20 rfl rfl ?_
  refine e_put (pc := 21) pl_X0_7 dX0_start_21 (by repeat (first | assumption | exact hset_eq _ _ _ | rw [hset_ne _ _ (by omega)])) (by rfl) (by rfl) (by exact Nat.le_of_ble_eq_true rfl) ?_
  refine e_aload_n (pc := 24) dX0_start_24 rfl rfl ?_
  refine e_iload_n (pc := 25) dX0_start_25 rfl rfl ?_
  refine e_put (pc := 26) pl_X0_13 dX0_start_26 (by repeat (first | assumption | exact hset_eq _ _ _ | rw [hset_ne _ _ (by omega)])) (by rfl) (by rfl) (by exact Nat.le_of_ble_eq_true rfl) ?_
  refine e_aload_n (pc := 29) dX0_start_29 rfl rfl ?_
  refine n_iconst (pc := 30) 0 dX0_start_30 (by decide) ?_
  refine e_put (pc := 31) pl_X0_16 dX0_start_31 (by repeat (first | assumption | exact hset_eq _ _ _ | rw [hset_ne _ _ (by omega)])) (by rfl) (by rfl) (by exact Nat.le_of_ble_eq_true rfl) ?_
  refine n_iconst (pc := 34) 0 dX0_start_34 (by decide) ?_
  refine e_istore_n (pc := 35) dX0_start_35 rfl (by decide) ?_
  simp only [hset_hset]
  refine l_start (hh := h) (by omega) (fun h1 a b => ⟨a, b⟩) w 0 rfl (by omega) _ f4 f5 (hset_eq _ _ _) ⟨⟨_, _, _, hset_eq _ _ _⟩, by rw [hset_ne _ _ (by omega)]; exact s2, fun i hi => ?_, ⟨f4, by rw [hset_ne _ _ (by omega)]; exact s4⟩, ⟨f5, by rw [hset_ne _ _ (by omega)]; exact s5⟩⟩ (by rw [hset_ne _ _ (by omega)]; exact s4) (by rw [hset_ne _ _ (by omega)]; exact s5) (fun s hs => absurd hs (Nat.not_lt_zero s)) ((Ee.rf E h).set (by omega))
  obtain ⟨f, hf⟩ := s3 i hi
  exact ⟨f, by rw [hset_ne _ _ (by omega)]; exact hf⟩
theorem EOk_0 (p w : Nat) : EOk p w (fun _ => false) (fun _ _ => 0) := fun _ _ q => by cases q
theorem rk_0 (w : Nat) : rk w (fun _ => false) = 0 := sg_zero (fun _ _ => rfl)
theorem Sol_0 (p w : Nat) (u : Nat → Nat) : Sol p w (fun _ => false) (fun _ _ => 0) u := fun _ _ q => by cases q
end EC
