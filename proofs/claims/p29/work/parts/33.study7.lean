/-! ===== Study: what two elements span ===== -/
theorem cn_id {P Q : Nat → Bool} {N : Nat} (h : ∀ x, x < N → Q x = true → P x = true) : cn N Q ≤ cn N P := cn_inj N Q P N id (fun x hx q => ⟨hx, h x hx q⟩) (fun _ _ _ _ _ _ e => e)
theorem dot_red {p w : Nat} (hp : 0 < p) (a u : Nat → Nat) : dot w a (dg p (num p w (fun t => u t % p))) % p = dot w a u % p := by
  refine sg_mod (fun t ht => ?_)
  rw [dg_num hp ht (fun _ _ => Nat.mod_lt _ hp), Nat.mul_mod, Nat.mod_mod, ← Nat.mul_mod]
theorem Sol_red {p w : Nat} (hp : 0 < p) {led : Nat → Bool} {rows : Nat → Nat → Nat} (u : Nat → Nat) : Sol p w led rows (dg p (num p w (fun t => u t % p))) ↔ Sol p w led rows u := by
  unfold Sol
  constructor
  · intro q i hi hl; rw [← dot_red hp]; exact q i hi hl
  · intro q i hi hl; rw [dot_red hp]; exact q i hi hl
theorem sub_rank {p w r : Nat} {S S2 : (Nat → Nat) → Prop} (hp : Pm p) (h : isRank p w S r) (h2 : isRank p w S2 r) (sub : ∀ u, S2 u → S u) : ∀ u, S u → S2 u := by
  have hp0 : 0 < p := by rcases hp with rfl | rfl | rfl <;> decide
  have c1 := (cnt_S (T := fun z => S (dg p z)) hp h (fun _ _ => Iff.rfl)).2
  have c2 := (cnt_S (T := fun z => S2 (dg p z)) hp h2 (fun _ _ => Iff.rfl)).2
  obtain ⟨led, rows, -, -, a⟩ := h
  obtain ⟨led2, rows2, -, -, a2⟩ := h2
  intro u hu
  refine Classical.byContradiction fun hn => ?_
  have hy : num p w (fun t => u t % p) < p ^ w := num_lt (fun _ _ => Nat.mod_lt _ hp0)
  have y1 : bl (S (dg p (num p w (fun t => u t % p)))) = true := bl_t (by rw [← a, Sol_red hp0, a]; exact hu)
  have y2 : ¬ S2 (dg p (num p w (fun t => u t % p))) := by rw [← a2, Sol_red hp0, a2]; exact hn
  have k := cn_remove (P := fun z => bl (S (dg p z))) hy y1
  have k2 : cn (p ^ w) (fun z => bl (S2 (dg p z))) ≤ cn (p ^ w) (fun x => bl (S (dg p x)) && !decide (x = num p w (fun t => u t % p))) := cn_id (fun x hx q => by
    have q' := bl_iff.mp q
    rw [bl_t (sub _ q')]
    by_cases e : x = num p w (fun t => u t % p)
    · subst e; exact absurd q' y2
    · simp [e])
  omega
def Gen (W : Wd) (x y z : Nat) : Prop := ∀ C : Nat → Prop, C x → C y → (∀ a b, C a → C b → C (mul W a b)) → C z
theorem Gen.x {W : Wd} {x y : Nat} : Gen W x y x := fun _ a _ _ => a
theorem Gen.y {W : Wd} {x y : Nat} : Gen W x y y := fun _ _ a _ => a
theorem Gen.mul {W : Wd} {x y a b : Nat} (h : Gen W x y a) (h2 : Gen W x y b) : Gen W x y (mul W a b) := fun C c1 c2 c3 => c3 a b (h C c1 c2 c3) (h2 C c1 c2 c3)
def SGen (W : Wd) (x y : Nat) (u : Nat → Nat) : Prop := ∀ z, Gen W x y z → dot W.2.1 (dg W.1 z) u % W.1 = 0
theorem dot_lin_l {p n a : Nat} {bs u : Nat → Nat} (hp : 0 < p) (hn : n ≤ 5) : dot n (dg p (lin p n bs a)) u % p = dot n (dg p a) (fun s => dot n (dg p (bs s)) u) % p := by
  have e1 : dot n (dg p (lin p n bs a)) u % p = sg n (fun k => sg n (fun s => dg p a s * (dg p (bs s) k * u k))) % p := by
    refine sg_mod (fun k hk => ?_)
    rw [lin_dg hp (by omega), Nat.mul_mod, Nat.mod_mod, ← Nat.mul_mod, Nat.mul_comm, ← sg_mul]
    exact congrArg (· % p) (sg_congr (fun m _ => by ac_rfl))
  rw [e1, sg_swap]
  exact sg_mod (fun s hs => by rw [sg_mul]; rfl)
def mrow (p : Nat) (ms : Nat → Nat) : Nat → Nat → Nat := fun i => dg p (ms i)
theorem gen_sol {W : Wd} (hk : Wok W) {x y m : Nat} {ms : Nat → Nat} (h1 : ∀ i, i < m → Gen W x y (ms i)) (hx : ∀ u, SolM W.1 W.2.1 m (mrow W.1 ms) u → dot W.2.1 (dg W.1 x) u % W.1 = 0) (hy : ∀ u, SolM W.1 W.2.1 m (mrow W.1 ms) u → dot W.2.1 (dg W.1 y) u % W.1 = 0)
    (h3 : ∀ i j u, i < m → j < m → SolM W.1 W.2.1 m (mrow W.1 ms) u → dot W.2.1 (dg W.1 (mul W (ms i) (ms j))) u % W.1 = 0) : ∀ u, SolM W.1 W.2.1 m (mrow W.1 ms) u ↔ SGen W x y u := by
  obtain ⟨b1, b2, b3, b4, b5⟩ := hk.b
  refine fun u => ⟨fun q z hz => ?_, fun q i hi => q _ (h1 i hi)⟩
  refine hz (fun z => ∀ u, SolM W.1 W.2.1 m (mrow W.1 ms) u → dot W.2.1 (dg W.1 z) u % W.1 = 0) hx hy (fun a b ca cb u hu => ?_) u q
  have step : ∀ i, i < m → dot W.2.1 (dg W.1 (mul W (ms i) b)) u % W.1 = 0 := fun i hi => by
    rw [mul_lin_r hk (ms i) b, dot_lin_l (by omega) b4]
    refine cb _ (fun j hj => ?_)
    show dot W.2.1 (dg W.1 (ms j)) _ % W.1 = 0
    rw [← dot_lin_l (by omega) b4, ← mul_lin_r hk]
    exact h3 i j u hi hj hu
  rw [mul_lin_l hk b a, dot_lin_l (by omega) b4]
  refine ca _ (fun i hi => ?_)
  show dot W.2.1 (dg W.1 (ms i)) _ % W.1 = 0
  rw [← dot_lin_l (by omega) b4, ← mul_lin_l hk]
  exact step i hi
/-- the echelon holds so many independent members, told in their row -/
def GS (h : AH) (E p n m : Nat) (ms : Nat → Nat) : Prop := ∃ led rows g, EAt h E p n m led rows (fun _ => 0) ∧ EOk p n led rows ∧ m = rk n led ∧ (∀ u, Sol p n led rows u ↔ SolM p n m (mrow p ms) u) ∧ h (E + 85) = some (aI 5 g) ∧ ∀ i, i < m → g i = nI (ms i) ∧ ms i < p ^ n
theorem GS.far {h h2 : AH} {E p n m : Nat} {ms : Nat → Nat} (q : GS h E p n m ms) (e : ∀ a, E ≤ a → a < E + 86 → h2 a = h a) : GS h2 E p n m ms := by
  obtain ⟨led, rows, g, a1, a2, a3, a4, a5, a6⟩ := q
  exact ⟨led, rows, g, a1.far (fun a x y => e a x (by omega)), a2, a3, a4, (e _ (by omega) (by omega)).trans a5, a6⟩
def SM (p n m : Nat) (ms : Nat → Nat) : (Nat → Nat) → Prop := SolM p n m (mrow p ms)
def msp (x m : Nat) (ms : Nat → Nat) : Nat → Nat := fun i => if i = m then x else ms i
theorem msp_at (x m : Nat) (ms : Nat → Nat) : msp x m ms m = x := if_pos rfl
theorem msp_ne {x m i : Nat} {ms : Nat → Nat} (h : i ≠ m) : msp x m ms i = ms i := if_neg h
theorem SM_succ {p n m x : Nat} {ms : Nat → Nat} (u : Nat → Nat) : SM p n (m + 1) (msp x m ms) u ↔ SM p n m ms u ∧ dot n (dg p x) u % p = 0 := by
  constructor
  · intro q
    refine ⟨fun i hi => ?_, ?_⟩
    · have := q i (by omega)
      unfold mrow at this
      rw [msp_ne (by omega)] at this
      exact this
    · have := q m (by omega)
      unfold mrow at this
      rw [msp_at] at this
      exact this
  · intro ⟨y1, y2⟩ i hi
    unfold mrow
    by_cases e : i = m
    · subst e; rw [msp_at]; exact y2
    · rw [msp_ne e]; exact y1 i (by omega)
section SZ
variable {h : AH} {E o : Nat} {W : Wd} {f : Int32}
/-- members made of x and y, closed so far -/
def CL (h1 : AH) (E : Nat) (W : Wd) (x y i j : Nat) : Prop := ∃ m ms, GS h1 E W.1 W.2.1 m ms ∧ (∀ t, t < m → Gen W x y (ms t)) ∧ (∀ u, SM W.1 W.2.1 m ms u → dot W.2.1 (dg W.1 x) u % W.1 = 0 ∧ dot W.2.1 (dg W.1 y) u % W.1 = 0) ∧ i ≤ m ∧ (0 < j → i < m) ∧ ∀ a b u, b ≤ a → (a < i ∨ a = i ∧ b < j) → a < m → SM W.1 W.2.1 m ms u → dot W.2.1 (dg W.1 (mul W (ms a) (ms b))) u % W.1 = 0 ∧ dot W.2.1 (dg W.1 (mul W (ms b) (ms a))) u % W.1 = 0
theorem GS.le {m : Nat} {ms : Nat → Nat} (q : GS h E W.1 W.2.1 m ms) : m ≤ W.2.1 := by
  obtain ⟨led, rows, g, a1, a2, a3, a4, a5, a6⟩ := q
  rw [a3]
  exact rk_le _ _
theorem GS.uniq {m m' : Nat} {ms ms' : Nat → Nat} (hk : Wok W) (q : GS h E W.1 W.2.1 m ms) (q' : GS h E W.1 W.2.1 m' ms') : m = m' := by
  obtain ⟨b1, b2, b3, b4, b5⟩ := hk.b
  have l1 := q.le
  have l2 := q'.le
  obtain ⟨led, rows, g, a1, -⟩ := q
  obtain ⟨led', rows', g', a1', -⟩ := q'
  have e := a1.1.symm.trans a1'.1
  have e2 : nI m = nI m' := by injection e with e; injection e with e; injection e with e e; injection e with e e3; injection e3 with e3 e4; injection e4 with e4 e5; injection e4
  exact (nI_eq (by omega) (by omega)).mp e2
def Span (W : Wd) (x y : Nat) (z : Int32) : Prop := ∃ r, z = nI (W.1 ^ r) ∧ isRank W.1 W.2.1 (SGen W x y) r
end SZ
