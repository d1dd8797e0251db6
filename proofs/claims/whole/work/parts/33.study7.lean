/-! ===== Study: what two elements span ===== -/
theorem cn_id {P Q : Nat → Bool} {N : Nat} (h : ∀ x, x < N → Q x = true → P x = true) : cn N Q ≤ cn N P := cn_inj N Q P N id (fun x hx q => ⟨hx, h x hx q⟩) (fun _ _ _ _ _ _ e => e)
theorem dot_red {p w : Nat} (hp : 0 < p) (a u : Nat → Nat) : dot w a (dg p (num p w (fun t => u t % p))) % p = dot w a u % p := by
  refine sg_mod (fun t ht => ?_)
  rw [dg_num hp ht (fun _ _ => Nat.mod_lt _ hp), Nat.mul_mod, Nat.mod_mod, ← Nat.mul_mod]
theorem Sol_red {p w : Nat} (hp : 0 < p) {led : Nat → Bool} {rows : Nat → Nat → Nat} (u : Nat → Nat) : Sol p w led rows (dg p (num p w (fun t => u t % p))) ↔ Sol p w led rows u := by
  unfold Sol
  constructor
  · intro q i hi hl; rw [← dot_red hp]; exact q i hi hl
  · intro q i hi hl; rw [dot_red hp]; exact q i hi hl
theorem sub_rank {p w r : Nat} {S S2 : (Nat → Nat) → Prop} (hp : Pm p) (h : isRank p w S r) (h2 : isRank p w S2 r) (sub : ∀ u, S2 u → S u) : ∀ u, S u → S2 u := by
  have hp0 : 0 < p := by rcases hp with rfl | rfl | rfl <;> decide
  have c1 := (cnt_S (T := fun z => S (dg p z)) hp h (fun _ _ => Iff.rfl)).2
  have c2 := (cnt_S (T := fun z => S2 (dg p z)) hp h2 (fun _ _ => Iff.rfl)).2
  obtain ⟨led, rows, -, -, a⟩ := h
  obtain ⟨led2, rows2, -, -, a2⟩ := h2
  intro u hu
  refine Classical.byContradiction fun hn => ?_
  have hy : num p w (fun t => u t % p) < p ^ w := num_lt (fun _ _ => Nat.mod_lt _ hp0)
  have y1 : bl (S (dg p (num p w (fun t => u t % p)))) = true := bl_t (by rw [← a, Sol_red hp0, a]; exact hu)
  have y2 : ¬ S2 (dg p (num p w (fun t => u t % p))) := by rw [← a2, Sol_red hp0, a2]; exact hn
  have k := cn_remove (P := fun z => bl (S (dg p z))) hy y1
  have k2 : cn (p ^ w) (fun z => bl (S2 (dg p z))) ≤ cn (p ^ w) (fun x => bl (S (dg p x)) && !decide (x = num p w (fun t => u t % p))) := cn_id (fun x hx q => by
    have q' := bl_iff.mp q
    rw [bl_t (sub _ q')]
    by_cases e : x = num p w (fun t => u t % p)
    · subst e; exact absurd q' y2
    · simp [e])
  omega
def Gen (W : Wd) (x y z : Nat) : Prop := ∀ C : Nat → Prop, C x → C y → (∀ a b, C a → C b → C (mul W a b)) → C z
theorem Gen.x {W : Wd} {x y : Nat} : Gen W x y x := fun _ a _ _ => a
theorem Gen.y {W : Wd} {x y : Nat} : Gen W x y y := fun _ _ a _ => a
theorem Gen.mul {W : Wd} {x y a b : Nat} (h : Gen W x y a) (h2 : Gen W x y b) : Gen W x y (mul W a b) := fun C c1 c2 c3 => c3 a b (h C c1 c2 c3) (h2 C c1 c2 c3)
def SGen (W : Wd) (x y : Nat) (u : Nat → Nat) : Prop := ∀ z, Gen W x y z → dot W.2.1 (dg W.1 z) u % W.1 = 0
theorem dot_lin_l {p n a : Nat} {bs u : Nat → Nat} (hp : 0 < p) (hn : n ≤ 5) : dot n (dg p (lin p n bs a)) u % p = dot n (dg p a) (fun s => dot n (dg p (bs s)) u) % p := by
  have e1 : dot n (dg p (lin p n bs a)) u % p = sg n (fun k => sg n (fun s => dg p a s * (dg p (bs s) k * u k))) % p := by
    refine sg_mod (fun k hk => ?_)
    rw [lin_dg hp (by omega), Nat.mul_mod, Nat.mod_mod, ← Nat.mul_mod, Nat.mul_comm, ← sg_mul]
    exact congrArg (· % p) (sg_congr (fun m _ => by ac_rfl))
  rw [e1, sg_swap]
  exact sg_mod (fun s hs => by rw [sg_mul]; rfl)
def mrow (p : Nat) (ms : Nat → Nat) : Nat → Nat → Nat := fun i => dg p (ms i)
theorem gen_sol {W : Wd} (hk : Wok W) {x y m : Nat} {ms : Nat → Nat} (h1 : ∀ i, i < m → Gen W x y (ms i)) (hx : ∀ u, SolM W.1 W.2.1 m (mrow W.1 ms) u → dot W.2.1 (dg W.1 x) u % W.1 = 0) (hy : ∀ u, SolM W.1 W.2.1 m (mrow W.1 ms) u → dot W.2.1 (dg W.1 y) u % W.1 = 0)
    (h3 : ∀ i j u, i < m → j < m → SolM W.1 W.2.1 m (mrow W.1 ms) u → dot W.2.1 (dg W.1 (mul W (ms i) (ms j))) u % W.1 = 0) : ∀ u, SolM W.1 W.2.1 m (mrow W.1 ms) u ↔ SGen W x y u := by
  obtain ⟨b1, b2, b3, b4, b5⟩ := hk.b
  refine fun u => ⟨fun q z hz => ?_, fun q i hi => q _ (h1 i hi)⟩
  refine hz (fun z => ∀ u, SolM W.1 W.2.1 m (mrow W.1 ms) u → dot W.2.1 (dg W.1 z) u % W.1 = 0) hx hy (fun a b ca cb u hu => ?_) u q
  have step : ∀ i, i < m → dot W.2.1 (dg W.1 (mul W (ms i) b)) u % W.1 = 0 := fun i hi => by
    rw [mul_lin_r hk (ms i) b, dot_lin_l (by omega) b4]
    refine cb _ (fun j hj => ?_)
    show dot W.2.1 (dg W.1 (ms j)) _ % W.1 = 0
    rw [← dot_lin_l (by omega) b4, ← mul_lin_r hk]
    exact h3 i j u hi hj hu
  rw [mul_lin_l hk b a, dot_lin_l (by omega) b4]
  refine ca _ (fun i hi => ?_)
  show dot W.2.1 (dg W.1 (ms i)) _ % W.1 = 0
  rw [← dot_lin_l (by omega) b4, ← mul_lin_l hk]
  exact step i hi
/-- the echelon holds so many independent members, told in their row -/
def GS (h : AH) (E p n m : Nat) (ms : Nat → Nat) : Prop := ∃ led rows g, EAt h E p n m led rows (fun _ => 0) ∧ EOk p n led rows ∧ m = rk n led ∧ (∀ u, Sol p n led rows u ↔ SolM p n m (mrow p ms) u) ∧ h (E + 85) = some (aI 5 g) ∧ ∀ i, i < m → g i = nI (ms i) ∧ ms i < p ^ n
theorem GS.far {h h2 : AH} {E p n m : Nat} {ms : Nat → Nat} (q : GS h E p n m ms) (e : ∀ a, E ≤ a → a < E + 86 → h2 a = h a) : GS h2 E p n m ms := by
  obtain ⟨led, rows, g, a1, a2, a3, a4, a5, a6⟩ := q
  exact ⟨led, rows, g, a1.far (fun a x y => e a x (by omega)), a2, a3, a4, (e _ (by omega) (by omega)).trans a5, a6⟩
def SM (p n m : Nat) (ms : Nat → Nat) : (Nat → Nat) → Prop := SolM p n m (mrow p ms)
def msp (x m : Nat) (ms : Nat → Nat) : Nat → Nat := fun i => if i = m then x else ms i
theorem msp_at (x m : Nat) (ms : Nat → Nat) : msp x m ms m = x := if_pos rfl
theorem msp_ne {x m i : Nat} {ms : Nat → Nat} (h : i ≠ m) : msp x m ms i = ms i := if_neg h
theorem SM_succ {p n m x : Nat} {ms : Nat → Nat} (u : Nat → Nat) : SM p n (m + 1) (msp x m ms) u ↔ SM p n m ms u ∧ dot n (dg p x) u % p = 0 := by
  constructor
  · intro q
    refine ⟨fun i hi => ?_, ?_⟩
    · have := q i (by omega)
      unfold mrow at this
      rw [msp_ne (by omega)] at this
      exact this
    · have := q m (by omega)
      unfold mrow at this
      rw [msp_at] at this
      exact this
  · intro ⟨y1, y2⟩ i hi
    unfold mrow
    by_cases e : i = m
    · subst e; rw [msp_at]; exact y2
    · rw [msp_ne e]; exact y1 i (by omega)
section SZ
variable {h : AH} {E o : Nat} {W : Wd} {f : Int32}
theorem c_X7_gather {x m : Nat} {ms : Nat → Nat} (hT : TSh h E) (hk : Wok W) (hG : GS h E W.1 W.2.1 m ms) (hx : x < W.1 ^ W.2.1) : CV yX7_gather MX7_gather [.ref (E + 83), .int (nI x)] h (fun h' => ∃ m2 ms2, GS h' E W.1 W.2.1 m2 ms2 ∧ m ≤ m2 ∧ (∀ i, i < m → ms2 i = ms i) ∧ (∀ i, m ≤ i → i < m2 → ms2 i = x) ∧ (∀ u, SM W.1 W.2.1 m2 ms2 u → SM W.1 W.2.1 m ms u ∧ dot W.2.1 (dg W.1 x) u % W.1 = 0) ∧ TSh h' E ∧ Er E (E + 86) h h') := by
  obtain ⟨b1, b2, b3, b4, b5⟩ := hk.b
  obtain ⟨led, rows, g, a1, a2, a3, a4, a5, a6⟩ := hG
  have rl := rk_le W.2.1 led
  obtain ⟨z0, -⟩ := id a1
  obtain ⟨-, t0, -⟩ := id hT
  refine CV.ofV (by decide) rfl rfl (by simp [Value.category]) (by exact Nat.le_of_ble_eq_true rfl) (fun sz => ?_)
  refine e_aload_n (pc := 0) dX7_gather_0 rfl rfl ?_
  refine e_get (pc := 1) fl_X7_28 dX7_gather_1 (by repeat (first | assumption | exact hset_eq _ _ _ | rw [hset_ne _ _ (by omega)])) (by rfl) ?_
  refine n_VP (pc := 4) (c_X0_rank a1) bX0_rank q_i_X0_rank q_s_X0_rank q_m_X7_123 dX7_gather_4 rfl rfl (by repeat (first | assumption | exact hset_eq _ _ _ | rw [hset_ne _ _ (by omega)])) rfl rfl (by exact Nat.le_of_ble_eq_true rfl) ⟨by decide, by decide⟩ ⟨rfl, rfl, Nat.zero_le _, Nat.zero_le _⟩ ?_
  refine e_istore_n (pc := 7) dX7_gather_7 rfl (by decide) ?_
  refine e_aload_n (pc := 8) dX7_gather_8 rfl rfl ?_
  refine e_get (pc := 9) fl_X7_28 dX7_gather_9 (by repeat (first | assumption | exact hset_eq _ _ _ | rw [hset_ne _ _ (by omega)])) (by rfl) ?_
  refine e_iload_n (pc := 12) dX7_gather_12 rfl rfl ?_
  refine n_Vv (pc := 13) (c_X0_addElement a1 (by omega) (by omega) (show x < 3125 by omega)) bX0_addElement q_i_X0_addElement q_s_X0_addElement q_m_X7_156 dX7_gather_13 rfl rfl (by repeat (first | assumption | exact hset_eq _ _ _ | rw [hset_ne _ _ (by omega)])) rfl rfl (by exact Nat.le_of_ble_eq_true rfl) ⟨by decide, by decide⟩ ⟨rfl, rfl, Nat.zero_le _, Nat.zero_le _⟩ (fun h2 hp => ?_)
  obtain ⟨p1, p2⟩ := hp
  have hT2 := hT.ee p1.sh p2
  obtain ⟨-, t0, -⟩ := id hT2
  obtain ⟨z0, -⟩ := id p1
  refine e_aload_n (pc := 16) dX7_gather_16 rfl rfl ?_
  refine e_get (pc := 17) fl_X7_28 dX7_gather_17 (by repeat (first | assumption | exact hset_eq _ _ _ | rw [hset_ne _ _ (by omega)])) (by rfl) ?_
  refine n_V (pc := 20) (c_X0_settle p1 hk.1 (by omega) a2 a3 (fun t _ => dg_lt (by omega) _ _)) bX0_settle q_i_X0_settle q_s_X0_settle q_m_X7_139 dX7_gather_20 rfl rfl (by repeat (first | assumption | exact hset_eq _ _ _ | rw [hset_ne _ _ (by omega)])) rfl rfl (by exact Nat.le_of_ble_eq_true rfl) ⟨by decide, by decide⟩ ⟨rfl, rfl, Nat.zero_le _, Nat.zero_le _⟩ (fun z h3 hp => ?_)
  obtain ⟨bb, r2, led2, rows2, rfl, p3, ⟨s1, s2, s3, s4, s5⟩, p4⟩ := hp
  have hT3 := hT2.ee p3.sh p4
  obtain ⟨-, t0, -⟩ := id hT3
  have g3 : h3 (E + 85) = some (aI 5 g) := (p4 _ (by omega)).trans ((p2 _ (by omega)).trans a5)
  have rl2 := rk_le W.2.1 led2
  have fr3 : Er E (E + 86) h h3 := (p2.tr p4).er.mono (by omega) (by omega)
  refine n_if_eq (pc := 23) (tgt := 38) dX7_gather_23 (by decide) (by omega) (fun hz => ?_) (fun hz => ?_)
  · refine n_vret (pc := 38) dX7_gather_38 rfl ⟨m, ms, ⟨led2, rows2, g, by rw [s2, hz, Nat.add_zero] at p3; exact p3, s3, by omega, ?_, g3, a6⟩, Nat.le_refl _, fun _ _ => rfl, fun i i1 i2 => absurd i2 (by omega), ?_, hT3, fr3⟩
    all_goals
      have key := sub_rank (S := SM W.1 W.2.1 m ms) (S2 := fun u => SM W.1 W.2.1 m ms u ∧ dot W.2.1 (dg W.1 x) u % W.1 = 0) hk.1 ⟨led, rows, a2, a3, a4⟩ ⟨led2, rows2, s3, by omega, fun u => by rw [s5 u, a4 u]; exact Iff.rfl⟩ (fun u q => q.1)
    · intro u
      rw [s5 u, a4 u]
      exact ⟨fun q => q.1, fun q => key u q⟩
    · exact key
  · have hb1 : bb = 1 := by omega
    refine e_iload_n (pc := 26) dX7_gather_26 rfl rfl ?_
    refine n_iconst (pc := 27) 5 dX7_gather_27 (by decide) ?_
    refine n_icmp_ge (pc := 28) (tgt := 38) dX7_gather_28 (by decide) (by omega) (by omega) (fun c => absurd c (by omega)) (fun hb_ => ?_)
    refine e_aload_n (pc := 31) dX7_gather_31 rfl rfl ?_
    refine e_get (pc := 32) fl_X7_15 dX7_gather_32 (by repeat (first | assumption | exact hset_eq _ _ _ | rw [hset_ne _ _ (by omega)])) (by rfl) ?_
    refine e_iload_n (pc := 35) dX7_gather_35 rfl rfl ?_
    refine e_iload_n (pc := 36) dX7_gather_36 rfl rfl ?_
    refine e_iastN (pc := 37) _ dX7_gather_37 (by repeat (first | assumption | exact hset_eq _ _ _ | rw [hset_ne _ _ (by omega)])) (by rfl) (by omega) (by first | decide | omega) ?_
    have p3' : EAt h3 E W.1 W.2.1 (m + 1) led2 rows2 (fun _ => 0) := by rw [s2, hb1] at p3; exact p3
    refine n_vret (pc := 38) dX7_gather_38 rfl ⟨m + 1, msp x m ms, ⟨led2, rows2, _, p3'.far (fun a y z => hset_ne _ _ (by omega)), s3, by omega, fun u => ?_, hset_eq _ _ _, fun i hi => ?_⟩, by omega, fun i hi => msp_ne (by omega), fun i i1 i2 => ?_, fun u q => (SM_succ u).mp q, hT3.a5 (Or.inr rfl), fr3.set (by omega)⟩
    · rw [s5 u, a4 u]
      exact (SM_succ u).symm
    · by_cases e : i = m
      · subst e; rw [pk_us, msp_at]; exact ⟨rfl, hx⟩
      · rw [pk_un e, msp_ne e]; exact a6 i (by omega)
    · rw [show i = m by omega, msp_at]
/-- members made of x and y, closed so far -/
def CL (h1 : AH) (E : Nat) (W : Wd) (x y i j : Nat) : Prop := ∃ m ms, GS h1 E W.1 W.2.1 m ms ∧ (∀ t, t < m → Gen W x y (ms t)) ∧ (∀ u, SM W.1 W.2.1 m ms u → dot W.2.1 (dg W.1 x) u % W.1 = 0 ∧ dot W.2.1 (dg W.1 y) u % W.1 = 0) ∧ i ≤ m ∧ (0 < j → i < m) ∧ ∀ a b u, b ≤ a → (a < i ∨ a = i ∧ b < j) → a < m → SM W.1 W.2.1 m ms u → dot W.2.1 (dg W.1 (mul W (ms a) (ms b))) u % W.1 = 0 ∧ dot W.2.1 (dg W.1 (mul W (ms b) (ms a))) u % W.1 = 0
theorem GS.le {m : Nat} {ms : Nat → Nat} (q : GS h E W.1 W.2.1 m ms) : m ≤ W.2.1 := by
  obtain ⟨led, rows, g, a1, a2, a3, a4, a5, a6⟩ := q
  rw [a3]
  exact rk_le _ _
theorem GS.uniq {m m' : Nat} {ms ms' : Nat → Nat} (hk : Wok W) (q : GS h E W.1 W.2.1 m ms) (q' : GS h E W.1 W.2.1 m' ms') : m = m' := by
  obtain ⟨b1, b2, b3, b4, b5⟩ := hk.b
  have l1 := q.le
  have l2 := q'.le
  obtain ⟨led, rows, g, a1, -⟩ := q
  obtain ⟨led', rows', g', a1', -⟩ := q'
  have e := a1.1.symm.trans a1'.1
  have e2 : nI m = nI m' := by injection e with e; injection e with e; injection e with e e; injection e with e e3; injection e3 with e3 e4; injection e4 with e4 e5; injection e4
  exact (nI_eq (by omega) (by omega)).mp e2
theorem l_cl_j {sz x y i : Nat} {hh : AH} {Pr : Int32 → AH → Prop} (hk : Wok W) (d : o + 3 ≤ E ∨ E + 89 ≤ o) (hi : i < 5)
    (kk : ∀ h1, TSh h1 E → WAt h1 o W f → Fr E o hh h1 → CL h1 E W x y (i + 1) 0 → VI MX7_closure sz Pr h1 106 [some (.ref (E + 83)), some (.ref o), none, none, some (.int (nI i)), none] []) :
    ∀ (n j : Nat), n = i + 1 - j → j ≤ i + 1 → ∀ h1, TSh h1 E → WAt h1 o W f → Fr E o hh h1 → CL h1 E W x y i j → (∃ m ms, GS h1 E W.1 W.2.1 m ms ∧ i < m) → VI MX7_closure sz Pr h1 49 [some (.ref (E + 83)), some (.ref o), none, none, some (.int (nI i)), some (.int (nI j))] [] := by
  obtain ⟨b1, b2, b3, b4, b5⟩ := hk.b
  intro n
  induction n with
  | zero =>
    intro j e1 e2 h1 hT hW he hC hm
    have e' : j = i + 1 := by omega
    subst e'
    refine e_iload (pc := 49) dX7_closure_49 rfl ?_
    refine e_iload (pc := 51) dX7_closure_51 rfl ?_
    refine n_icmp_gt (pc := 53) (tgt := 106) dX7_closure_53 (by decide) (by omega) (by omega) (fun hb_ => ?_) (fun c => absurd c (by omega))
    refine V.mask [true, true, false, false, true, false] ?_
    obtain ⟨m, ms, c1, c2, c3, c4, c5, c6⟩ := hC
    exact kk h1 hT hW he ⟨m, ms, c1, c2, c3, c5 (by omega), fun q => absurd q (by omega), fun a b u hba hx ham hu => c6 a b u hba (by omega) ham hu⟩
  | succ n ih =>
    intro j e1 e2 h1 hT hW he hC hm
    obtain ⟨m, ms, c1, c2, c3, c4, c5, c6⟩ := hC
    have him : i < m := by
      obtain ⟨m', ms', q', hm'⟩ := hm
      rw [GS.uniq hk c1 q']
      exact hm'
    obtain ⟨led, rows, g, -, -, -, -, g1, g2⟩ := id c1
    have l1 := c1.le
    have hj : j < m := by omega
    obtain ⟨u1, u2⟩ := g2 i him
    obtain ⟨v1, v2⟩ := g2 j hj
    obtain ⟨-, t0, -⟩ := id hT
    obtain ⟨w0, -, -⟩ := id hW
    have m1 := mul_lt hk (ms i) (ms j)
    have m2 := mul_lt hk (ms j) (ms i)
    refine e_iload (pc := 49) dX7_closure_49 rfl ?_
    refine e_iload (pc := 51) dX7_closure_51 rfl ?_
    refine n_icmp_gt (pc := 53) (tgt := 106) dX7_closure_53 (by decide) (by omega) (by omega) (fun c => absurd c (by omega)) (fun hb_ => ?_)
    refine e_aload_n (pc := 56) dX7_closure_56 rfl rfl ?_
    refine e_aload_n (pc := 57) dX7_closure_57 rfl rfl ?_
    refine e_aload_n (pc := 58) dX7_closure_58 rfl rfl ?_
    refine e_get (pc := 59) fl_X7_15 dX7_closure_59 (by repeat (first | assumption | exact hset_eq _ _ _ | rw [hset_ne _ _ (by omega)])) (by rfl) ?_
    refine e_iload (pc := 62) dX7_closure_62 rfl ?_
    refine e_ialdN (pc := 64) _ dX7_closure_64 (by repeat (first | assumption | exact hset_eq _ _ _ | rw [hset_ne _ _ (by omega)])) (by rfl) (by omega) (by first | decide | omega) ?_
    rw [u1]
    refine e_aload_n (pc := 65) dX7_closure_65 rfl rfl ?_
    refine e_get (pc := 66) fl_X7_15 dX7_closure_66 (by repeat (first | assumption | exact hset_eq _ _ _ | rw [hset_ne _ _ (by omega)])) (by rfl) ?_
    refine e_iload (pc := 69) dX7_closure_69 rfl ?_
    refine e_ialdN (pc := 71) _ dX7_closure_71 (by repeat (first | assumption | exact hset_eq _ _ _ | rw [hset_ne _ _ (by omega)])) (by rfl) (by omega) (by first | decide | omega) ?_
    rw [v1]
    refine n_V (pc := 72) (c_X9_times2 hW hk (show ms i < 3125 by omega) (show ms j < 3125 by omega)) bX9_times q_i_X9_times q_s_X9_times q_m_X7_62 dX7_closure_72 rfl rfl (by repeat (first | assumption | exact hset_eq _ _ _ | rw [hset_ne _ _ (by omega)])) rfl rfl (by exact Nat.le_of_ble_eq_true rfl) ⟨by decide, by decide⟩ ⟨rfl, rfl, Nat.zero_le _, Nat.zero_le _⟩ (fun z h2 hp => ?_)
    obtain ⟨rfl, p1, p2⟩ := hp
    have hT2 := hT.es p2 d
    obtain ⟨-, t0, -⟩ := id hT2
    refine n_Vv (pc := 75) (c_X7_gather hT2 hk (c1.far (fun a x y => p2 a (by omega))) m1) bX7_gather q_i_X7_gather q_s_X7_gather q_m_X7_153 dX7_closure_75 rfl rfl (by repeat (first | assumption | exact hset_eq _ _ _ | rw [hset_ne _ _ (by omega)])) rfl rfl (by exact Nat.le_of_ble_eq_true rfl) ⟨by decide, by decide⟩ ⟨rfl, rfl, Nat.zero_le _, Nat.zero_le _⟩ (fun h3 hp => ?_)
    obtain ⟨m3, ms3, d1, d2, d3, d4, d5, hT3, d6⟩ := hp
    have hW3 : WAt h3 o W f := p1.er d6 (by omega)
    obtain ⟨led3, rows3, g3, -, -, -, -, k1, k2⟩ := id d1
    obtain ⟨u1, u2'⟩ := k2 i (by omega)
    obtain ⟨v1, v2'⟩ := k2 j (by omega)
    rw [d3 i him] at u1
    rw [d3 j hj] at v1
    obtain ⟨-, t0, -⟩ := id hT3
    obtain ⟨w0, -, -⟩ := id hW3
    refine e_aload_n (pc := 78) dX7_closure_78 rfl rfl ?_
    refine e_aload_n (pc := 79) dX7_closure_79 rfl rfl ?_
    refine e_aload_n (pc := 80) dX7_closure_80 rfl rfl ?_
    refine e_get (pc := 81) fl_X7_15 dX7_closure_81 (by repeat (first | assumption | exact hset_eq _ _ _ | rw [hset_ne _ _ (by omega)])) (by rfl) ?_
    refine e_iload (pc := 84) dX7_closure_84 rfl ?_
    refine e_ialdN (pc := 86) _ dX7_closure_86 (by repeat (first | assumption | exact hset_eq _ _ _ | rw [hset_ne _ _ (by omega)])) (by rfl) (by omega) (by first | decide | omega) ?_
    rw [v1]
    refine e_aload_n (pc := 87) dX7_closure_87 rfl rfl ?_
    refine e_get (pc := 88) fl_X7_15 dX7_closure_88 (by repeat (first | assumption | exact hset_eq _ _ _ | rw [hset_ne _ _ (by omega)])) (by rfl) ?_
    refine e_iload (pc := 91) dX7_closure_91 rfl ?_
    refine e_ialdN (pc := 93) _ dX7_closure_93 (by repeat (first | assumption | exact hset_eq _ _ _ | rw [hset_ne _ _ (by omega)])) (by rfl) (by omega) (by first | decide | omega) ?_
    rw [u1]
    refine n_V (pc := 94) (c_X9_times2 hW3 hk (show ms j < 3125 by omega) (show ms i < 3125 by omega)) bX9_times q_i_X9_times q_s_X9_times q_m_X7_62 dX7_closure_94 rfl rfl (by repeat (first | assumption | exact hset_eq _ _ _ | rw [hset_ne _ _ (by omega)])) rfl rfl (by exact Nat.le_of_ble_eq_true rfl) ⟨by decide, by decide⟩ ⟨rfl, rfl, Nat.zero_le _, Nat.zero_le _⟩ (fun z h4 hp => ?_)
    obtain ⟨rfl, p3, p4⟩ := hp
    have hT4 := hT3.es p4 d
    obtain ⟨-, t0, -⟩ := id hT4
    refine n_Vv (pc := 97) (c_X7_gather hT4 hk (d1.far (fun a x y => p4 a (by omega))) m2) bX7_gather q_i_X7_gather q_s_X7_gather q_m_X7_153 dX7_closure_97 rfl rfl (by repeat (first | assumption | exact hset_eq _ _ _ | rw [hset_ne _ _ (by omega)])) rfl rfl (by exact Nat.le_of_ble_eq_true rfl) ⟨by decide, by decide⟩ ⟨rfl, rfl, Nat.zero_le _, Nat.zero_le _⟩ (fun h5 hp => ?_)
    obtain ⟨m5, ms5, f1, f2, f3, f4, f5, hT5, f6⟩ := hp
    have hW5 : WAt h5 o W f := p3.er f6 (by omega)
    refine n_inc (pc := 100) dX7_closure_100 rfl (by decide) ?_
    refine e_goto (pc := 103) (tgt := 49) dX7_closure_103 (by decide) ?_
    refine ih (j + 1) (by omega) (by omega) h5 hT5 hW5 (he.tr (p2.fr.tr ((d6.fr (by omega) (by omega)).tr (p4.fr.tr (f6.fr (by omega) (by omega)))))) ⟨m5, ms5, f1, fun t ht => ?_, fun u hu => c3 u (d5 u (f5 u hu).1).1, by omega, fun _ => by omega, fun a b u hba hx ham hu => ?_⟩ ⟨m5, ms5, f1, by omega⟩
    · by_cases t3 : t < m3
      · rw [f3 t t3]
        by_cases t1 : t < m
        · rw [d3 t t1]; exact c2 t t1
        · rw [d4 t (by omega) t3]; exact (c2 i him).mul (c2 j hj)
      · rw [f4 t (by omega) ht]; exact (c2 j hj).mul (c2 i him)
    · have hu3 := f5 u hu
      have hu1 := d5 u hu3.1
      rw [f3 a (by omega), f3 b (by omega), d3 a (by omega), d3 b (by omega)]
      by_cases e : a = i ∧ b = j
      · obtain ⟨rfl, rfl⟩ := e
        exact ⟨hu1.2, hu3.2⟩
      · exact c6 a b u hba (by omega) (by omega) hu1.1
def Span (W : Wd) (x y : Nat) (z : Int32) : Prop := ∃ r, z = nI (W.1 ^ r) ∧ isRank W.1 W.2.1 (SGen W x y) r
theorem l_cl_i {sz x y : Nat} {hh : AH} (hk : Wok W) (d : o + 3 ≤ E ∨ E + 89 ≤ o) :
    ∀ (n i : Nat), n = 5 - i → i ≤ 5 → ∀ h1, TSh h1 E → WAt h1 o W f → Fr E o hh h1 → CL h1 E W x y i 0 → VI MX7_closure sz (fun z h' => Span W x y z ∧ TSh h' E ∧ WAt h' o W f ∧ Fr E o hh h') h1 28 [some (.ref (E + 83)), some (.ref o), none, none, some (.int (nI i)), none] [] := by
  obtain ⟨b1, b2, b3, b4, b5⟩ := hk.b
  have fin : ∀ i h1, TSh h1 E → WAt h1 o W f → Fr E o hh h1 → (∃ m ms, GS h1 E W.1 W.2.1 m ms ∧ (∀ t, t < m → Gen W x y (ms t)) ∧ (∀ u, SM W.1 W.2.1 m ms u → dot W.2.1 (dg W.1 x) u % W.1 = 0 ∧ dot W.2.1 (dg W.1 y) u % W.1 = 0) ∧ ∀ a b u, b ≤ a → a < m → SM W.1 W.2.1 m ms u → dot W.2.1 (dg W.1 (mul W (ms a) (ms b))) u % W.1 = 0 ∧ dot W.2.1 (dg W.1 (mul W (ms b) (ms a))) u % W.1 = 0) → VI MX7_closure sz (fun z h' => Span W x y z ∧ TSh h' E ∧ WAt h' o W f ∧ Fr E o hh h') h1 112 [some (.ref (E + 83)), some (.ref o), none, none, some (.int (nI i)), none] [] := fun i h1 hT hW he hC => by
    obtain ⟨m, ms, c1, c2, c3, c6⟩ := hC
    have l1 := c1.le
    obtain ⟨led, rows, g, a1, a2, a3, a4, a5, a6⟩ := id c1
    obtain ⟨-, t0, -⟩ := id hT
    obtain ⟨w0, -, -⟩ := id hW
    obtain ⟨z0, -⟩ := id a1
    refine e_aload_n (pc := 112) dX7_closure_112 rfl rfl ?_
    refine n_VP (pc := 113) (c_X9_prime hW) bX9_prime q_i_X9_prime q_s_X9_prime q_m_X7_81 dX7_closure_113 rfl rfl (by repeat (first | assumption | exact hset_eq _ _ _ | rw [hset_ne _ _ (by omega)])) rfl rfl (by exact Nat.le_of_ble_eq_true rfl) ⟨by decide, by decide⟩ ⟨rfl, rfl, Nat.zero_le _, Nat.zero_le _⟩ ?_
    refine e_aload_n (pc := 116) dX7_closure_116 rfl rfl ?_
    refine e_get (pc := 117) fl_X7_28 dX7_closure_117 (by repeat (first | assumption | exact hset_eq _ _ _ | rw [hset_ne _ _ (by omega)])) (by rfl) ?_
    refine n_VP (pc := 120) (c_X0_rank a1) bX0_rank q_i_X0_rank q_s_X0_rank q_m_X7_123 dX7_closure_120 rfl rfl (by repeat (first | assumption | exact hset_eq _ _ _ | rw [hset_ne _ _ (by omega)])) rfl rfl (by exact Nat.le_of_ble_eq_true rfl) ⟨by decide, by decide⟩ ⟨rfl, rfl, Nat.zero_le _, Nat.zero_le _⟩ ?_
    refine n_SP (pc := 123) (c_X8_power (show m ≤ 5 by omega) b2) bX8_power q_st_X8_power q_m_X7_126 dX7_closure_123 rfl rfl (by exact Nat.le_of_ble_eq_true rfl) ⟨by decide, by decide⟩ ⟨rfl, rfl, Nat.zero_le _, Nat.zero_le _⟩ ?_
    refine n_iret (pc := 126) dX7_closure_126 rfl ⟨⟨m, rfl, led, rows, a2, a3, fun u => ?_⟩, hT, hW, he⟩
    rw [a4 u]
    refine gen_sol hk c2 (fun u q => (c3 u q).1) (fun u q => (c3 u q).2) (fun a b u ha hb q => ?_) u
    by_cases e : b ≤ a
    · exact (c6 a b u e ha q).1
    · exact (c6 b a u (by omega) hb q).2
  intro n
  induction n with
  | zero =>
    intro i e1 e2 h1 hT hW he hC
    have e' : i = 5 := by omega
    subst e'
    obtain ⟨m, ms, c1, c2, c3, c4, c5, c6⟩ := hC
    have l1 := c1.le
    obtain ⟨led, rows, g, a1, a2, a3, a4, a5, a6⟩ := id c1
    obtain ⟨-, t0, -⟩ := id hT
    obtain ⟨z0, -⟩ := id a1
    refine e_iload (pc := 28) dX7_closure_28 rfl ?_
    refine e_aload_n (pc := 30) dX7_closure_30 rfl rfl ?_
    refine e_get (pc := 31) fl_X7_28 dX7_closure_31 (by repeat (first | assumption | exact hset_eq _ _ _ | rw [hset_ne _ _ (by omega)])) (by rfl) ?_
    refine n_VP (pc := 34) (c_X0_rank a1) bX0_rank q_i_X0_rank q_s_X0_rank q_m_X7_123 dX7_closure_34 rfl rfl (by repeat (first | assumption | exact hset_eq _ _ _ | rw [hset_ne _ _ (by omega)])) rfl rfl (by exact Nat.le_of_ble_eq_true rfl) ⟨by decide, by decide⟩ ⟨rfl, rfl, Nat.zero_le _, Nat.zero_le _⟩ ?_
    refine n_icmp_ge (pc := 37) (tgt := 112) dX7_closure_37 (by decide) (by omega) (by omega) (fun hb_ => ?_) (fun c => absurd c (by omega))
    exact fin 5 h1 hT hW he ⟨m, ms, c1, c2, c3, fun a b u hba ha hu => c6 a b u hba (by omega) ha hu⟩
  | succ n ih =>
    intro i e1 e2 h1 hT hW he hC
    obtain ⟨m, ms, c1, c2, c3, c4, c5, c6⟩ := id hC
    have l1 := c1.le
    obtain ⟨led, rows, g, a1, a2, a3, a4, a5, a6⟩ := id c1
    obtain ⟨-, t0, -⟩ := id hT
    obtain ⟨z0, -⟩ := id a1
    refine e_iload (pc := 28) dX7_closure_28 rfl ?_
    refine e_aload_n (pc := 30) dX7_closure_30 rfl rfl ?_
    refine e_get (pc := 31) fl_X7_28 dX7_closure_31 (by repeat (first | assumption | exact hset_eq _ _ _ | rw [hset_ne _ _ (by omega)])) (by rfl) ?_
    refine n_VP (pc := 34) (c_X0_rank a1) bX0_rank q_i_X0_rank q_s_X0_rank q_m_X7_123 dX7_closure_34 rfl rfl (by repeat (first | assumption | exact hset_eq _ _ _ | rw [hset_ne _ _ (by omega)])) rfl rfl (by exact Nat.le_of_ble_eq_true rfl) ⟨by decide, by decide⟩ ⟨rfl, rfl, Nat.zero_le _, Nat.zero_le _⟩ ?_
    refine n_icmp_ge (pc := 37) (tgt := 112) dX7_closure_37 (by decide) (by omega) (by omega) (fun him => ?_) (fun him => ?_)
    · exact fin i h1 hT hW he ⟨m, ms, c1, c2, c3, fun a b u hba ha hu => c6 a b u hba (by omega) ha hu⟩
    · refine e_iload (pc := 40) dX7_closure_40 rfl ?_
      refine n_iconst (pc := 42) 5 dX7_closure_42 (by decide) ?_
      refine n_icmp_ge (pc := 43) (tgt := 112) dX7_closure_43 (by decide) (by omega) (by omega) (fun c => absurd c (by omega)) (fun hb_ => ?_)
      refine n_iconst (pc := 46) 0 dX7_closure_46 (by decide) ?_
      refine e_istore (pc := 47) dX7_closure_47 (by decide) ?_
      refine l_cl_j (hh := hh) (f := f) hk d hb_ (fun h3 hT3 hW3 he3 hC3 => ?_) (i + 1) 0 rfl (Nat.zero_le _) h1 hT hW he hC ⟨m, ms, c1, him⟩
      refine n_inc (pc := 106) dX7_closure_106 rfl (by decide) ?_
      refine e_goto (pc := 109) (tgt := 28) dX7_closure_109 (by decide) ?_
      exact ih (i + 1) (by omega) (by omega) h3 hT3 hW3 he3 hC3
theorem c_X7_closure {x y : Nat} (hT : TSh h E) (hW : WAt h o W f) (hk : Wok W) (hx : x < W.1 ^ W.2.1) (hy : y < W.1 ^ W.2.1) (d : o + 3 ≤ E ∨ E + 89 ≤ o) : CI yX7_closure MX7_closure [.ref (E + 83), .ref o, .int (nI x), .int (nI y)] h (fun z h' => Span W x y z ∧ TSh h' E ∧ WAt h' o W f ∧ Fr E o h h') := by
  obtain ⟨b1, b2, b3, b4, b5⟩ := hk.b
  obtain ⟨-, t0, -⟩ := id hT
  obtain ⟨w0, -, -⟩ := id hW
  obtain ⟨⟨⟨⟨_, _, _, s1⟩, -⟩, -⟩, -⟩ := id hT
  refine CI.ofV (by decide) rfl rfl (by simp [Value.category]) (by exact Nat.le_of_ble_eq_true rfl) (fun sz => ?_)
  refine e_aload_n (pc := 0) dX7_closure_0 rfl rfl ?_
  refine e_get (pc := 1) fl_X7_28 dX7_closure_1 (by repeat (first | assumption | exact hset_eq _ _ _ | rw [hset_ne _ _ (by omega)])) (by rfl) ?_
  refine e_aload_n (pc := 4) dX7_closure_4 rfl rfl ?_
  refine n_VP (pc := 5) (c_X9_prime hW) bX9_prime q_i_X9_prime q_s_X9_prime q_m_X7_81 dX7_closure_5 rfl rfl (by repeat (first | assumption | exact hset_eq _ _ _ | rw [hset_ne _ _ (by omega)])) rfl rfl (by exact Nat.le_of_ble_eq_true rfl) ⟨by decide, by decide⟩ ⟨rfl, rfl, Nat.zero_le _, Nat.zero_le _⟩ ?_
  refine e_aload_n (pc := 8) dX7_closure_8 rfl rfl ?_
  refine n_VP (pc := 9) (c_X9_size hW) bX9_size q_i_X9_size q_s_X9_size q_m_X7_70 dX7_closure_9 rfl rfl (by repeat (first | assumption | exact hset_eq _ _ _ | rw [hset_ne _ _ (by omega)])) rfl rfl (by exact Nat.le_of_ble_eq_true rfl) ⟨by decide, by decide⟩ ⟨rfl, rfl, Nat.zero_le _, Nat.zero_le _⟩ ?_
  refine n_Vv (pc := 12) (c_X0_start hT.1.1 hk.1 (by omega)) bX0_start q_i_X0_start q_s_X0_start q_m_X7_114 dX7_closure_12 rfl rfl (by repeat (first | assumption | exact hset_eq _ _ _ | rw [hset_ne _ _ (by omega)])) rfl rfl (by exact Nat.le_of_ble_eq_true rfl) ⟨by decide, by decide⟩ ⟨rfl, rfl, Nat.zero_le _, Nat.zero_le _⟩ (fun h2 hp => ?_)
  obtain ⟨p1, p2⟩ := hp
  have hT2 := hT.ee p1.sh p2
  have hW2 : WAt h2 o W f := hW.er p2.er (by omega)
  obtain ⟨-, t0, -, ⟨g, hg⟩, -⟩ := id hT2
  have hG : GS h2 E W.1 W.2.1 0 (fun _ => 0) := ⟨_, _, g, p1, EOk_0 _ _, (rk_0 _).symm, fun u => ⟨fun _ i hi => absurd hi (Nat.not_lt_zero i), fun _ => Sol_0 _ _ u⟩, hg, fun i hi => absurd hi (Nat.not_lt_zero i)⟩
  refine e_aload_n (pc := 15) dX7_closure_15 rfl rfl ?_
  refine e_iload_n (pc := 16) dX7_closure_16 rfl rfl ?_
  refine n_Vv (pc := 17) (c_X7_gather hT2 hk hG hx) bX7_gather q_i_X7_gather q_s_X7_gather q_m_X7_153 dX7_closure_17 rfl rfl (by repeat (first | assumption | exact hset_eq _ _ _ | rw [hset_ne _ _ (by omega)])) rfl rfl (by exact Nat.le_of_ble_eq_true rfl) ⟨by decide, by decide⟩ ⟨rfl, rfl, Nat.zero_le _, Nat.zero_le _⟩ (fun h3 hp => ?_)
  obtain ⟨m3, ms3, d1, d2, d3, d4, d5, hT3, d6⟩ := hp
  obtain ⟨-, t0, -⟩ := id hT3
  refine e_aload_n (pc := 20) dX7_closure_20 rfl rfl ?_
  refine e_iload_n (pc := 21) dX7_closure_21 rfl rfl ?_
  refine n_Vv (pc := 22) (c_X7_gather hT3 hk d1 hy) bX7_gather q_i_X7_gather q_s_X7_gather q_m_X7_153 dX7_closure_22 rfl rfl (by repeat (first | assumption | exact hset_eq _ _ _ | rw [hset_ne _ _ (by omega)])) rfl rfl (by exact Nat.le_of_ble_eq_true rfl) ⟨by decide, by decide⟩ ⟨rfl, rfl, Nat.zero_le _, Nat.zero_le _⟩ (fun h4 hp => ?_)
  obtain ⟨m4, ms4, f1, f2, f3, f4, f5, hT4, f6⟩ := hp
  refine n_iconst (pc := 25) 0 dX7_closure_25 (by decide) ?_
  refine e_istore (pc := 26) dX7_closure_26 (by decide) ?_
  refine V.mask [true, true, false, false, true, false] ?_
  refine l_cl_i hk d 5 0 rfl (Nat.zero_le _) h4 hT4 ((hW2.er d6 (by omega)).er f6 (by omega)) (p2.fr2.tr ((d6.fr (by omega) (by omega)).tr (f6.fr (by omega) (by omega)))) ⟨m4, ms4, f1, fun t ht => ?_, fun u hu => ⟨(d5 u (f5 u hu).1).2, (f5 u hu).2⟩, Nat.zero_le _, fun q => absurd q (by omega), fun a b u hba hx => absurd hx (by omega)⟩
  by_cases t3 : t < m3
  · rw [f3 t t3, d4 t (Nat.zero_le _) t3]; exact Gen.x
  · rw [f4 t (by omega) ht]; exact Gen.y
end SZ
