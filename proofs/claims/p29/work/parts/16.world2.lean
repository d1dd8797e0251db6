/-! ===== worlds, changed ===== -/
/-- nothing but a world's three cells changed -/
def Ew (o : Nat) (h h' : AH) : Prop := ∀ a, a ≠ o → a ≠ o + 1 → a ≠ o + 2 → h' a = h a
theorem Ew.rf (o : Nat) (h : AH) : Ew o h h := fun _ _ _ _ => rfl
theorem Ew.tr {o : Nat} {h h1 h2 : AH} (a : Ew o h h1) (b : Ew o h1 h2) : Ew o h h2 := fun q x y z => (b q x y z).trans (a q x y z)
theorem Ew.set {o : Nat} {h h1 : AH} {a : Nat} {x : AE} (e : Ew o h h1) (ha : a = o ∨ a = o + 1 ∨ a = o + 2) : Ew o h (hset h1 a x) := fun q p1 p2 p3 => by
  rw [hset_ne _ _ (by omega)]
  exact e q p1 p2 p3
theorem WAt.far {h h2 : AH} {o o2 : Nat} {W : Wd} {f : Int32} (hW : WAt h o W f) (e : Ew o2 h h2) (d : o + 3 ≤ o2 ∨ o2 + 3 ≤ o) : WAt h2 o W f := by
  refine hW.kept (e _ (by omega) (by omega) (by omega)) (e _ (by omega) (by omega) (by omega)) ?_
  obtain ⟨g, hg⟩ := hW.2.2
  exact ⟨g, by rw [e _ (by omega) (by omega) (by omega)]; exact hg⟩
theorem WAt.sums {h : AH} {o : Nat} {W : Wd} {f : Int32} (hW : WAt h o W f) (g : Nat → Int32) : WAt (hset h (o + 2) (aI 5 g)) o W f :=
  hW.kept (hset_ne _ _ (by omega)) (hset_ne _ _ (by omega)) ⟨g, hset_eq _ _ _⟩
/-- a boolean answer -/
def isB (x : Int32) (P : Prop) : Prop := (P ∧ x = 1) ∨ (¬ P ∧ x = 0)
def wput (W : Wd) (i j k v : Nat) : Wd := (W.1, W.2.1, fun t => if t = 25 * i + 5 * j + k then v else W.2.2 t)
theorem wput_ok {W : Wd} (hk : Wok W) {i j k v : Nat} (hi : i < W.2.1) (hj : j < W.2.1) (hkk : k < W.2.1) (hv : v < W.1) : Wok (wput W i j k v) := by
  obtain ⟨b1, b2, b3, b4, b5⟩ := hk.b
  obtain ⟨h1, h2, h3, h4, h5⟩ := hk
  refine ⟨h1, h2, h3, h4, fun t => ?_⟩
  show (if t = 25 * i + 5 * j + k then v else W.2.2 t) < W.1 ∧ (¬ inC W.2.1 t → (if t = 25 * i + 5 * j + k then v else W.2.2 t) = 0)
  by_cases e : t = 25 * i + 5 * j + k
  · rw [if_pos e]
    refine ⟨hv, fun z => absurd ?_ z⟩
    unfold inC
    omega
  · rw [if_neg e]
    exact h5 t
section WP
variable {h : AH} {o : Nat} {W : Wd} {f : Int32}
theorem c_X9_put (hW : WAt h o W f) (hk : Wok W) {i j k v : Nat} (hi : i < W.2.1) (hj : j < W.2.1) (hkk : k < W.2.1) : CV yX9_put MX9_put [.ref o, .int (nI i), .int (nI j), .int (nI k), .int (nI v)] h (fun h' => WAt h' o (wput W i j k v) (-2) ∧ Ew o h h') := by
  obtain ⟨h0, h1, g, h2⟩ := id hW
  obtain ⟨b1, b2, b3, b4, b5⟩ := hk.b
  refine CV.ofV (by decide) rfl rfl (by simp [Value.category]) (by exact Nat.le_of_ble_eq_true rfl) (fun sz => ?_)
  refine e_aload_n (pc := 0) dX9_put_0 rfl rfl ?_
  refine e_iload_n (pc := 1) dX9_put_1 rfl rfl ?_
  refine e_iload_n (pc := 2) dX9_put_2 rfl rfl ?_
  refine e_iload_n (pc := 3) dX9_put_3 rfl rfl ?_
  refine n_VP (pc := 4) (c_X9_hasCell hW (nI i) (nI j) (nI k)) bX9_hasCell q_i_X9_hasCell q_s_X9_hasCell q_m_X9_51 dX9_put_4 rfl rfl (by repeat (first | assumption | exact hset_eq _ _ _ | rw [hset_ne _ _ (by omega)])) rfl rfl (by exact Nat.le_of_ble_eq_true rfl) ⟨by decide, by decide⟩ ⟨rfl, rfl, Nat.zero_le _, Nat.zero_le _⟩ ?_
  rw [okI_nI (by omega) (by omega), okI_nI (by omega) (by omega), okI_nI (by omega) (by omega), decide_eq_true hi, decide_eq_true hj, decide_eq_true hkk]
  refine e_if_eq (pc := 7) (tgt := 33) dX9_put_7 (by decide) (fun c => absurd c (by decide)) (fun c => ?_)
  refine e_aload_n (pc := 10) dX9_put_10 rfl rfl ?_
  refine e_get (pc := 11) fl_X9_24 dX9_put_11 (by repeat (first | assumption | exact hset_eq _ _ _ | rw [hset_ne _ _ (by omega)])) (by rfl) ?_
  refine n_bipush (pc := 14) 25 dX9_put_14 (by decide) ?_
  refine e_iload_n (pc := 16) dX9_put_16 rfl rfl ?_
  refine n_imul (pc := 17) dX9_put_17 ?_
  refine n_iconst (pc := 18) 5 dX9_put_18 (by decide) ?_
  refine e_iload_n (pc := 19) dX9_put_19 rfl rfl ?_
  refine n_imul (pc := 20) dX9_put_20 ?_
  refine n_iadd (pc := 21) dX9_put_21 ?_
  refine e_iload_n (pc := 22) dX9_put_22 rfl rfl ?_
  refine n_iadd (pc := 23) dX9_put_23 ?_
  refine e_iload (pc := 24) dX9_put_24 rfl ?_
  refine e_iastN (pc := 26) _ dX9_put_26 (by repeat (first | assumption | exact hset_eq _ _ _ | rw [hset_ne _ _ (by omega)])) (by rfl) (by omega) (by first | decide | omega) ?_
  refine e_aload_n (pc := 27) dX9_put_27 rfl rfl ?_
  refine e_bipush (pc := 28) (v := -2) dX9_put_28 (by decide) ?_
  refine e_put (pc := 30) pl_X9_21 dX9_put_30 (by repeat (first | assumption | exact hset_eq _ _ _ | rw [hset_ne _ _ (by omega)])) (by rfl) (by rfl) (by exact Nat.le_of_ble_eq_true rfl) ?_
  refine n_vret (pc := 33) dX9_put_33 rfl ⟨⟨hset_eq _ _ _, ?_, g, ?_⟩, ((Ew.rf o h).set (by omega)).set (by omega)⟩
  · rw [hset_ne _ _ (by omega), hset_eq]
    refine congrArg some (congrArg (fun z => aI 125 z) (funext fun t => ?_))
    show upd (fun k => nI (W.2.2 k)) (25 * i + 5 * j + k) (nI v) t = nI (if t = 25 * i + 5 * j + k then v else W.2.2 t)
    by_cases e : t = 25 * i + 5 * j + k
    · rw [e, pk_us, if_pos rfl]
    · rw [pk_un e, if_neg e]
  · rw [hset_ne _ _ (by omega), hset_ne _ _ (by omega)]
    exact h2
/-- a row of a cube is an element's digits -/
def wrow (W : Wd) (i j m x : Nat) : Wd := (W.1, W.2.1, fun t => if 25 * i + 5 * j ≤ t ∧ t < 25 * i + 5 * j + m then dg W.1 x (t - (25 * i + 5 * j)) else W.2.2 t)
theorem wrow_0 (W : Wd) (i j x : Nat) : wrow W i j 0 x = W := by
  unfold wrow
  refine congrArg (fun z => (W.1, W.2.1, z)) (funext fun t => ?_)
  exact if_neg (by omega)
theorem wrow_s (W : Wd) (i j k x : Nat) : wput (wrow W i j k x) i j k (dg W.1 x k) = wrow W i j (k + 1) x := by
  unfold wrow wput
  refine congrArg (fun z => (W.1, W.2.1, z)) (funext fun t => ?_)
  show (if t = 25 * i + 5 * j + k then dg W.1 x k else if 25 * i + 5 * j ≤ t ∧ t < 25 * i + 5 * j + k then dg W.1 x (t - (25 * i + 5 * j)) else W.2.2 t) = _
  by_cases e : t = 25 * i + 5 * j + k
  · rw [if_pos e, if_pos (by omega), e]
    congr 1
    omega
  · rw [if_neg e]
    by_cases e2 : 25 * i + 5 * j ≤ t ∧ t < 25 * i + 5 * j + k
    · rw [if_pos e2, if_pos (by omega)]
    · rw [if_neg e2, if_neg (by omega)]
theorem wrow_ok {W : Wd} (hk : Wok W) {i j m x : Nat} (hi : i < W.2.1) (hj : j < W.2.1) : ∀ (m : Nat), m ≤ W.2.1 → Wok (wrow W i j m x)
  | 0, _ => by rw [wrow_0]; exact hk
  | m + 1, hm => by
    rw [← wrow_s]
    exact wput_ok (wrow_ok hk hi hj (m := m) m (by omega)) hi hj hm (dg_lt (by have := hk.b; omega) x m)
theorem l_putRow {sz : Nat} (hk : Wok W) {i j x : Nat} (hi : i < W.2.1) (hj : j < W.2.1) (hx : x < 3125) : ∀ (n k : Nat), n = W.2.1 - k → k ≤ W.2.1 → ∀ h1, (∃ f, WAt h1 o (wrow W i j k x) f) → (k = W.2.1 → WAt h1 o (wrow W i j k x) (-2)) → Ew o h h1 →
    VV MX9_putRow sz (fun h' => WAt h' o (wrow W i j W.2.1 x) (-2) ∧ Ew o h h') h1 6 [some (.ref o), some (.int (nI i)), some (.int (nI j)), some (.int (nI x)), some (.int (nI (x / W.1 ^ k))), some (.int (nI k))] [] := by
  obtain ⟨b1, b2, b3, b4, b5⟩ := hk.b
  intro n
  induction n with
  | zero =>
    intro k hn hkn h1 hW1 hf he
    have e : k = W.2.1 := by omega
    obtain ⟨f1, q0, q1, g, q2⟩ := id hW1
    have q0 : h1 o = some (ob 8 [.int (nI W.1), .int (nI W.2.1), .int (nI (W.1 ^ W.2.1)), .int f1, .ref (o + 1), .ref (o + 2)]) := q0
    refine e_iload (pc := 6) dX9_putRow_6 rfl ?_
    refine e_aload_n (pc := 8) dX9_putRow_8 rfl rfl ?_
    refine e_get (pc := 9) fl_X9_15 dX9_putRow_9 (by repeat (first | assumption | exact hset_eq _ _ _ | rw [hset_ne _ _ (by omega)])) (by rfl) ?_
    refine n_icmp_ge (pc := 12) (tgt := 45) dX9_putRow_12 (by decide) (by omega) (by omega) (fun c => ?_) (fun c => absurd c (by omega))
    refine n_vret (pc := 45) dX9_putRow_45 rfl ⟨?_, he⟩
    have := hf e
    rw [e] at this
    exact this
  | succ n ih =>
    intro k hn hkn h1 hW1 hf he
    obtain ⟨f1, hW2⟩ := hW1
    obtain ⟨q0, q1, g, q2⟩ := id hW2
    have q0 : h1 o = some (ob 8 [.int (nI W.1), .int (nI W.2.1), .int (nI (W.1 ^ W.2.1)), .int f1, .ref (o + 1), .ref (o + 2)]) := q0
    have q5 := Nat.div_le_self x (W.1 ^ k)
    have hk1 := wrow_ok hk (x := x) (m := k) hi hj k hkn
    refine e_iload (pc := 6) dX9_putRow_6 rfl ?_
    refine e_aload_n (pc := 8) dX9_putRow_8 rfl rfl ?_
    refine e_get (pc := 9) fl_X9_15 dX9_putRow_9 (by repeat (first | assumption | exact hset_eq _ _ _ | rw [hset_ne _ _ (by omega)])) (by rfl) ?_
    refine n_icmp_ge (pc := 12) (tgt := 45) dX9_putRow_12 (by decide) (by omega) (by omega) (fun c => absurd c (by omega)) (fun c => ?_)
    refine e_aload_n (pc := 15) dX9_putRow_15 rfl rfl ?_
    refine e_iload_n (pc := 16) dX9_putRow_16 rfl rfl ?_
    refine e_iload_n (pc := 17) dX9_putRow_17 rfl rfl ?_
    refine e_iload (pc := 18) dX9_putRow_18 rfl ?_
    refine e_iload (pc := 20) dX9_putRow_20 rfl ?_
    refine e_aload_n (pc := 22) dX9_putRow_22 rfl rfl ?_
    refine e_get (pc := 23) fl_X9_9 dX9_putRow_23 (by repeat (first | assumption | exact hset_eq _ _ _ | rw [hset_ne _ _ (by omega)])) (by rfl) ?_
    refine n_irem (pc := 26) dX9_putRow_26 (by omega) (by omega) (by omega) ?_
    refine n_Vv (pc := 27) (c_X9_put (W := wrow W i j k x) hW2 hk1 hi hj (show k < W.2.1 by omega)) bX9_put q_i_X9_put q_s_X9_put q_m_X9_55 dX9_putRow_27 rfl rfl (by repeat (first | assumption | exact hset_eq _ _ _ | rw [hset_ne _ _ (by omega)])) rfl rfl (by exact Nat.le_of_ble_eq_true rfl) ⟨by decide, by decide⟩ ⟨rfl, rfl, Nat.zero_le _, Nat.zero_le _⟩ (fun h2 hp => ?_)
    obtain ⟨hp1, hp2⟩ := hp
    have e3 : x / W.1 ^ k % W.1 = dg W.1 x k := rfl
    rw [e3, wrow_s] at hp1
    obtain ⟨r0, r1, g1, r2⟩ := id hp1
    have r0 : h2 o = some (ob 8 [.int (nI W.1), .int (nI W.2.1), .int (nI (W.1 ^ W.2.1)), .int (-2), .ref (o + 1), .ref (o + 2)]) := r0
    refine e_iload (pc := 30) dX9_putRow_30 rfl ?_
    refine e_aload_n (pc := 32) dX9_putRow_32 rfl rfl ?_
    refine e_get (pc := 33) fl_X9_9 dX9_putRow_33 (by repeat (first | assumption | exact hset_eq _ _ _ | rw [hset_ne _ _ (by omega)])) (by rfl) ?_
    refine n_idiv (pc := 36) dX9_putRow_36 (by omega) (by omega) (by omega) ?_
    refine e_istore (pc := 37) dX9_putRow_37 (by decide) ?_
    refine n_inc (pc := 39) dX9_putRow_39 rfl (by decide) ?_
    refine e_goto (pc := 42) (tgt := 6) dX9_putRow_42 (by decide) ?_
    have q := ih (k + 1) (by omega) (by omega) h2 ⟨_, hp1⟩ (fun _ => hp1) (he.tr hp2)
    rw [← dg_div] at q
    exact q
theorem c_X9_putRow (hW : WAt h o W f) (hk : Wok W) {i j x : Nat} (hi : i < W.2.1) (hj : j < W.2.1) (hx : x < 3125) : CV yX9_putRow MX9_putRow [.ref o, .int (nI i), .int (nI j), .int (nI x)] h (fun h' => WAt h' o (wrow W i j W.2.1 x) (-2) ∧ Ew o h h') := by
  obtain ⟨b1, b2, b3, b4, b5⟩ := hk.b
  refine CV.ofV (by decide) rfl rfl (by simp [Value.category]) (by exact Nat.le_of_ble_eq_true rfl) (fun sz => ?_)
  refine e_iload_n (pc := 0) dX9_putRow_0 rfl rfl ?_
  refine e_istore (pc := 1) dX9_putRow_1 (by decide) ?_
  refine n_iconst (pc := 3) 0 dX9_putRow_3 (by decide) ?_
  refine e_istore (pc := 4) dX9_putRow_4 (by decide) ?_
  have q := l_putRow (o := o) (h := h) (sz := sz) hk hi hj hx (W.2.1 - 0) 0 rfl (by omega) h ⟨f, by rw [wrow_0]; exact hW⟩ (fun e => by omega) (Ew.rf o h)
  rw [Nat.pow_zero, Nat.div_one] at q
  exact q
def canBe (p n : Nat) : Prop := (p = 2 ∨ p = 3 ∨ p = 5) ∧ 1 ≤ n ∧ n ≤ 5 ∧ p ^ n ≤ 243
theorem c_X9_canBe {p n : Nat} (hp : p < 2 ^ 31) (hn : n < 2 ^ 31) : CI yX9_canBe MX9_canBe [.int (nI p), .int (nI n)] h (fun x h' => isB x (canBe p n) ∧ h' = h) := by
  refine CI.ofV (by decide) rfl rfl (by simp [Value.category]) (by exact Nat.le_of_ble_eq_true rfl) (fun sz => ?_)
  refine e_iload_n (pc := 0) dX9_canBe_0 rfl rfl ?_
  refine n_SP (pc := 1) (c_X8_isPrime hp) bX8_isPrime q_st_X8_isPrime q_m_X9_31 dX9_canBe_1 rfl rfl (by exact Nat.le_of_ble_eq_true rfl) ⟨by decide, by decide⟩ ⟨rfl, rfl, Nat.zero_le _, Nat.zero_le _⟩ ?_
  by_cases hpp : p = 2 ∨ p = 3 ∨ p = 5
  · rw [if_pos hpp]
    refine n_if_eq (pc := 4) (tgt := 32) dX9_canBe_4 (by decide) (by omega) (fun c => absurd c (by omega)) (fun c => ?_)
    refine e_iload_n (pc := 7) dX9_canBe_7 rfl rfl ?_
    refine n_iconst (pc := 8) 1 dX9_canBe_8 (by decide) ?_
    refine n_icmp_lt (pc := 9) (tgt := 32) dX9_canBe_9 (by decide) (by omega) (by omega) (fun c1 => ?_) (fun c1 => ?_)
    · refine n_iconst (pc := 32) 0 dX9_canBe_32 (by decide) ?_
      exact n_zret (pc := 33) dX9_canBe_33 rfl rfl ⟨Or.inr ⟨fun q => by have := q.2.1; omega, rfl⟩, rfl⟩
    refine e_iload_n (pc := 12) dX9_canBe_12 rfl rfl ?_
    refine n_iconst (pc := 13) 5 dX9_canBe_13 (by decide) ?_
    refine n_icmp_gt (pc := 14) (tgt := 32) dX9_canBe_14 (by decide) (by omega) (by omega) (fun c2 => ?_) (fun c2 => ?_)
    · refine n_iconst (pc := 32) 0 dX9_canBe_32 (by decide) ?_
      exact n_zret (pc := 33) dX9_canBe_33 rfl rfl ⟨Or.inr ⟨fun q => by have := q.2.2.1; omega, rfl⟩, rfl⟩
    have q5 := (pp (p := p) (by omega) (by omega) n c2).2
    refine e_iload_n (pc := 17) dX9_canBe_17 rfl rfl ?_
    refine e_iload_n (pc := 18) dX9_canBe_18 rfl rfl ?_
    refine n_SP (pc := 19) (c_X8_power c2 (by omega)) bX8_power q_st_X8_power q_m_X9_37 dX9_canBe_19 rfl rfl (by exact Nat.le_of_ble_eq_true rfl) ⟨by decide, by decide⟩ ⟨rfl, rfl, Nat.zero_le _, Nat.zero_le _⟩ ?_
    refine n_sipush (pc := 22) 243 dX9_canBe_22 (by decide) ?_
    refine n_icmp_gt (pc := 25) (tgt := 32) dX9_canBe_25 (by decide) (by omega) (by omega) (fun c3 => ?_) (fun c3 => ?_)
    · refine n_iconst (pc := 32) 0 dX9_canBe_32 (by decide) ?_
      exact n_zret (pc := 33) dX9_canBe_33 rfl rfl ⟨Or.inr ⟨fun q => by have := q.2.2.2; omega, rfl⟩, rfl⟩
    refine n_iconst (pc := 28) 1 dX9_canBe_28 (by decide) ?_
    refine e_goto (pc := 29) (tgt := 33) dX9_canBe_29 (by decide) ?_
    exact n_zret (pc := 33) dX9_canBe_33 rfl rfl ⟨Or.inl ⟨⟨hpp, by omega, c2, c3⟩, rfl⟩, rfl⟩
  · rw [if_neg hpp]
    refine n_if_eq (pc := 4) (tgt := 32) dX9_canBe_4 (by decide) (by omega) (fun c => ?_) (fun c => absurd c (by omega))
    refine n_iconst (pc := 32) 0 dX9_canBe_32 (by decide) ?_
    exact n_zret (pc := 33) dX9_canBe_33 rfl rfl ⟨Or.inr ⟨fun q => hpp q.1, rfl⟩, rfl⟩
theorem l_clear {sz p n : Nat} {h : AH} (h0 : h o = some (ob 8 [.int (nI p), .int (nI n), .int (nI (p ^ n)), .int (-2), .ref (o + 1), .ref (o + 2)])) (hs : ∃ g, h (o + 2) = some (aI 5 g)) {hh : AH} (he : Ew o hh h) : ∀ (m k : Nat), m = 125 - k → k ≤ 125 → ∀ g, (∀ t, t < k → g t = nI 0) → (∀ t, 125 ≤ t → g t = nI 0) →
    VV MX9_clear sz (fun h' => WAt h' o (p, n, fun _ => 0) (-2) ∧ Ew o hh h') (hset h (o + 1) (aI 125 g)) 36 [some (.ref o), some (.int (nI p)), some (.int (nI n)), some (.int (nI k))] [] := by
  intro m
  induction m with
  | zero =>
    intro k hn hk g hg hg2
    have e : k = 125 := by omega
    subst e
    refine e_iload_n (pc := 36) dX9_clear_36 rfl rfl ?_
    refine n_bipush (pc := 37) 125 dX9_clear_37 (by decide) ?_
    refine n_icmp_ge (pc := 39) (tgt := 55) dX9_clear_39 (by decide) (by omega) (by omega) (fun c => ?_) (fun c => absurd c (by omega))
    obtain ⟨g2, hs⟩ := hs
    refine n_vret (pc := 55) dX9_clear_55 rfl ⟨⟨?_, ?_, g2, ?_⟩, he.set (by omega)⟩
    · rw [hset_ne _ _ (by omega)]; exact h0
    · rw [hset_eq]
      refine congrArg some (congrArg (fun z => aI 125 z) (funext fun t => ?_))
      by_cases e : t < 125
      · exact hg t e
      · exact hg2 t (by omega)
    · rw [hset_ne _ _ (by omega)]; exact hs
  | succ m ih =>
    intro k hn hk g hg hg2
    refine e_iload_n (pc := 36) dX9_clear_36 rfl rfl ?_
    refine n_bipush (pc := 37) 125 dX9_clear_37 (by decide) ?_
    refine n_icmp_ge (pc := 39) (tgt := 55) dX9_clear_39 (by decide) (by omega) (by omega) (fun c => absurd c (by omega)) (fun c => ?_)
    refine e_aload_n (pc := 42) dX9_clear_42 rfl rfl ?_
    refine e_get (pc := 43) fl_X9_24 dX9_clear_43 (by repeat (first | assumption | exact hset_eq _ _ _ | rw [hset_ne _ _ (by omega)])) (by rfl) ?_
    refine e_iload_n (pc := 46) dX9_clear_46 rfl rfl ?_
    refine n_iconst (pc := 47) 0 dX9_clear_47 (by decide) ?_
    refine e_iastN (pc := 48) _ dX9_clear_48 (by repeat (first | assumption | exact hset_eq _ _ _ | rw [hset_ne _ _ (by omega)])) (by rfl) (by omega) (by first | decide | omega) ?_
    refine n_inc (pc := 49) dX9_clear_49 rfl (by decide) ?_
    refine e_goto (pc := 52) (tgt := 36) dX9_clear_52 (by decide) ?_
    rw [hset_hset]
    refine ih (k + 1) (by omega) (by omega) _ (fun t ht => ?_) (fun t ht => ?_)
    · by_cases e : t = k
      · subst e; exact pk_us
      · rw [pk_un e]; exact hg t (by omega)
    · rw [pk_un (by omega)]; exact hg2 t ht
theorem c_X9_clear (hW : WAt h o W f) (hk : Wok W) {p n : Nat} (hc : canBe p n) : CV yX9_clear MX9_clear [.ref o, .int (nI p), .int (nI n)] h (fun h' => WAt h' o (p, n, fun _ => 0) (-2) ∧ Ew o h h') := by
  obtain ⟨h0, h1, g, hs⟩ := id hW
  obtain ⟨e1, e2, e3, e4⟩ := id hc
  refine CV.ofV (by decide) rfl rfl (by simp [Value.category]) (by exact Nat.le_of_ble_eq_true rfl) (fun sz => ?_)
  refine e_iload_n (pc := 0) dX9_clear_0 rfl rfl ?_
  refine e_iload_n (pc := 1) dX9_clear_1 rfl rfl ?_
  refine n_S (pc := 2) (c_X9_canBe (by omega) (by omega)) bX9_canBe q_st_X9_canBe q_m_X9_41 dX9_clear_2 rfl rfl (by exact Nat.le_of_ble_eq_true rfl) ⟨by decide, by decide⟩ ⟨rfl, rfl, Nat.zero_le _, Nat.zero_le _⟩ (fun x h2 hp => ?_)
  obtain ⟨hp, e0⟩ := hp
  subst e0
  rcases hp with ⟨-, rfl⟩ | ⟨q, -⟩
  · refine e_if_ne (pc := 5) (tgt := 9) dX9_clear_5 (by decide) (fun c => ?_) (fun c => absurd c (by decide))
    refine e_aload_n (pc := 9) dX9_clear_9 rfl rfl ?_
    refine e_iload_n (pc := 10) dX9_clear_10 rfl rfl ?_
    refine e_put (pc := 11) pl_X9_9 dX9_clear_11 (by repeat (first | assumption | exact hset_eq _ _ _ | rw [hset_ne _ _ (by omega)])) (by rfl) (by rfl) (by exact Nat.le_of_ble_eq_true rfl) ?_
    refine e_aload_n (pc := 14) dX9_clear_14 rfl rfl ?_
    refine e_iload_n (pc := 15) dX9_clear_15 rfl rfl ?_
    refine e_put (pc := 16) pl_X9_15 dX9_clear_16 (by repeat (first | assumption | exact hset_eq _ _ _ | rw [hset_ne _ _ (by omega)])) (by rfl) (by rfl) (by exact Nat.le_of_ble_eq_true rfl) ?_
    refine e_aload_n (pc := 19) dX9_clear_19 rfl rfl ?_
    refine e_iload_n (pc := 20) dX9_clear_20 rfl rfl ?_
    refine e_iload_n (pc := 21) dX9_clear_21 rfl rfl ?_
    refine n_SP (pc := 22) (c_X8_power e3 (by omega)) bX8_power q_st_X8_power q_m_X9_37 dX9_clear_22 rfl rfl (by exact Nat.le_of_ble_eq_true rfl) ⟨by decide, by decide⟩ ⟨rfl, rfl, Nat.zero_le _, Nat.zero_le _⟩ ?_
    refine e_put (pc := 25) pl_X9_18 dX9_clear_25 (by repeat (first | assumption | exact hset_eq _ _ _ | rw [hset_ne _ _ (by omega)])) (by rfl) (by rfl) (by exact Nat.le_of_ble_eq_true rfl) ?_
    refine e_aload_n (pc := 28) dX9_clear_28 rfl rfl ?_
    refine e_bipush (pc := 29) (v := -2) dX9_clear_29 (by decide) ?_
    refine e_put (pc := 31) pl_X9_21 dX9_clear_31 (by repeat (first | assumption | exact hset_eq _ _ _ | rw [hset_ne _ _ (by omega)])) (by rfl) (by rfl) (by exact Nat.le_of_ble_eq_true rfl) ?_
    refine n_iconst (pc := 34) 0 dX9_clear_34 (by decide) ?_
    refine e_istore_n (pc := 35) dX9_clear_35 rfl (by decide) ?_
    simp only [hset_hset]
    have h1' : ∀ x, hset h2 o x (o + 1) = some (aI 125 (fun k => nI (W.2.2 k))) := fun x => by rw [hset_ne _ _ (by omega)]; exact h1
    refine e_heap (hset_self (h1' _)).symm ?_
    refine l_clear (hset_eq _ _ _) ⟨g, by rw [hset_ne _ _ (by omega)]; exact hs⟩ ((Ew.rf o _).set (by omega)) 125 0 rfl (by omega) _ (fun t ht => absurd ht (Nat.not_lt_zero _)) (fun t ht => ?_)
    have : W.2.2 t = 0 := (hk.2.2.2.2 t).2 (fun z => by have := z.1; omega)
    show nI (W.2.2 t) = nI 0
    rw [this]
  · exact absurd hc q
end WP
