/-! ===== the reference: its object, worlds laid out, products ===== -/
/-- the numbers beside p, n, q: image, tape's length, at, token, its place, value, wrong, its place, fault, its place, field, spanned, wanted -/
abbrev Ms : Type := Int32 × Nat × Nat × Nat × Nat × Nat × Nat × Nat × Int32 × Int32 × Int32 × Nat × Int32
def mfs (m p n q : Nat) (s : Ms) : List Value := [.ref (m + 1), .ref (m + 2), .int s.1, .int (nI p), .int (nI n), .int (nI q), .ref (m + 3), .ref (m + 4), .ref (m + 5), .ref (m + 6), .ref (m + 7), .ref (m + 8), .ref (m + 9), .int (nI s.2.1), .int (nI s.2.2.1), .int (nI s.2.2.2.1), .int (nI s.2.2.2.2.1), .int (nI s.2.2.2.2.2.1), .int (nI s.2.2.2.2.2.2.1), .int (nI s.2.2.2.2.2.2.2.1), .int s.2.2.2.2.2.2.2.2.1, .int s.2.2.2.2.2.2.2.2.2.1, .int s.2.2.2.2.2.2.2.2.2.2.1, .ref (m + 10), .ref (m + 11), .ref (m + 17), .ref (m + 93), .ref (m + 94), .ref (m + 95), .ref (m + 96), .int (nI s.2.2.2.2.2.2.2.2.2.2.2.1), .ref (m + 97), .ref (m + 98), .ref (m + 99), .ref (m + 100), .ref (m + 101), .ref (m + 102), .ref (m + 103), .ref (m + 104), .int s.2.2.2.2.2.2.2.2.2.2.2.2, .ref (m + 105), .ref (m + 106)]
abbrev MH (h : AH) (m p n q : Nat) (s : Ms) : Prop := h m = some (ob 10 (mfs m p n q s))
/-- sizes of its rows of ints -/
def szM (k : Nat) : Nat := if k = 1 ∨ k = 2 then 6070 else if k = 3 ∨ k = 7 ∨ k = 8 ∨ k = 97 ∨ k = 103 ∨ k = 105 then 125 else if k = 9 then 600 else if k = 10 then 7 else if 18 ≤ k ∧ k ≤ 93 then 75 else if k = 106 then 18 else 5
def isR (k : Nat) : Prop := 1 ≤ k ∧ k ≤ 106 ∧ k ≠ 11 ∧ k ≠ 17 ∧ k ≠ 94 ∧ k ≠ 95
/-- all its rows, whatever they hold -/
def MRo (h : AH) (m : Nat) : Prop := (∀ k, isR k → ∃ g, h (m + k) = some (aI (szM k) g)) ∧ (∃ g, h (m + 94) = some (aZ 75 g)) ∧ (∃ g, h (m + 95) = some (aZ 243 g)) ∧ h (m + 17) = some (aG 75 (fun i => if i < 75 then some (m + 18 + i) else none)) ∧ ∃ π : Nat → Nat, (∀ i, i < 5 → π i < 5) ∧ (∀ i j, i < 5 → j < 5 → π i = π j → i = j) ∧ ∃ f, h (m + 11) = some (aG 5 f) ∧ ∀ i, i < 5 → f i = some (m + 12 + π i)
theorem MRo.row {h : AH} {m : Nat} (q : MRo h m) {k : Nat} (hk : isR k) : ∃ g, h (m + k) = some (aI (szM k) g) := q.1 k hk
theorem MRo.keep {h h2 : AH} {m : Nat} (q : MRo h m) (e : ∀ k, isR k → h2 (m + k) = h (m + k) ∨ ∃ g, h2 (m + k) = some (aI (szM k) g)) (e2 : ∀ a, a = m + 94 ∨ a = m + 95 ∨ a = m + 17 ∨ a = m + 11 → h2 a = h a) : MRo h2 m := by
  obtain ⟨q1, ⟨g2, q2⟩, ⟨g3, q3⟩, q4, π, p1, p2, f5, q5, q6⟩ := q
  refine ⟨fun k hk => ?_, ⟨g2, (e2 _ (Or.inl rfl)).trans q2⟩, ⟨g3, (e2 _ (Or.inr (Or.inl rfl))).trans q3⟩, (e2 _ (Or.inr (Or.inr (Or.inl rfl)))).trans q4, π, p1, p2, f5, (e2 _ (Or.inr (Or.inr (Or.inr rfl)))).trans q5, q6⟩
  rcases e k hk with z | z
  · obtain ⟨g, hg⟩ := q1 k hk
    exact ⟨g, z.trans hg⟩
  · exact z
theorem MRo.set {h : AH} {m k n : Nat} {g : Nat → Int32} (q : MRo h m) (hk : isR k) (hn : n = szM k) : MRo (hset h (m + k) (aI n g)) m := by
  obtain ⟨k1, k2, k3, k4, k5, k6⟩ := hk
  refine q.keep (fun j hj => ?_) (fun a ha => hset_ne _ _ (by omega))
  by_cases e : j = k
  · subst e; subst hn; exact Or.inr ⟨g, hset_eq _ _ _⟩
  · exact Or.inl (hset_ne _ _ (by omega))
theorem MRo.hd {h : AH} {m : Nat} {x : AE} (q : MRo h m) : MRo (hset h m x) m := q.keep (fun j hj => Or.inl (hset_ne _ _ (by have := hj.1; omega))) (fun a ha => hset_ne _ _ (by omega))
theorem isR_d (k : Nat) (h : k ∈ [1, 2, 3, 4, 5, 6, 7, 8, 9, 10, 12, 13, 14, 15, 16, 93, 96, 97, 98, 99, 100, 101, 102, 103, 104, 105, 106]) : isR k := by
  unfold isR
  simp only [List.mem_cons, List.mem_nil_iff, or_false] at h
  omega
section ME
variable {h : AH} {m p n q : Nat} {s : Ms}
def inB (v a b : Int32) : Bool := !decide (v < a) && !decide (b < v)
theorem c_X11_isIn (v a b : Int32) : CP yX11_isIn MX11_isIn [.int v, .int a, .int b] h (bI (inB v a b)) := by
  refine CI.ofV (by decide) rfl rfl (by simp [Value.category]) (by exact Nat.le_of_ble_eq_true rfl) (fun sz => ?_)
  refine e_iload_n (pc := 0) dX11_isIn_0 rfl rfl ?_
  refine e_iload_n (pc := 1) dX11_isIn_1 rfl rfl ?_
  refine e_icmp_lt (pc := 2) (tgt := 14) dX11_isIn_2 (by decide) (fun c => ?_) (fun c => ?_)
  · refine n_iconst (pc := 14) 0 dX11_isIn_14 (by decide) ?_
    refine n_zret (pc := 15) dX11_isIn_15 rfl rfl ⟨?_, rfl⟩
    unfold inB
    rw [decide_eq_true c]; rfl
  · refine e_iload_n (pc := 5) dX11_isIn_5 rfl rfl ?_
    refine e_iload_n (pc := 6) dX11_isIn_6 rfl rfl ?_
    refine e_icmp_gt (pc := 7) (tgt := 14) dX11_isIn_7 (by decide) (fun c2 => ?_) (fun c2 => ?_)
    · refine n_iconst (pc := 14) 0 dX11_isIn_14 (by decide) ?_
      refine n_zret (pc := 15) dX11_isIn_15 rfl rfl ⟨?_, rfl⟩
      unfold inB
      rw [decide_eq_true c2, Bool.not_true, Bool.and_false]; rfl
    · refine n_iconst (pc := 10) 1 dX11_isIn_10 (by decide) ?_
      refine e_goto (pc := 11) (tgt := 15) dX11_isIn_11 (by decide) ?_
      refine n_zret (pc := 15) dX11_isIn_15 rfl rfl ⟨?_, rfl⟩
      unfold inB
      rw [decide_eq_false c, decide_eq_false c2]; rfl
theorem inB_ok {v : Int32} {k : Nat} (hk : k < 2 ^ 30) : inB v (nI 0) (nI k) = okI v (k + 1) := by
  unfold inB
  rw [nI_0]
  by_cases c : v < 0
  · rw [okI_lt c, decide_eq_true c]; rfl
  · by_cases d : nI k < v
    · rw [okI_gt hk d, decide_eq_true d, Bool.not_true, Bool.and_false]
    · rw [okI_le hk c (Int32.not_lt.mp d), decide_eq_false c, decide_eq_false d]; rfl
theorem c_X11_isWorld (v : Int32) : CP yX11_isWorld MX11_isWorld [.int v] h (bI (okI v 6)) := by
  refine CI.ofV (by decide) rfl rfl (by simp [Value.category]) (by exact Nat.le_of_ble_eq_true rfl) (fun sz => ?_)
  refine e_iload_n (pc := 0) dX11_isWorld_0 rfl rfl ?_
  refine n_iconst (pc := 1) 0 dX11_isWorld_1 (by decide) ?_
  refine n_iconst (pc := 2) 5 dX11_isWorld_2 (by decide) ?_
  refine n_SP (pc := 3) (c_X11_isIn v (nI 0) (nI 5)) bX11_isIn q_st_X11_isIn q_m_X11_98 dX11_isWorld_3 rfl rfl (by exact Nat.le_of_ble_eq_true rfl) ⟨by decide, by decide⟩ ⟨rfl, rfl, Nat.zero_le _, Nat.zero_le _⟩ ?_
  rw [inB_ok (by decide)]
  cases okI v (5 + 1) with
  | true => exact n_zret (pc := 6) dX11_isWorld_6 rfl rfl ⟨rfl, rfl⟩
  | false => exact n_zret (pc := 6) dX11_isWorld_6 rfl rfl ⟨rfl, rfl⟩
theorem l_mpow {sz : Nat} {k : Nat} (hm : k < 2 ^ 31) : ∀ (t i : Nat), t = k - i → i ≤ k → VI MX11_power sz (fun z h' => z = nI (p ^ k) ∧ h' = h) h 4 [some (.int (nI p)), some (.int (nI k)), some (.int (nI (p ^ i))), some (.int (nI i))] [] := by
  intro t
  induction t with
  | zero =>
    intro i e1 e2
    have e' : i = k := by omega
    subst e'
    refine e_iload_n (pc := 4) dX11_power_4 rfl rfl ?_
    refine e_iload_n (pc := 5) dX11_power_5 rfl rfl ?_
    refine n_icmp_ge (pc := 6) (tgt := 19) dX11_power_6 (by decide) (by omega) (by omega) (fun hb_ => ?_) (fun c => absurd c (by omega))
    refine e_iload_n (pc := 19) dX11_power_19 rfl rfl ?_
    exact n_iret (pc := 20) dX11_power_20 rfl ⟨rfl, rfl⟩
  | succ t ih =>
    intro i e1 e2
    refine e_iload_n (pc := 4) dX11_power_4 rfl rfl ?_
    refine e_iload_n (pc := 5) dX11_power_5 rfl rfl ?_
    refine n_icmp_ge (pc := 6) (tgt := 19) dX11_power_6 (by decide) (by omega) (by omega) (fun c => absurd c (by omega)) (fun hb_ => ?_)
    refine e_iload_n (pc := 9) dX11_power_9 rfl rfl ?_
    refine e_iload_n (pc := 10) dX11_power_10 rfl rfl ?_
    refine n_imul (pc := 11) dX11_power_11 ?_
    refine e_istore_n (pc := 12) dX11_power_12 rfl (by decide) ?_
    refine n_inc (pc := 13) dX11_power_13 rfl (by decide) ?_
    refine e_goto (pc := 16) (tgt := 4) dX11_power_16 (by decide) ?_
    have q := ih (i + 1) (by omega) (by omega)
    rw [Nat.pow_succ] at q
    exact q
theorem c_X11_power {k : Nat} (hm : k < 2 ^ 31) : CP yX11_power MX11_power [.int (nI p), .int (nI k)] h (nI (p ^ k)) := by
  refine CI.ofV (by decide) rfl rfl (by simp [Value.category]) (by exact Nat.le_of_ble_eq_true rfl) (fun sz => ?_)
  refine n_iconst (pc := 0) 1 dX11_power_0 (by decide) ?_
  refine e_istore_n (pc := 1) dX11_power_1 rfl (by decide) ?_
  refine n_iconst (pc := 2) 0 dX11_power_2 (by decide) ?_
  refine e_istore_n (pc := 3) dX11_power_3 rfl (by decide) ?_
  have q := l_mpow (p := p) (h := h) (sz := sz) hm k 0 rfl (Nat.zero_le _)
  rw [Nat.pow_zero] at q
  exact q
theorem c_X11_base {i : Nat} (hM : MH h m p n q s) (hi : i < 2 ^ 31) : CP yX11_base MX11_base [.ref m, .int (nI i)] h (nI (p ^ i)) := by
  refine CI.ofV (by decide) rfl rfl (by simp [Value.category]) (by exact Nat.le_of_ble_eq_true rfl) (fun sz => ?_)
  refine e_aload_n (pc := 0) dX11_base_0 rfl rfl ?_
  refine e_get (pc := 1) fl_X11_106 dX11_base_1 (by repeat (first | assumption | exact hset_eq _ _ _ | (apply WAt.hd; assumption) | rw [hset_ne _ _ (by omega)])) (by rfl) ?_
  refine e_iload_n (pc := 4) dX11_base_4 rfl rfl ?_
  refine n_SP (pc := 5) (c_X11_power hi) bX11_power q_st_X11_power q_m_X11_102 dX11_base_5 rfl rfl (by exact Nat.le_of_ble_eq_true rfl) ⟨by decide, by decide⟩ ⟨rfl, rfl, Nat.zero_le _, Nat.zero_le _⟩ ?_
  exact n_iret (pc := 8) dX11_base_8 rfl ⟨rfl, rfl⟩
/-- an element's digits, noughts behind them -/
def dgn (p n x t : Nat) : Nat := if t < n then dg p x t else 0
theorem l_mdig {sz x d : Nat} {hh : AH} (hM : MH hh m p n q s) (hp : 2 ≤ p ∧ p ≤ 5) (hn : n ≤ 5) (hx : x < 2 ^ 31) (hd : d ≠ m) :
    ∀ (t i : Nat), t = 5 - i → i ≤ 5 → ∀ g, (∀ j, j < i → g j = nI (dgn p n x j)) → VV MX11_digits sz (fun h' => ∃ g, h' = hset hh d (aI 5 g) ∧ ∀ j, j < 5 → g j = nI (dgn p n x j)) (hset hh d (aI 5 g)) 5 [some (.ref m), some (.int (nI x)), some (.ref d), some (.int (nI (x / p ^ (min i n)))), some (.int (nI i))] [] := by
  intro t
  induction t with
  | zero =>
    intro i e1 e2 g hg
    have e' : i = 5 := by omega
    subst e'
    refine e_iload (pc := 5) dX11_digits_5 rfl ?_
    refine n_iconst (pc := 7) 5 dX11_digits_7 (by decide) ?_
    refine n_icmp_ge (pc := 8) (tgt := 60) dX11_digits_8 (by decide) (by omega) (by omega) (fun hb_ => ?_) (fun c => absurd c (by omega))
    exact n_vret (pc := 60) dX11_digits_60 rfl ⟨g, rfl, hg⟩
  | succ t ih =>
    intro i e1 e2 g hg
    have hM1 : MH (hset hh d (aI 5 g)) m p n q s := (hset_ne _ _ (by omega)).trans hM
    have q5 := Nat.div_le_self x (p ^ (min i n))
    have fin : ∀ v : Nat, v = dgn p n x i → VV MX11_digits sz (fun h' => ∃ g, h' = hset hh d (aI 5 g) ∧ ∀ j, j < 5 → g j = nI (dgn p n x j)) (hset hh d (aI 5 g)) 33 [some (.ref m), some (.int (nI x)), some (.ref d), some (.int (nI (x / p ^ (min i n)))), some (.int (nI i))] [.int (nI v), .int (nI i), .ref d] := fun v hv => by
      refine e_iastN (pc := 33) i dX11_digits_33 (by repeat (first | assumption | exact hset_eq _ _ _ | (apply WAt.hd; assumption) | rw [hset_ne _ _ (by omega)])) (by rfl) (by omega) (by first | decide | omega) ?_
      have hM2 : MH (hset (hset hh d (aI 5 g)) d (aI 5 (upd g i (nI v)))) m p n q s := (hset_ne _ _ (by omega)).trans hM1
      have nxt := ih (i + 1) (by omega) (by omega) (upd g i (nI v)) (fun j hj => by
        by_cases e : j = i
        · subst e; rw [pk_us, hv]
        · rw [pk_un e]; exact hg j (by omega))
      refine e_heap (hset_hset hh d _ _) ?_
      have hM3 : MH (hset hh d (aI 5 (upd g i (nI v)))) m p n q s := (hset_ne _ _ (by omega)).trans hM
      refine e_iload (pc := 34) dX11_digits_34 rfl ?_
      refine e_aload_n (pc := 36) dX11_digits_36 rfl rfl ?_
      refine e_get (pc := 37) fl_X11_109 dX11_digits_37 (by repeat (first | assumption | exact hset_eq _ _ _ | (apply WAt.hd; assumption) | rw [hset_ne _ _ (by omega)])) (by rfl) ?_
      refine n_icmp_ge (pc := 40) (tgt := 52) dX11_digits_40 (by decide) (by omega) (by omega) (fun c => ?_) (fun c => ?_)
      · refine e_iload_n (pc := 52) dX11_digits_52 rfl rfl ?_
        refine e_istore_n (pc := 53) dX11_digits_53 rfl (by decide) ?_
        refine n_inc (pc := 54) dX11_digits_54 rfl (by decide) ?_
        refine e_goto (pc := 57) (tgt := 5) dX11_digits_57 (by decide) ?_
        have e : x / p ^ (min i n) = x / p ^ (min (i + 1) n) := by rw [show min i n = min (i + 1) n by omega]
        rw [e]
        exact nxt
      · refine e_iload_n (pc := 43) dX11_digits_43 rfl rfl ?_
        refine e_aload_n (pc := 44) dX11_digits_44 rfl rfl ?_
        refine e_get (pc := 45) fl_X11_106 dX11_digits_45 (by repeat (first | assumption | exact hset_eq _ _ _ | (apply WAt.hd; assumption) | rw [hset_ne _ _ (by omega)])) (by rfl) ?_
        refine n_idiv (pc := 48) dX11_digits_48 (by omega) (by omega) (by omega) ?_
        refine e_goto (pc := 49) (tgt := 53) dX11_digits_49 (by decide) ?_
        refine e_istore_n (pc := 53) dX11_digits_53 rfl (by decide) ?_
        refine n_inc (pc := 54) dX11_digits_54 rfl (by decide) ?_
        refine e_goto (pc := 57) (tgt := 5) dX11_digits_57 (by decide) ?_
        have e : x / p ^ (min i n) / p = x / p ^ (min (i + 1) n) := by rw [show min i n = i by omega, show min (i + 1) n = i + 1 by omega, dg_div]
        rw [e]
        exact nxt
    refine e_iload (pc := 5) dX11_digits_5 rfl ?_
    refine n_iconst (pc := 7) 5 dX11_digits_7 (by decide) ?_
    refine n_icmp_ge (pc := 8) (tgt := 60) dX11_digits_8 (by decide) (by omega) (by omega) (fun c => absurd c (by omega)) (fun hb_ => ?_)
    refine e_aload_n (pc := 11) dX11_digits_11 rfl rfl ?_
    refine e_iload (pc := 12) dX11_digits_12 rfl ?_
    refine e_iload (pc := 14) dX11_digits_14 rfl ?_
    refine e_aload_n (pc := 16) dX11_digits_16 rfl rfl ?_
    refine e_get (pc := 17) fl_X11_109 dX11_digits_17 (by repeat (first | assumption | exact hset_eq _ _ _ | (apply WAt.hd; assumption) | rw [hset_ne _ _ (by omega)])) (by rfl) ?_
    refine n_icmp_ge (pc := 20) (tgt := 32) dX11_digits_20 (by decide) (by omega) (by omega) (fun c => ?_) (fun c => ?_)
    · refine n_iconst (pc := 32) 0 dX11_digits_32 (by decide) ?_
      exact fin 0 (by unfold dgn; rw [if_neg (by omega)])
    · refine e_iload_n (pc := 23) dX11_digits_23 rfl rfl ?_
      refine e_aload_n (pc := 24) dX11_digits_24 rfl rfl ?_
      refine e_get (pc := 25) fl_X11_106 dX11_digits_25 (by repeat (first | assumption | exact hset_eq _ _ _ | (apply WAt.hd; assumption) | rw [hset_ne _ _ (by omega)])) (by rfl) ?_
      refine n_irem (pc := 28) dX11_digits_28 (by omega) (by omega) (by omega) ?_
      refine e_goto (pc := 29) (tgt := 33) dX11_digits_29 (by decide) ?_
      exact fin _ (by unfold dgn; rw [if_pos c, show min i n = i by omega]; rfl)
theorem c_X11_digits {x d : Nat} {g0 : Nat → Int32} (hM : MH h m p n q s) (hp : 2 ≤ p ∧ p ≤ 5) (hn : n ≤ 5) (hx : x < 2 ^ 31) (hd : d ≠ m) (h0 : h d = some (aI 5 g0)) : CV yX11_digits MX11_digits [.ref m, .int (nI x), .ref d] h (fun h' => ∃ g, h' = hset h d (aI 5 g) ∧ ∀ j, j < 5 → g j = nI (dgn p n x j)) := by
  refine CV.ofV (by decide) rfl rfl (by simp [Value.category]) (by exact Nat.le_of_ble_eq_true rfl) (fun sz => ?_)
  refine e_iload_n (pc := 0) dX11_digits_0 rfl rfl ?_
  refine e_istore_n (pc := 1) dX11_digits_1 rfl (by decide) ?_
  refine n_iconst (pc := 2) 0 dX11_digits_2 (by decide) ?_
  refine e_istore (pc := 3) dX11_digits_3 (by decide) ?_
  refine e_heap (hset_self h0).symm ?_
  have q := l_mdig (sz := sz) hM hp hn hx hd 5 0 rfl (Nat.zero_le _) g0 (fun j hj => absurd hj (Nat.not_lt_zero j))
  rw [show min 0 n = 0 by omega, Nat.pow_zero, Nat.div_one] at q
  exact q
theorem num_high {f : Nat → Nat} : ∀ (k i : Nat), num p (i + k) f = num p i f + p ^ i * num p k (fun t => f (i + t))
  | 0, i => by show num p i f = num p i f + p ^ i * 0; rw [Nat.mul_zero, Nat.add_zero]
  | k + 1, i => by
    show num p (i + k) f + f (i + k) * p ^ (i + k) = num p i f + p ^ i * (num p k (fun t => f (i + t)) + f (i + k) * p ^ k)
    rw [num_high k i, Nat.mul_add, Nat.pow_add, Nat.add_assoc]
    congr 2
    rw [Nat.mul_left_comm]
theorem l_mel {sz d : Nat} {g : Nat → Int32} {f : Nat → Nat} (hM : MH h m p n q s) (hn : n ≤ 5) (h0 : h d = some (aI 5 g)) (hg : ∀ j, j < n → g j = nI (f j)) :
    ∀ (i : Nat), i < n → VI MX11_element sz (fun z h' => z = nI (num p n f) ∧ h' = h) h 9 [some (.ref m), some (.ref d), some (.int (nI (num p (n - 1 - i) (fun t => f (i + 1 + t))))), some (.int (nI i))] [] := by
  intro i
  induction i with
  | zero =>
    intro hi
    have g0 := hg 0 hi
    refine e_iload_n (pc := 9) dX11_element_9 rfl rfl ?_
    refine n_if_lt (pc := 10) (tgt := 30) dX11_element_10 (by omega) ?_ (by decide)
    refine e_aload_n (pc := 13) dX11_element_13 rfl rfl ?_
    refine e_get (pc := 14) fl_X11_106 dX11_element_14 (by repeat (first | assumption | exact hset_eq _ _ _ | (apply WAt.hd; assumption) | rw [hset_ne _ _ (by omega)])) (by rfl) ?_
    refine e_iload_n (pc := 17) dX11_element_17 rfl rfl ?_
    refine n_imul (pc := 18) dX11_element_18 ?_
    refine e_aload_n (pc := 19) dX11_element_19 rfl rfl ?_
    refine e_iload_n (pc := 20) dX11_element_20 rfl rfl ?_
    refine e_ialdN (pc := 21) 0 dX11_element_21 (by repeat (first | assumption | exact hset_eq _ _ _ | (apply WAt.hd; assumption) | rw [hset_ne _ _ (by omega)])) (by rfl) (by omega) (by first | decide | omega) ?_
    rw [g0]
    refine n_iadd (pc := 22) dX11_element_22 ?_
    refine e_istore_n (pc := 23) dX11_element_23 rfl (by decide) ?_
    refine n_dec0 (pc := 24) dX11_element_24 rfl (by decide) ?_
    refine e_goto (pc := 27) (tgt := 9) dX11_element_27 (by decide) ?_
    refine e_iload_n (pc := 9) dX11_element_9 rfl rfl ?_
    refine e_if_lt (pc := 10) (tgt := 30) dX11_element_10 (by decide) (fun _ => ?_) (fun q => absurd (by decide) q)
    refine e_iload_n (pc := 30) dX11_element_30 rfl rfl ?_
    refine n_iret (pc := 31) dX11_element_31 rfl ⟨?_, rfl⟩
    refine congrArg nI ?_
    have e := num_shift (p := p) (f := f) (n - 1)
    rw [show n - 1 + 1 = n by omega] at e
    show p * num p (n - 1 - 0) (fun t => f (0 + 1 + t)) + f 0 = _
    rw [e, Nat.sub_zero, Nat.add_comm (f 0)]
    congr 2
    exact num_congr (fun t _ => by rw [show 0 + 1 + t = t + 1 by omega])
  | succ i ih =>
    intro hi
    have g1 := hg (i + 1) hi
    refine e_iload_n (pc := 9) dX11_element_9 rfl rfl ?_
    refine n_if_lt (pc := 10) (tgt := 30) dX11_element_10 (by omega) ?_ (by decide)
    refine e_aload_n (pc := 13) dX11_element_13 rfl rfl ?_
    refine e_get (pc := 14) fl_X11_106 dX11_element_14 (by repeat (first | assumption | exact hset_eq _ _ _ | (apply WAt.hd; assumption) | rw [hset_ne _ _ (by omega)])) (by rfl) ?_
    refine e_iload_n (pc := 17) dX11_element_17 rfl rfl ?_
    refine n_imul (pc := 18) dX11_element_18 ?_
    refine e_aload_n (pc := 19) dX11_element_19 rfl rfl ?_
    refine e_iload_n (pc := 20) dX11_element_20 rfl rfl ?_
    refine e_ialdN (pc := 21) (i + 1) dX11_element_21 (by repeat (first | assumption | exact hset_eq _ _ _ | (apply WAt.hd; assumption) | rw [hset_ne _ _ (by omega)])) (by rfl) (by omega) (by first | decide | omega) ?_
    rw [g1]
    refine n_iadd (pc := 22) dX11_element_22 ?_
    refine e_istore_n (pc := 23) dX11_element_23 rfl (by decide) ?_
    refine n_dec (pc := 24) dX11_element_24 rfl (by decide) ?_
    refine e_goto (pc := 27) (tgt := 9) dX11_element_27 (by decide) ?_
    have e : p * num p (n - 1 - (i + 1)) (fun t => f (i + 1 + 1 + t)) + f (i + 1) = num p (n - 1 - i) (fun t => f (i + 1 + t)) := by
      rw [show n - 1 - i = n - 1 - (i + 1) + 1 by omega, num_shift, Nat.add_comm, Nat.add_zero]
      congr 2
      exact num_congr (fun t _ => by rw [show i + 1 + 1 + t = i + 1 + (t + 1) by omega])
    rw [e]
    exact ih (by omega)
theorem c_X11_element {d : Nat} {g : Nat → Int32} {f : Nat → Nat} (hM : MH h m p n q s) (hn : 1 ≤ n ∧ n ≤ 5) (h0 : h d = some (aI 5 g)) (hg : ∀ j, j < n → g j = nI (f j)) : CP yX11_element MX11_element [.ref m, .ref d] h (nI (num p n f)) := by
  refine CI.ofV (by decide) rfl rfl (by simp [Value.category]) (by exact Nat.le_of_ble_eq_true rfl) (fun sz => ?_)
  refine n_iconst (pc := 0) 0 dX11_element_0 (by decide) ?_
  refine e_istore_n (pc := 1) dX11_element_1 rfl (by decide) ?_
  refine e_aload_n (pc := 2) dX11_element_2 rfl rfl ?_
  refine e_get (pc := 3) fl_X11_109 dX11_element_3 (by repeat (first | assumption | exact hset_eq _ _ _ | (apply WAt.hd; assumption) | rw [hset_ne _ _ (by omega)])) (by rfl) ?_
  refine n_iconst (pc := 6) 1 dX11_element_6 (by decide) ?_
  refine n_isub (pc := 7) dX11_element_7 (by omega) ?_
  refine e_istore_n (pc := 8) dX11_element_8 rfl (by decide) ?_
  have q := l_mel (sz := sz) hM hn.2 h0 hg (n - 1) (by omega)
  rw [show n - 1 - (n - 1) = 0 by omega] at q
  exact q
end ME
