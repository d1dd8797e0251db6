/-! ===== Reader: twists ===== -/
section R5
variable {h : AH} {R len : Nat} {f : Nat → Nat} {ft fp sm hf : Int32} {W F : Wd} {p n : Nat} {cs : Nat → Nat} {ff : Int32} {lenI pl kd st0 v0 : Int32}
theorem l_ra_f {sz x a i : Nat} {hh : AH} {Pr : Int32 → AH → Prop} (hc : canBe p n) (hx : x < p ^ n) (hH : RdH hh R lenI pl kd st0 v0 ft fp sm hf)
    (kk : ∀ h1, WAt h1 (R + 5) (polyW p n cs) ff → Es (R + 5) hh h1 → VI MX4_raise sz Pr h1 52 [some (.ref R), some (.int (nI x)), some (.int (nI a)), some (.int (nI (rse (polyW p n cs) x (i + 1)))), some (.int (nI i)), none, none] []) :
    ∀ (m k : Nat), m = p - k → 1 ≤ k → k ≤ p → ∀ h1, WAt h1 (R + 5) (polyW p n cs) ff → Es (R + 5) hh h1 → VI MX4_raise sz Pr h1 23 [some (.ref R), some (.int (nI x)), some (.int (nI a)), some (.int (nI (lpw (polyW p n cs) (rse (polyW p n cs) x i) (k - 1)))), some (.int (nI i)), some (.int (nI (rse (polyW p n cs) x i))), some (.int (nI k))] [] := by
  obtain ⟨c1, c5, c0, c6, -⟩ := cb_b hc
  have hk := polyW_ok (cs := cs) hc
  have p5 : p ^ n ≤ 243 := hc.2.2.2
  have rl := rse_lt (cs := cs) (i := i) hc hx
  intro m
  induction m with
  | zero =>
    intro k e1 e2 e3 h1 hW hE
    have e' : k = p := by omega
    subst e'
    have hH1 := (hE R (by omega)).trans hH
    refine e_iload (pc := 23) dX4_raise_23 rfl ?_
    refine e_aload_n (pc := 25) dX4_raise_25 rfl rfl ?_
    refine e_get (pc := 26) fl_X4_51 dX4_raise_26 (by repeat (first | assumption | exact hset_eq _ _ _ | (apply WAt.hd; assumption) | rw [hset_ne _ _ (by omega)])) (by rfl) ?_
    refine n_VP (pc := 29) (c_X9_prime hW) bX9_prime q_i_X9_prime q_s_X9_prime q_m_X4_126 dX4_raise_29 rfl rfl (by repeat (first | assumption | exact hset_eq _ _ _ | (apply WAt.hd; assumption) | rw [hset_ne _ _ (by omega)])) rfl rfl (by exact Nat.le_of_ble_eq_true rfl) ⟨by decide, by decide⟩ ⟨rfl, rfl, Nat.zero_le _, Nat.zero_le _⟩ ?_
    refine n_icmp_ge (pc := 32) (tgt := 52) dX4_raise_32 (by decide) (by omega) (show k < 2 ^ 31 by omega) (fun _ => ?_) (fun q => absurd q (Nat.lt_irrefl k))
    refine V.mask [true, true, true, true, true, false, false] ?_
    rw [rse_s hc hx]
    exact kk h1 hW hE
  | succ m ih =>
    intro k e1 e2 e3 h1 hW hE
    have hH1 := (hE R (by omega)).trans hH
    have ll := lpw_lt (cs := cs) hc rl (k - 1)
    refine e_iload (pc := 23) dX4_raise_23 rfl ?_
    refine e_aload_n (pc := 25) dX4_raise_25 rfl rfl ?_
    refine e_get (pc := 26) fl_X4_51 dX4_raise_26 (by repeat (first | assumption | exact hset_eq _ _ _ | (apply WAt.hd; assumption) | rw [hset_ne _ _ (by omega)])) (by rfl) ?_
    refine n_VP (pc := 29) (c_X9_prime hW) bX9_prime q_i_X9_prime q_s_X9_prime q_m_X4_126 dX4_raise_29 rfl rfl (by repeat (first | assumption | exact hset_eq _ _ _ | (apply WAt.hd; assumption) | rw [hset_ne _ _ (by omega)])) rfl rfl (by exact Nat.le_of_ble_eq_true rfl) ⟨by decide, by decide⟩ ⟨rfl, rfl, Nat.zero_le _, Nat.zero_le _⟩ ?_
    refine n_icmp_ge (pc := 32) (tgt := 52) dX4_raise_32 (by decide) (by omega) (show p < 2 ^ 31 by omega) (fun q => absurd q (show ¬ p ≤ k by omega)) (fun _ => ?_)
    refine e_aload_n (pc := 35) dX4_raise_35 rfl rfl ?_
    refine e_get (pc := 36) fl_X4_51 dX4_raise_36 (by repeat (first | assumption | exact hset_eq _ _ _ | (apply WAt.hd; assumption) | rw [hset_ne _ _ (by omega)])) (by rfl) ?_
    refine e_iload_n (pc := 39) dX4_raise_39 rfl rfl ?_
    refine e_iload (pc := 40) dX4_raise_40 rfl ?_
    refine n_V (pc := 42) (c_X9_times2 hW hk (show lpw (polyW p n cs) (rse (polyW p n cs) x i) (k - 1) < 3125 by omega) (show rse (polyW p n cs) x i < 3125 by omega)) bX9_times q_i_X9_times q_s_X9_times q_m_X4_165 dX4_raise_42 rfl rfl (by repeat (first | assumption | exact hset_eq _ _ _ | (apply WAt.hd; assumption) | rw [hset_ne _ _ (by omega)])) rfl rfl (by exact Nat.le_of_ble_eq_true rfl) ⟨by decide, by decide⟩ ⟨rfl, rfl, Nat.zero_le _, Nat.zero_le _⟩ (fun z h2 hp => ?_)
    obtain ⟨rfl, q1, q2⟩ := hp
    refine e_istore_n (pc := 45) dX4_raise_45 rfl (by decide) ?_
    refine n_inc (pc := 46) dX4_raise_46 rfl (by decide) ?_
    refine e_goto (pc := 49) (tgt := 23) dX4_raise_49 (by decide) ?_
    have q := ih (k + 1) (by omega) (by omega) (by omega) h2 q1 (hE.tr q2)
    rw [show k + 1 - 1 = k - 1 + 1 by omega] at q
    exact q
theorem l_ra_i {sz x a : Nat} {hh : AH} (hc : canBe p n) (hx : x < p ^ n) (ha : a ≤ 4) (hH : RdH hh R lenI pl kd st0 v0 ft fp sm hf) :
    ∀ (m i : Nat), m = a - i → i ≤ a → ∀ h1, WAt h1 (R + 5) (polyW p n cs) ff → Es (R + 5) hh h1 → VI MX4_raise sz (fun z h' => z = nI (rse (polyW p n cs) x a) ∧ WAt h' (R + 5) (polyW p n cs) ff ∧ Es (R + 5) hh h') h1 5 [some (.ref R), some (.int (nI x)), some (.int (nI a)), some (.int (nI (rse (polyW p n cs) x i))), some (.int (nI i)), none, none] [] := by
  obtain ⟨c1, c5, c0, c6, -⟩ := cb_b hc
  intro m
  induction m with
  | zero =>
    intro i e1 e2 h1 hW hE
    have e' : i = a := by omega
    subst e'
    refine e_iload (pc := 5) dX4_raise_5 rfl ?_
    refine e_iload_n (pc := 7) dX4_raise_7 rfl rfl ?_
    refine n_icmp_ge (pc := 8) (tgt := 58) dX4_raise_8 (by decide) (by omega) (by omega) (fun hb_ => ?_) (fun c => absurd c (by omega))
    refine e_iload_n (pc := 58) dX4_raise_58 rfl rfl ?_
    exact n_iret (pc := 59) dX4_raise_59 rfl ⟨rfl, hW, hE⟩
  | succ m ih =>
    intro i e1 e2 h1 hW hE
    refine e_iload (pc := 5) dX4_raise_5 rfl ?_
    refine e_iload_n (pc := 7) dX4_raise_7 rfl rfl ?_
    refine n_icmp_ge (pc := 8) (tgt := 58) dX4_raise_8 (by decide) (by omega) (by omega) (fun c => absurd c (by omega)) (fun hb_ => ?_)
    refine e_iload (pc := 11) dX4_raise_11 rfl ?_
    refine n_iconst (pc := 13) 5 dX4_raise_13 (by decide) ?_
    refine n_icmp_ge (pc := 14) (tgt := 58) dX4_raise_14 (by decide) (by omega) (by omega) (fun c => absurd c (by omega)) (fun hb_ => ?_)
    refine e_iload_n (pc := 17) dX4_raise_17 rfl rfl ?_
    refine e_istore (pc := 18) dX4_raise_18 (by decide) ?_
    refine n_iconst (pc := 20) 1 dX4_raise_20 (by decide) ?_
    refine e_istore (pc := 21) dX4_raise_21 (by decide) ?_
    refine l_ra_f (hh := hh) (ff := ff) hc hx hH (fun h2 W2 E2 => ?_) (p - 1) 1 rfl (Nat.le_refl 1) (by omega) h1 hW hE
    refine n_inc (pc := 52) dX4_raise_52 rfl (by decide) ?_
    refine e_goto (pc := 55) (tgt := 5) dX4_raise_55 (by decide) ?_
    exact ih (i + 1) (by omega) (by omega) h2 W2 E2
theorem c_X4_raise {x a : Nat} (hc : canBe p n) (hx : x < p ^ n) (ha : a ≤ 4) (hH : RdH h R lenI pl kd st0 v0 ft fp sm hf) (hW : WAt h (R + 5) (polyW p n cs) ff) : CI yX4_raise MX4_raise [.ref R, .int (nI x), .int (nI a)] h (fun z h' => z = nI (rse (polyW p n cs) x a) ∧ WAt h' (R + 5) (polyW p n cs) ff ∧ Es (R + 5) h h') := by
  have e0 : rse (polyW p n cs) x 0 = x := by
    unfold rse
    show lpw (polyW p n cs) x (p ^ 0 - 1) = x
    rw [Nat.pow_zero]
    rfl
  refine CI.ofV (by decide) rfl rfl (by simp [Value.category]) (by exact Nat.le_of_ble_eq_true rfl) (fun sz => ?_)
  refine e_iload_n (pc := 0) dX4_raise_0 rfl rfl ?_
  refine e_istore_n (pc := 1) dX4_raise_1 rfl (by decide) ?_
  refine n_iconst (pc := 2) 0 dX4_raise_2 (by decide) ?_
  refine e_istore (pc := 3) dX4_raise_3 (by decide) ?_
  have q := l_ra_i (cs := cs) (ff := ff) (sz := sz) (hh := h) hc hx ha hH a 0 rfl (Nat.zero_le _) h hW (Es.rf _ _)
  rw [e0] at q
  exact q
/-- a cube, filled row by row up to a place -/
def wlx (W : Wd) (g : Nat → Nat → Nat) (i j : Nat) : Wd := (W.1, W.2.1, fun t => if inC W.2.1 t ∧ (t / 25 < i ∨ t / 25 = i ∧ t / 5 % 5 < j) then dg W.1 (g (t / 25) (t / 5 % 5)) (t % 5) else W.2.2 t)
theorem wlx_ok {g : Nat → Nat → Nat} (hk : Wok W) (i j : Nat) : Wok (wlx W g i j) := by
  obtain ⟨h1, h2, h3, h4, h5⟩ := hk
  have hp : 0 < W.1 := by rcases h1 with h | h | h <;> omega
  refine ⟨h1, h2, h3, h4, fun t => ?_⟩
  show (if inC W.2.1 t ∧ (t / 25 < i ∨ t / 25 = i ∧ t / 5 % 5 < j) then dg W.1 (g (t / 25) (t / 5 % 5)) (t % 5) else W.2.2 t) < W.1 ∧ (¬ inC W.2.1 t → (if inC W.2.1 t ∧ (t / 25 < i ∨ t / 25 = i ∧ t / 5 % 5 < j) then dg W.1 (g (t / 25) (t / 5 % 5)) (t % 5) else W.2.2 t) = 0)
  by_cases e : inC W.2.1 t ∧ (t / 25 < i ∨ t / 25 = i ∧ t / 5 % 5 < j)
  · rw [if_pos e]; exact ⟨dg_lt hp _ _, fun q => absurd e.1 q⟩
  · rw [if_neg e]; exact h5 t
theorem wlx_0 {g : Nat → Nat → Nat} : wlx W g 0 0 = W := by
  unfold wlx
  refine congrArg (fun z => (W.1, W.2.1, z)) (funext fun t => ?_)
  exact if_neg (fun q => by omega)
theorem wlx_s {g : Nat → Nat → Nat} (hn : W.2.1 ≤ 5) {i j : Nat} (hi : i < W.2.1) (hj : j < W.2.1) : wrow (wlx W g i j) i j W.2.1 (g i j) = wlx W g i (j + 1) := by
  unfold wrow wlx
  refine congrArg (fun z => (W.1, W.2.1, z)) (funext fun t => ?_)
  show (if 25 * i + 5 * j ≤ t ∧ t < 25 * i + 5 * j + W.2.1 then dg W.1 (g i j) (t - (25 * i + 5 * j)) else if inC W.2.1 t ∧ (t / 25 < i ∨ t / 25 = i ∧ t / 5 % 5 < j) then dg W.1 (g (t / 25) (t / 5 % 5)) (t % 5) else W.2.2 t) = if inC W.2.1 t ∧ (t / 25 < i ∨ t / 25 = i ∧ t / 5 % 5 < j + 1) then dg W.1 (g (t / 25) (t / 5 % 5)) (t % 5) else W.2.2 t
  by_cases c : 25 * i + 5 * j ≤ t ∧ t < 25 * i + 5 * j + W.2.1
  · have e1 : t / 25 = i := by omega
    have e2 : t / 5 % 5 = j := by omega
    have e3 : t % 5 = t - (25 * i + 5 * j) := by omega
    rw [if_pos c, if_pos ⟨⟨by omega, by omega, by omega, by omega⟩, by omega⟩, e3, e1, e2]
  · rw [if_neg c]
    by_cases e : inC W.2.1 t ∧ (t / 25 < i ∨ t / 25 = i ∧ t / 5 % 5 < j)
    · rw [if_pos e, if_pos ⟨e.1, by omega⟩]
    · rw [if_neg e, if_neg (fun q => e ⟨q.1, by obtain ⟨⟨q1, q2, q3, q4⟩, q5⟩ := q; omega⟩)]
theorem wlx_n {g : Nat → Nat → Nat} {i : Nat} : wlx W g i W.2.1 = wlx W g (i + 1) 0 := by
  unfold wlx
  refine congrArg (fun z => (W.1, W.2.1, z)) (funext fun t => ?_)
  by_cases e : inC W.2.1 t ∧ (t / 25 < i ∨ t / 25 = i ∧ t / 5 % 5 < W.2.1)
  · rw [if_pos e, if_pos ⟨e.1, by omega⟩]
  · rw [if_neg e, if_neg (fun q => e ⟨q.1, by obtain ⟨⟨q1, q2, q3, q4⟩, q5⟩ := q; omega⟩)]
theorem wlx_all {g : Nat → Nat → Nat} (hk : Wok W) : wlx W g W.2.1 0 = (W.1, W.2.1, fun t => if inC W.2.1 t then dg W.1 (g (t / 25) (t / 5 % 5)) (t % 5) else 0) := by
  unfold wlx
  refine congrArg (fun z => (W.1, W.2.1, z)) (funext fun t => ?_)
  by_cases e : inC W.2.1 t
  · rw [if_pos ⟨e, by obtain ⟨q1, q2, q3, q4⟩ := e; omega⟩, if_pos e]
  · rw [if_neg (fun q => e q.1), if_neg e]
    exact (hk.2.2.2.2 t).2 e
/-- what a twist writes -/
def Ef5 (R : Nat) (h h' : AH) : Prop := ∀ a, a ≠ R + 2 → a ≠ R + 3 → a ≠ R + 4 → a ≠ R + 7 → a ≠ R + 12 → a ≠ R + 13 → h' a = h a
theorem Ef5.rf (R : Nat) (h : AH) : Ef5 R h h := fun _ _ _ _ _ _ _ => rfl
theorem Ef5.tr {R : Nat} {h h1 h2 : AH} (a : Ef5 R h h1) (b : Ef5 R h1 h2) : Ef5 R h h2 := fun q x1 x2 x3 x4 x5 x6 => (b q x1 x2 x3 x4 x5 x6).trans (a q x1 x2 x3 x4 x5 x6)
theorem Es.ef5 {R : Nat} {h h1 : AH} (e : Es (R + 5) h h1) : Ef5 R h h1 := fun a _ _ _ x _ _ => e a (by omega)
theorem Ew.ef5 {R : Nat} {h h1 : AH} (e : Ew (R + 2) h h1) : Ef5 R h h1 := fun a x y z _ _ _ => e a x (by omega) (by omega)
theorem Ef5.set {R a : Nat} {x : AE} {h h1 : AH} (e : Ef5 R h h1) (ha : a = R + 12 ∨ a = R + 13) : Ef5 R h (hset h1 a x) := fun q x1 x2 x3 x4 x5 x6 => by
  rw [hset_ne _ _ (by omega)]; exact e q x1 x2 x3 x4 x5 x6
theorem WAt.k3 {h2 : AH} {o : Nat} {f : Int32} (q : WAt h o W f) (e0 : h2 o = h o) (e1 : h2 (o + 1) = h (o + 1)) (e2 : h2 (o + 2) = h (o + 2)) : WAt h2 o W f := q.kept e0 e1 (by rw [e2]; exact q.2.2)
section FT
variable {sz c a b : Nat} {hh : AH} {Pr : AH → Prop} {g : Nat → Nat → Nat}
theorem l_ft1 (hc : canBe p n) (hk : Wok W) (hp : W.1 = p ∧ W.2.1 = n) (ha : a ≤ 4) (hb : b ≤ 4) (hH : RdH hh R lenI pl kd st0 v0 ft fp sm hf)
    (kk : ∀ h1, WAt h1 (R + 2) W (-2) → WAt h1 (R + 5) (polyW p n cs) ff → Ef5 R hh h1 → (∃ g, h1 (R + 12) = some (aI 5 g) ∧ ∀ t, t < n → g t = nI (rse (polyW p n cs) (p ^ t) a)) → (∃ g, h1 (R + 13) = some (aI 5 g) ∧ ∀ t, t < n → g t = nI (rse (polyW p n cs) (p ^ t) b)) → VV MX4_fillTwist sz Pr h1 67 [some (.ref R), some (.int (nI c)), some (.int (nI a)), some (.int (nI b)), some (.int (nI n)), none, none, none, none, none] []) :
    ∀ (m i : Nat), m = n - i → i ≤ n → ∀ h1, WAt h1 (R + 2) W (-2) → WAt h1 (R + 5) (polyW p n cs) ff → Ef5 R hh h1 → (∃ g, h1 (R + 12) = some (aI 5 g) ∧ ∀ t, t < i → g t = nI (rse (polyW p n cs) (p ^ t) a)) → (∃ g, h1 (R + 13) = some (aI 5 g) ∧ ∀ t, t < i → g t = nI (rse (polyW p n cs) (p ^ t) b)) →
    VV MX4_fillTwist sz Pr h1 12 [some (.ref R), some (.int (nI c)), some (.int (nI a)), some (.int (nI b)), some (.int (nI n)), some (.int (nI i)), none, none, none, none] [] := by
  obtain ⟨c1, c5, c0, c6, -⟩ := cb_b hc
  have pl' : ∀ j, j < n → p ^ j < p ^ n := fun j hj => Nat.pow_lt_pow_right c1 hj
  intro m
  induction m with
  | zero =>
    intro i e1 e2 h1 hW hF hE hA hB
    have e' : i = n := by omega
    subst e'
    refine e_iload (pc := 12) dX4_fillTwist_12 rfl ?_
    refine e_iload (pc := 14) dX4_fillTwist_14 rfl ?_
    refine n_icmp_ge (pc := 16) (tgt := 67) dX4_fillTwist_16 (by decide) (by omega) (by omega) (fun hb_ => ?_) (fun c => absurd c (by omega))
    refine V.mask [true, true, true, true, true, false, false, false, false, false] ?_
    exact kk h1 hW hF hE hA hB
  | succ m ih =>
    intro i e1 e2 h1 hW hF hE hA hB
    have hi : i < n := by omega
    obtain ⟨ga, a1, a2⟩ := hA
    obtain ⟨gb, b1, b2⟩ := hB
    have hH1 := (hE R (by omega) (by omega) (by omega) (by omega) (by omega) (by omega)).trans hH
    refine e_iload (pc := 12) dX4_fillTwist_12 rfl ?_
    refine e_iload (pc := 14) dX4_fillTwist_14 rfl ?_
    refine n_icmp_ge (pc := 16) (tgt := 67) dX4_fillTwist_16 (by decide) (by omega) (by omega) (fun c => absurd c (by omega)) (fun hb_ => ?_)
    refine e_aload_n (pc := 19) dX4_fillTwist_19 rfl rfl ?_
    refine e_get (pc := 20) fl_X4_60 dX4_fillTwist_20 (by repeat (first | assumption | exact hset_eq _ _ _ | (apply WAt.hd; assumption) | rw [hset_ne _ _ (by omega)])) (by rfl) ?_
    refine e_iload (pc := 23) dX4_fillTwist_23 rfl ?_
    refine e_aload_n (pc := 25) dX4_fillTwist_25 rfl rfl ?_
    refine e_aload_n (pc := 26) dX4_fillTwist_26 rfl rfl ?_
    refine e_get (pc := 27) fl_X4_47 dX4_fillTwist_27 (by repeat (first | assumption | exact hset_eq _ _ _ | (apply WAt.hd; assumption) | rw [hset_ne _ _ (by omega)])) (by rfl) ?_
    refine e_iload (pc := 30) dX4_fillTwist_30 rfl ?_
    refine n_VP (pc := 32) (c_X9_base hW hk (show i ≤ 5 by omega)) bX9_base q_i_X9_base q_s_X9_base q_m_X4_136 dX4_fillTwist_32 rfl rfl (by repeat (first | assumption | exact hset_eq _ _ _ | (apply WAt.hd; assumption) | rw [hset_ne _ _ (by omega)])) rfl rfl (by exact Nat.le_of_ble_eq_true rfl) ⟨by decide, by decide⟩ ⟨rfl, rfl, Nat.zero_le _, Nat.zero_le _⟩ ?_
    rw [hp.1]
    refine e_iload_n (pc := 35) dX4_fillTwist_35 rfl rfl ?_
    refine n_V (pc := 36) (c_X4_raise (cs := cs) hc (pl' i hi) ha hH1 hF) bX4_raise q_i_X4_raise q_s_X4_raise q_m_X4_162 dX4_fillTwist_36 rfl rfl (by repeat (first | assumption | exact hset_eq _ _ _ | (apply WAt.hd; assumption) | rw [hset_ne _ _ (by omega)])) rfl rfl (by exact Nat.le_of_ble_eq_true rfl) ⟨by decide, by decide⟩ ⟨rfl, rfl, Nat.zero_le _, Nat.zero_le _⟩ (fun z h2 hp2 => ?_)
    obtain ⟨rfl, q1, q2⟩ := hp2
    have a1' := (q2 (R + 12) (by omega)).trans a1
    have b1' := (q2 (R + 13) (by omega)).trans b1
    have hH2 := (q2 R (by omega)).trans hH1
    have hW2 : WAt h2 (R + 2) W (-2) := hW.k3 (q2 _ (by omega)) (q2 _ (by omega)) (q2 _ (by omega))
    refine e_iastN (pc := 39) i dX4_fillTwist_39 (by repeat (first | assumption | exact hset_eq _ _ _ | (apply WAt.hd; assumption) | rw [hset_ne _ _ (by omega)])) (by rfl) (by omega) (by first | decide | omega) ?_
    refine e_aload_n (pc := 40) dX4_fillTwist_40 rfl rfl ?_
    refine e_get (pc := 41) fl_X4_63 dX4_fillTwist_41 (by repeat (first | assumption | exact hset_eq _ _ _ | (apply WAt.hd; assumption) | rw [hset_ne _ _ (by omega)])) (by rfl) ?_
    refine e_iload (pc := 44) dX4_fillTwist_44 rfl ?_
    refine e_aload_n (pc := 46) dX4_fillTwist_46 rfl rfl ?_
    refine e_aload_n (pc := 47) dX4_fillTwist_47 rfl rfl ?_
    refine e_get (pc := 48) fl_X4_47 dX4_fillTwist_48 (by repeat (first | assumption | exact hset_eq _ _ _ | (apply WAt.hd; assumption) | rw [hset_ne _ _ (by omega)])) (by rfl) ?_
    refine e_iload (pc := 51) dX4_fillTwist_51 rfl ?_
    refine n_VP (pc := 53) (c_X9_base (hW2.hs (by omega)) hk (show i ≤ 5 by omega)) bX9_base q_i_X9_base q_s_X9_base q_m_X4_136 dX4_fillTwist_53 rfl rfl (by repeat (first | assumption | exact hset_eq _ _ _ | (apply WAt.hd; assumption) | rw [hset_ne _ _ (by omega)])) rfl rfl (by exact Nat.le_of_ble_eq_true rfl) ⟨by decide, by decide⟩ ⟨rfl, rfl, Nat.zero_le _, Nat.zero_le _⟩ ?_
    rw [hp.1]
    refine e_iload_n (pc := 56) dX4_fillTwist_56 rfl rfl ?_
    refine n_V (pc := 57) (c_X4_raise (cs := cs) hc (pl' i hi) hb (((hset_ne _ _ (by omega)).trans hH2 : RdH (hset h2 (R + 12) _) R lenI pl kd st0 v0 ft fp sm hf)) (q1.hs (by omega))) bX4_raise q_i_X4_raise q_s_X4_raise q_m_X4_162 dX4_fillTwist_57 rfl rfl (by repeat (first | assumption | exact hset_eq _ _ _ | (apply WAt.hd; assumption) | rw [hset_ne _ _ (by omega)])) rfl rfl (by exact Nat.le_of_ble_eq_true rfl) ⟨by decide, by decide⟩ ⟨rfl, rfl, Nat.zero_le _, Nat.zero_le _⟩ (fun z h3 hp2 => ?_)
    obtain ⟨rfl, r1, r2⟩ := hp2
    have b1'' := (r2 (R + 13) (by omega)).trans ((hset_ne _ _ (by omega)).trans b1')
    have a1'' := (r2 (R + 12) (by omega)).trans (hset_eq _ _ _)
    refine e_iastN (pc := 60) i dX4_fillTwist_60 (by repeat (first | assumption | exact hset_eq _ _ _ | (apply WAt.hd; assumption) | rw [hset_ne _ _ (by omega)])) (by rfl) (by omega) (by first | decide | omega) ?_
    refine n_inc (pc := 61) dX4_fillTwist_61 rfl (by decide) ?_
    refine e_goto (pc := 64) (tgt := 12) dX4_fillTwist_64 (by decide) ?_
    refine ih (i + 1) (by omega) (by omega) _ ?_ (r1.hs (by omega)) ((((hE.tr q2.ef5).set (by omega)).tr r2.ef5).set (by omega)) ⟨_, (hset_ne _ _ (by omega)).trans a1'', fun t ht => ?_⟩ ⟨_, hset_eq _ _ _, fun t ht => ?_⟩
    · exact ((hW2.hs (by omega)).k3 (r2 _ (by omega)) (r2 _ (by omega)) (r2 _ (by omega))).hs (by omega)
    · by_cases e : t = i
      · subst e; rw [pk_us]
      · rw [pk_un e]; exact a2 t (by omega)
    · by_cases e : t = i
      · subst e; rw [pk_us]
      · rw [pk_un e]; exact b2 t (by omega)
theorem l_ft_j {i : Nat} (hc : canBe p n) (hk : Wok W) (hp : W.1 = p ∧ W.2.1 = n) (hi : i < n) (hH : RdH hh R lenI pl kd st0 v0 ft fp sm hf) (hB : ∃ g, hh (R + 13) = some (aI 5 g) ∧ ∀ t, t < n → g t = nI (rse (polyW p n cs) (p ^ t) b))
    (kk : ∀ h1, WAt h1 (R + 2) (wlx W (twc (polyW p n cs) c a b) (i + 1) 0) (-2) → WAt h1 (R + 5) (polyW p n cs) ff → (∀ a, a ≠ R + 2 → a ≠ R + 3 → a ≠ R + 4 → a ≠ R + 7 → h1 a = hh a) → VV MX4_fillTwist sz Pr h1 180 [some (.ref R), some (.int (nI c)), none, none, some (.int (nI n)), some (.int (nI i)), none, none, none, none] []) :
    ∀ (m j : Nat), m = n - j → j ≤ n → ∀ h1, WAt h1 (R + 2) (wlx W (twc (polyW p n cs) c a b) i j) (-2) → WAt h1 (R + 5) (polyW p n cs) ff → (∀ a, a ≠ R + 2 → a ≠ R + 3 → a ≠ R + 4 → a ≠ R + 7 → h1 a = hh a) →
    VV MX4_fillTwist sz Pr h1 97 [some (.ref R), some (.int (nI c)), none, none, some (.int (nI n)), some (.int (nI i)), some (.int (nI (mul (polyW p n cs) c (rse (polyW p n cs) (p ^ i) a)))), some (.int (nI j)), none, none] [] := by
  obtain ⟨c1, c5, c0, c6, -⟩ := cb_b hc
  have pl' : ∀ j, j < n → p ^ j < p ^ n := fun j hj => Nat.pow_lt_pow_right c1 hj
  have p243 : p ^ n ≤ 243 := hc.2.2.2
  have p5 : p ^ n ≤ p ^ 5 := Nat.pow_le_pow_right (by omega) c6
  have hP := polyW_ok (cs := cs) hc
  obtain ⟨gb, b1, b2⟩ := hB
  intro m
  induction m with
  | zero =>
    intro j e1 e2 h1 hW hF hE
    have e' : j = n := by omega
    subst e'
    refine e_iload (pc := 97) dX4_fillTwist_97 rfl ?_
    refine e_iload (pc := 99) dX4_fillTwist_99 rfl ?_
    refine n_icmp_ge (pc := 101) (tgt := 180) dX4_fillTwist_101 (by decide) (by omega) (by omega) (fun hb_ => ?_) (fun c => absurd c (by omega))
    refine V.mask [true, true, false, false, true, true, false, false, false, false] ?_
    refine kk h1 ?_ hF hE
    rw [← wlx_n, hp.2]
    exact hW
  | succ m ih =>
    intro j e1 e2 h1 hW hF hE
    have hj : j < n := by omega
    have hH1 := (hE R (by omega) (by omega) (by omega) (by omega)).trans hH
    have b1' := (hE (R + 13) (by omega) (by omega) (by omega) (by omega)).trans b1
    have hkl := wlx_ok (g := twc (polyW p n cs) c a b) hk i j
    have pi := pl' i hi
    have pj := pl' j hj
    refine e_iload (pc := 97) dX4_fillTwist_97 rfl ?_
    refine e_iload (pc := 99) dX4_fillTwist_99 rfl ?_
    refine n_icmp_ge (pc := 101) (tgt := 180) dX4_fillTwist_101 (by decide) (by omega) (by omega) (fun c => absurd c (by omega)) (fun hb_ => ?_)
    refine e_aload_n (pc := 104) dX4_fillTwist_104 rfl rfl ?_
    refine e_get (pc := 105) fl_X4_51 dX4_fillTwist_105 (by repeat (first | assumption | exact hset_eq _ _ _ | (apply WAt.hd; assumption) | rw [hset_ne _ _ (by omega)])) (by rfl) ?_
    refine e_aload_n (pc := 108) dX4_fillTwist_108 rfl rfl ?_
    refine e_get (pc := 109) fl_X4_47 dX4_fillTwist_109 (by repeat (first | assumption | exact hset_eq _ _ _ | (apply WAt.hd; assumption) | rw [hset_ne _ _ (by omega)])) (by rfl) ?_
    refine e_iload (pc := 112) dX4_fillTwist_112 rfl ?_
    refine n_VP (pc := 114) (c_X9_base (W := wlx W (twc (polyW p n cs) c a b) i j) hW hkl (show i ≤ 5 by omega)) bX9_base q_i_X9_base q_s_X9_base q_m_X4_136 dX4_fillTwist_114 rfl rfl (by repeat (first | assumption | exact hset_eq _ _ _ | (apply WAt.hd; assumption) | rw [hset_ne _ _ (by omega)])) rfl rfl (by exact Nat.le_of_ble_eq_true rfl) ⟨by decide, by decide⟩ ⟨rfl, rfl, Nat.zero_le _, Nat.zero_le _⟩ ?_
    refine e_aload_n (pc := 117) dX4_fillTwist_117 rfl rfl ?_
    refine e_get (pc := 118) fl_X4_47 dX4_fillTwist_118 (by repeat (first | assumption | exact hset_eq _ _ _ | (apply WAt.hd; assumption) | rw [hset_ne _ _ (by omega)])) (by rfl) ?_
    refine e_iload (pc := 121) dX4_fillTwist_121 rfl ?_
    refine n_VP (pc := 123) (c_X9_base (W := wlx W (twc (polyW p n cs) c a b) i j) hW hkl (show j ≤ 5 by omega)) bX9_base q_i_X9_base q_s_X9_base q_m_X4_136 dX4_fillTwist_123 rfl rfl (by repeat (first | assumption | exact hset_eq _ _ _ | (apply WAt.hd; assumption) | rw [hset_ne _ _ (by omega)])) rfl rfl (by exact Nat.le_of_ble_eq_true rfl) ⟨by decide, by decide⟩ ⟨rfl, rfl, Nat.zero_le _, Nat.zero_le _⟩ ?_
    show VV MX4_fillTwist sz Pr h1 126 _ [.int (nI (W.1 ^ j)), .int (nI (W.1 ^ i)), .ref (R + 5)]
    rw [hp.1]
    refine n_V (pc := 126) (c_X9_times2 hF hP (show p ^ i < 3125 by omega) (show p ^ j < 3125 by omega)) bX9_times q_i_X9_times q_s_X9_times q_m_X4_165 dX4_fillTwist_126 rfl rfl (by repeat (first | assumption | exact hset_eq _ _ _ | (apply WAt.hd; assumption) | rw [hset_ne _ _ (by omega)])) rfl rfl (by exact Nat.le_of_ble_eq_true rfl) ⟨by decide, by decide⟩ ⟨rfl, rfl, Nat.zero_le _, Nat.zero_le _⟩ (fun z h2 hp2 => ?_)
    obtain ⟨rfl, q1, q2⟩ := hp2
    have hH2 := (q2 R (by omega)).trans hH1
    have b2' := (q2 (R + 13) (by omega)).trans b1'
    have y1 := b2 j hj
    have rj := rse_lt (cs := cs) (i := b) hc pj
    have ml := mulP_lt (cs := cs) hc c (rse (polyW p n cs) (p ^ i) a)
    refine e_istore (pc := 129) dX4_fillTwist_129 (by decide) ?_
    refine e_aload_n (pc := 131) dX4_fillTwist_131 rfl rfl ?_
    refine e_get (pc := 132) fl_X4_51 dX4_fillTwist_132 (by repeat (first | assumption | exact hset_eq _ _ _ | (apply WAt.hd; assumption) | rw [hset_ne _ _ (by omega)])) (by rfl) ?_
    refine e_iload (pc := 135) dX4_fillTwist_135 rfl ?_
    refine e_aload_n (pc := 137) dX4_fillTwist_137 rfl rfl ?_
    refine e_get (pc := 138) fl_X4_63 dX4_fillTwist_138 (by repeat (first | assumption | exact hset_eq _ _ _ | (apply WAt.hd; assumption) | rw [hset_ne _ _ (by omega)])) (by rfl) ?_
    refine e_iload (pc := 141) dX4_fillTwist_141 rfl ?_
    refine e_ialdN (pc := 143) j dX4_fillTwist_143 (by repeat (first | assumption | exact hset_eq _ _ _ | (apply WAt.hd; assumption) | rw [hset_ne _ _ (by omega)])) (by rfl) (by omega) (by first | decide | omega) ?_
    rw [y1]
    refine n_V (pc := 144) (c_X9_times2 q1 hP (show mul (polyW p n cs) c (rse (polyW p n cs) (p ^ i) a) < 3125 by omega) (show rse (polyW p n cs) (p ^ j) b < 3125 by omega)) bX9_times q_i_X9_times q_s_X9_times q_m_X4_165 dX4_fillTwist_144 rfl rfl (by repeat (first | assumption | exact hset_eq _ _ _ | (apply WAt.hd; assumption) | rw [hset_ne _ _ (by omega)])) rfl rfl (by exact Nat.le_of_ble_eq_true rfl) ⟨by decide, by decide⟩ ⟨rfl, rfl, Nat.zero_le _, Nat.zero_le _⟩ (fun z h3 hp3 => ?_)
    obtain ⟨rfl, r1, r2⟩ := hp3
    have hH3 := (r2 R (by omega)).trans hH2
    have W3 : WAt h3 (R + 2) (wlx W (twc (polyW p n cs) c a b) i j) (-2) := (hW.k3 (q2 _ (by omega)) (q2 _ (by omega)) (q2 _ (by omega))).k3 (r2 _ (by omega)) (r2 _ (by omega)) (r2 _ (by omega))
    have m1 := mulP_lt (cs := cs) hc (p ^ i) (p ^ j)
    have m2 := mulP_lt (cs := cs) hc (mul (polyW p n cs) c (rse (polyW p n cs) (p ^ i) a)) (rse (polyW p n cs) (p ^ j) b)
    refine e_istore (pc := 147) dX4_fillTwist_147 (by decide) ?_
    refine e_aload_n (pc := 149) dX4_fillTwist_149 rfl rfl ?_
    refine e_get (pc := 150) fl_X4_47 dX4_fillTwist_150 (by repeat (first | assumption | exact hset_eq _ _ _ | (apply WAt.hd; assumption) | rw [hset_ne _ _ (by omega)])) (by rfl) ?_
    refine e_iload (pc := 153) dX4_fillTwist_153 rfl ?_
    refine e_iload (pc := 155) dX4_fillTwist_155 rfl ?_
    refine e_aload_n (pc := 157) dX4_fillTwist_157 rfl rfl ?_
    refine e_get (pc := 158) fl_X4_47 dX4_fillTwist_158 (by repeat (first | assumption | exact hset_eq _ _ _ | (apply WAt.hd; assumption) | rw [hset_ne _ _ (by omega)])) (by rfl) ?_
    refine n_VP (pc := 161) (c_X9_prime W3) bX9_prime q_i_X9_prime q_s_X9_prime q_m_X4_126 dX4_fillTwist_161 rfl rfl (by repeat (first | assumption | exact hset_eq _ _ _ | (apply WAt.hd; assumption) | rw [hset_ne _ _ (by omega)])) rfl rfl (by exact Nat.le_of_ble_eq_true rfl) ⟨by decide, by decide⟩ ⟨rfl, rfl, Nat.zero_le _, Nat.zero_le _⟩ ?_
    show VV MX4_fillTwist sz Pr h3 164 _ (.int (nI W.1) :: _)
    rw [hp.1]
    refine e_iload (pc := 164) dX4_fillTwist_164 rfl ?_
    refine e_iload (pc := 166) dX4_fillTwist_166 rfl ?_
    refine n_SP (pc := 168) (c_X8_less (show 2 ≤ p by omega) c5 (show mul (polyW p n cs) (p ^ i) (p ^ j) < p ^ 5 by omega) (show mul (polyW p n cs) (mul (polyW p n cs) c (rse (polyW p n cs) (p ^ i) a)) (rse (polyW p n cs) (p ^ j) b) < p ^ 5 by omega)) bX8_less q_st_X8_less q_m_X4_168 dX4_fillTwist_168 rfl rfl (by exact Nat.le_of_ble_eq_true rfl) ⟨by decide, by decide⟩ ⟨rfl, rfl, Nat.zero_le _, Nat.zero_le _⟩ ?_
    have sl := sb_lt (show 0 < p by omega) c6 m1 m2
    refine n_Vv (pc := 171) (c_X9_putRow W3 hkl (show i < W.2.1 by omega) (show j < W.2.1 by omega) (show sb p (mul (polyW p n cs) (p ^ i) (p ^ j)) (mul (polyW p n cs) (mul (polyW p n cs) c (rse (polyW p n cs) (p ^ i) a)) (rse (polyW p n cs) (p ^ j) b)) < 3125 by omega)) bX9_putRow q_i_X9_putRow q_s_X9_putRow q_m_X4_146 dX4_fillTwist_171 rfl rfl (by repeat (first | assumption | exact hset_eq _ _ _ | (apply WAt.hd; assumption) | rw [hset_ne _ _ (by omega)])) rfl rfl (by exact Nat.le_of_ble_eq_true rfl) ⟨by decide, by decide⟩ ⟨rfl, rfl, Nat.zero_le _, Nat.zero_le _⟩ (fun h4 hp4 => ?_)
    obtain ⟨s1, s2⟩ := hp4
    have s1 : WAt h4 (R + 2) (wlx W (twc (polyW p n cs) c a b) i (j + 1)) (-2) := by
      rw [← wlx_s (by omega) (show i < W.2.1 by omega) (show j < W.2.1 by omega)]
      exact s1
    refine n_inc (pc := 174) dX4_fillTwist_174 rfl (by decide) ?_
    refine e_goto (pc := 177) (tgt := 97) dX4_fillTwist_177 (by decide) ?_
    refine V.mask [true, true, false, false, true, true, true, true, false, false] ?_
    exact ih (j + 1) (by omega) (by omega) h4 s1 (r1.k3 (s2 _ (by omega) (by omega) (by omega)) (s2 _ (by omega) (by omega) (by omega)) (s2 _ (by omega) (by omega) (by omega))) (fun q x1 x2 x3 x4 => (s2 q x1 (by omega) (by omega)).trans ((r2 q (by omega)).trans ((q2 q (by omega)).trans (hE q x1 x2 x3 x4))))
theorem l_ft_i (hc : canBe p n) (hk : Wok W) (hp : W.1 = p ∧ W.2.1 = n) (hcl : c < p ^ n) (hH : RdH hh R lenI pl kd st0 v0 ft fp sm hf) (hA : ∃ g, hh (R + 12) = some (aI 5 g) ∧ ∀ t, t < n → g t = nI (rse (polyW p n cs) (p ^ t) a)) (hB : ∃ g, hh (R + 13) = some (aI 5 g) ∧ ∀ t, t < n → g t = nI (rse (polyW p n cs) (p ^ t) b)) :
    ∀ (m i : Nat), m = n - i → i ≤ n → ∀ h1, WAt h1 (R + 2) (wlx W (twc (polyW p n cs) c a b) i 0) (-2) → WAt h1 (R + 5) (polyW p n cs) ff → (∀ a, a ≠ R + 2 → a ≠ R + 3 → a ≠ R + 4 → a ≠ R + 7 → h1 a = hh a) →
    VV MX4_fillTwist sz (fun h' => WAt h' (R + 2) (twistW (polyW p n cs) c a b) (-2) ∧ WAt h' (R + 5) (polyW p n cs) ff ∧ (∀ a, a ≠ R + 2 → a ≠ R + 3 → a ≠ R + 4 → a ≠ R + 7 → h' a = hh a)) h1 70 [some (.ref R), some (.int (nI c)), none, none, some (.int (nI n)), some (.int (nI i)), none, none, none, none] [] := by
  obtain ⟨c1, c5, c0, c6, -⟩ := cb_b hc
  have pl' : ∀ j, j < n → p ^ j < p ^ n := fun j hj => Nat.pow_lt_pow_right c1 hj
  have p243 : p ^ n ≤ 243 := hc.2.2.2
  have hP := polyW_ok (cs := cs) hc
  obtain ⟨ga, a1, a2⟩ := id hA
  intro m
  induction m with
  | zero =>
    intro i e1 e2 h1 hW hF hE
    have e' : i = W.2.1 := by omega
    subst e'
    refine e_iload (pc := 70) dX4_fillTwist_70 rfl ?_
    refine e_iload (pc := 72) dX4_fillTwist_72 rfl ?_
    refine n_icmp_ge (pc := 74) (tgt := 186) dX4_fillTwist_74 (by decide) (by omega) (by omega) (fun hb_ => ?_) (fun c => absurd c (by omega))
    refine n_vret (pc := 186) dX4_fillTwist_186 rfl ⟨?_, hF, hE⟩
    rw [wlx_all hk, hp.1, hp.2] at hW
    exact hW
  | succ m ih =>
    intro i e1 e2 h1 hW hF hE
    have hi : i < n := by omega
    have hH1 := (hE R (by omega) (by omega) (by omega) (by omega)).trans hH
    have a1' := (hE (R + 12) (by omega) (by omega) (by omega) (by omega)).trans a1
    have y1 := a2 i hi
    have ri := rse_lt (cs := cs) (i := a) hc (pl' i hi)
    refine e_iload (pc := 70) dX4_fillTwist_70 rfl ?_
    refine e_iload (pc := 72) dX4_fillTwist_72 rfl ?_
    refine n_icmp_ge (pc := 74) (tgt := 186) dX4_fillTwist_74 (by decide) (by omega) (by omega) (fun c => absurd c (by omega)) (fun hb_ => ?_)
    refine e_aload_n (pc := 77) dX4_fillTwist_77 rfl rfl ?_
    refine e_get (pc := 78) fl_X4_51 dX4_fillTwist_78 (by repeat (first | assumption | exact hset_eq _ _ _ | (apply WAt.hd; assumption) | rw [hset_ne _ _ (by omega)])) (by rfl) ?_
    refine e_iload_n (pc := 81) dX4_fillTwist_81 rfl rfl ?_
    refine e_aload_n (pc := 82) dX4_fillTwist_82 rfl rfl ?_
    refine e_get (pc := 83) fl_X4_60 dX4_fillTwist_83 (by repeat (first | assumption | exact hset_eq _ _ _ | (apply WAt.hd; assumption) | rw [hset_ne _ _ (by omega)])) (by rfl) ?_
    refine e_iload (pc := 86) dX4_fillTwist_86 rfl ?_
    refine e_ialdN (pc := 88) i dX4_fillTwist_88 (by repeat (first | assumption | exact hset_eq _ _ _ | (apply WAt.hd; assumption) | rw [hset_ne _ _ (by omega)])) (by rfl) (by omega) (by first | decide | omega) ?_
    rw [y1]
    refine n_V (pc := 89) (c_X9_times2 hF hP (show c < 3125 by omega) (show rse (polyW p n cs) (p ^ i) a < 3125 by omega)) bX9_times q_i_X9_times q_s_X9_times q_m_X4_165 dX4_fillTwist_89 rfl rfl (by repeat (first | assumption | exact hset_eq _ _ _ | (apply WAt.hd; assumption) | rw [hset_ne _ _ (by omega)])) rfl rfl (by exact Nat.le_of_ble_eq_true rfl) ⟨by decide, by decide⟩ ⟨rfl, rfl, Nat.zero_le _, Nat.zero_le _⟩ (fun z h2 hp2 => ?_)
    obtain ⟨rfl, q1, q2⟩ := hp2
    refine e_istore (pc := 92) dX4_fillTwist_92 (by decide) ?_
    refine n_iconst (pc := 94) 0 dX4_fillTwist_94 (by decide) ?_
    refine e_istore (pc := 95) dX4_fillTwist_95 (by decide) ?_
    refine l_ft_j (hh := hh) (ff := ff) hc hk hp hi hH hB (fun h3 W3 F3 E3 => ?_) n 0 rfl (Nat.zero_le _) h2 (hW.k3 (q2 _ (by omega)) (q2 _ (by omega)) (q2 _ (by omega))) q1 (fun q x1 x2 x3 x4 => (q2 q (by omega)).trans (hE q x1 x2 x3 x4))
    refine n_inc (pc := 180) dX4_fillTwist_180 rfl (by decide) ?_
    refine e_goto (pc := 183) (tgt := 70) dX4_fillTwist_183 (by decide) ?_
    exact ih (i + 1) (by omega) (by omega) h3 W3 F3 E3
end FT
theorem c_X4_fillTwist {c a b : Nat} (hc : canBe p n) (hk : Wok W) (hp : W.1 = p ∧ W.2.1 = n) (hcl : c < p ^ n) (ha : a ≤ 4) (hb : b ≤ 4) (hH : RdH h R lenI pl kd st0 v0 ft fp sm hf) (hW : WAt h (R + 2) W (-2)) (hF : WAt h (R + 5) (polyW p n cs) ff) (h12 : ∃ g, h (R + 12) = some (aI 5 g)) (h13 : ∃ g, h (R + 13) = some (aI 5 g)) : CV yX4_fillTwist MX4_fillTwist [.ref R, .int (nI c), .int (nI a), .int (nI b)] h (fun h' => WAt h' (R + 2) (twistW (polyW p n cs) c a b) (-2) ∧ WAt h' (R + 5) (polyW p n cs) ff ∧ (∃ g, h' (R + 12) = some (aI 5 g)) ∧ (∃ g, h' (R + 13) = some (aI 5 g)) ∧ Ef5 R h h') := by
  obtain ⟨c1, c5, c0, c6, -⟩ := cb_b hc
  obtain ⟨g12, h12⟩ := h12
  obtain ⟨g13, h13⟩ := h13
  refine CV.ofV (by decide) rfl rfl (by simp [Value.category]) (by exact Nat.le_of_ble_eq_true rfl) (fun sz => ?_)
  refine e_aload_n (pc := 0) dX4_fillTwist_0 rfl rfl ?_
  refine e_get (pc := 1) fl_X4_47 dX4_fillTwist_1 (by repeat (first | assumption | exact hset_eq _ _ _ | (apply WAt.hd; assumption) | rw [hset_ne _ _ (by omega)])) (by rfl) ?_
  refine n_VP (pc := 4) (c_X9_size hW) bX9_size q_i_X9_size q_s_X9_size q_m_X4_122 dX4_fillTwist_4 rfl rfl (by repeat (first | assumption | exact hset_eq _ _ _ | (apply WAt.hd; assumption) | rw [hset_ne _ _ (by omega)])) rfl rfl (by exact Nat.le_of_ble_eq_true rfl) ⟨by decide, by decide⟩ ⟨rfl, rfl, Nat.zero_le _, Nat.zero_le _⟩ ?_
  rw [hp.2]
  refine e_istore (pc := 7) dX4_fillTwist_7 (by decide) ?_
  refine n_iconst (pc := 9) 0 dX4_fillTwist_9 (by decide) ?_
  refine e_istore (pc := 10) dX4_fillTwist_10 (by decide) ?_
  refine l_ft1 (hh := h) (ff := ff) hc hk hp ha hb hH (fun h1 W1 F1 E1 A1 B1 => ?_) n 0 rfl (Nat.zero_le _) h hW hF (Ef5.rf _ _) ⟨g12, h12, fun t ht => absurd ht (Nat.not_lt_zero t)⟩ ⟨g13, h13, fun t ht => absurd ht (Nat.not_lt_zero t)⟩
  refine n_iconst (pc := 67) 0 dX4_fillTwist_67 (by decide) ?_
  refine e_istore (pc := 68) dX4_fillTwist_68 (by decide) ?_
  refine V.mask [true, true, false, false, true, true, false, false, false, false] ?_
  refine V.post ?_ (l_ft_i (hh := h1) (ff := ff) (a := a) (b := b) hc hk hp hcl ((E1 R (by omega) (by omega) (by omega) (by omega) (by omega) (by omega)).trans hH) A1 B1 n 0 rfl (Nat.zero_le _) h1 (by rw [wlx_0]; exact W1) F1 (fun _ _ _ _ _ => rfl))
  intro r h' z q
  obtain ⟨q1, q2, q3, q4, q5⟩ := q
  obtain ⟨ga, a1, a2⟩ := A1
  obtain ⟨gb, b1, b2⟩ := B1
  exact ⟨q1, q2, q3, q4, ⟨ga, (q5 _ (by omega) (by omega) (by omega) (by omega)).trans a1⟩, ⟨gb, (q5 _ (by omega) (by omega) (by omega) (by omega)).trans b1⟩, E1.tr (fun q x1 x2 x3 x4 x5 x6 => q5 q x1 x2 x3 x4)⟩
theorem c_X4_twist {i : Nat} (hT : Tk h R len f i ft fp sm hf) (hW : RWk h R (W) (polyW W.1 W.2.1 cs)) : CI yX4_twist MX4_twist [.ref R] h (Part h R len f i 6 W (polyW W.1 W.2.1 cs) ft fp sm hf) := by
  obtain ⟨_, _, v, c, _⟩ := id hT
  obtain ⟨w1, w2, -⟩ := id hW
  obtain ⟨b1, b2, b3, b4, b5⟩ := w2.b
  have hcb : canBe W.1 W.2.1 := ⟨w2.1, w2.2.1, w2.2.2.1, w2.2.2.2.1⟩
  refine CI.ofV (by decide) rfl rfl (by simp [Value.category]) (by exact Nat.le_of_ble_eq_true rfl) (fun sz => ?_)
  refine e_aload_n (pc := 0) dX4_twist_0 rfl rfl ?_
  refine e_aload_n (pc := 1) dX4_twist_1 rfl rfl ?_
  refine e_get (pc := 2) fl_X4_47 dX4_twist_2 (by repeat (first | assumption | exact hset_eq _ _ _ | (apply WAt.hd; assumption) | rw [hset_ne _ _ (by omega)])) (by rfl) ?_
  refine n_VP (pc := 5) (c_X9_order w1) bX9_order q_i_X9_order q_s_X9_order q_m_X4_157 dX4_twist_5 rfl rfl (by repeat (first | assumption | exact hset_eq _ _ _ | (apply WAt.hd; assumption) | rw [hset_ne _ _ (by omega)])) rfl rfl (by exact Nat.le_of_ble_eq_true rfl) ⟨by decide, by decide⟩ ⟨rfl, rfl, Nat.zero_le _, Nat.zero_le _⟩ ?_
  refine n_V (pc := 8) (c_X4_numberBelow hT (show W.1 ^ W.2.1 < 2 ^ 31 by omega)) bX4_numberBelow q_i_X4_numberBelow q_s_X4_numberBelow q_m_X4_110 dX4_twist_8 rfl rfl (by repeat (first | assumption | exact hset_eq _ _ _ | (apply WAt.hd; assumption) | rw [hset_ne _ _ (by omega)])) rfl rfl (by exact Nat.le_of_ble_eq_true rfl) ⟨by decide, by decide⟩ ⟨rfl, rfl, Nat.zero_le _, Nat.zero_le _⟩ (fun z h2 hp => ?_)
  obtain ⟨hp, p2⟩ := hp
  have s1 : nF f len i (sbd W 6) 1 = tokF f len (nt f len i 1) (W.1 ^ W.2.1) := nF_s rfl
  rcases hp with ⟨q1, rfl, T2⟩ | ⟨x, q1, rfl, F2⟩
  · refine e_if_ne (pc := 11) (tgt := 16) dX4_twist_11 (by decide) (fun _ => ?_) (fun q => absurd q (by decide))
    have T2 : Tk h2 R len f (nt f len i 1) ft fp sm hf := T2
    obtain ⟨n1, n2⟩ := tokF_none q1
    have n2 : vl f len i 0 < W.1 ^ W.2.1 := n2
    have c2 : RdH h2 R (nI len) (nI (tE f len (nt f len i 1))) (nI (tC f len (nt f len i 1))) (nI (tS f len (nt f len i 1))) (nI (vl f len i 0)) ft fp sm hf := T2.val n1
    refine e_aload_n (pc := 16) dX4_twist_16 rfl rfl ?_
    refine e_get (pc := 17) fl_X4_28 dX4_twist_17 (by repeat (first | assumption | exact hset_eq _ _ _ | (apply WAt.hd; assumption) | rw [hset_ne _ _ (by omega)])) (by rfl) ?_
    refine e_istore_n (pc := 20) dX4_twist_20 rfl (by decide) ?_
    refine e_aload_n (pc := 21) dX4_twist_21 rfl rfl ?_
    refine n_iconst (pc := 22) 5 dX4_twist_22 (by decide) ?_
    refine n_V (pc := 23) (c_X4_numberBelow T2 (show 5 < 2 ^ 31 by omega)) bX4_numberBelow q_i_X4_numberBelow q_s_X4_numberBelow q_m_X4_110 dX4_twist_23 rfl rfl (by repeat (first | assumption | exact hset_eq _ _ _ | (apply WAt.hd; assumption) | rw [hset_ne _ _ (by omega)])) rfl rfl (by exact Nat.le_of_ble_eq_true rfl) ⟨by decide, by decide⟩ ⟨rfl, rfl, Nat.zero_le _, Nat.zero_le _⟩ (fun z h3 hp => ?_)
    obtain ⟨hp, p3⟩ := hp
    have s2 : nF f len i (sbd W 6) 2 = tokF f len (nt f len i 2) 5 := nF_s (by rw [s1]; exact q1)
    rcases hp with ⟨q3, rfl, T3⟩ | ⟨x, q3, rfl, F3⟩
    · refine e_if_ne (pc := 26) (tgt := 31) dX4_twist_26 (by decide) (fun _ => ?_) (fun q => absurd q (by decide))
      have T3 : Tk h3 R len f (nt f len i 2) ft fp sm hf := T3
      obtain ⟨n3, n4⟩ := tokF_none q3
      have n3 : tC f len (nt f len i 2) = 2 := n3
      have n4 : vl f len i 1 < 5 := n4
      have c3 : RdH h3 R (nI len) (nI (tE f len (nt f len i 2))) (nI (tC f len (nt f len i 2))) (nI (tS f len (nt f len i 2))) (nI (vl f len i 1)) ft fp sm hf := T3.val n3
      refine e_aload_n (pc := 31) dX4_twist_31 rfl rfl ?_
      refine e_get (pc := 32) fl_X4_28 dX4_twist_32 (by repeat (first | assumption | exact hset_eq _ _ _ | (apply WAt.hd; assumption) | rw [hset_ne _ _ (by omega)])) (by rfl) ?_
      refine e_istore_n (pc := 35) dX4_twist_35 rfl (by decide) ?_
      refine e_aload_n (pc := 36) dX4_twist_36 rfl rfl ?_
      refine n_iconst (pc := 37) 5 dX4_twist_37 (by decide) ?_
      refine n_V (pc := 38) (c_X4_numberBelow T3 (show 5 < 2 ^ 31 by omega)) bX4_numberBelow q_i_X4_numberBelow q_s_X4_numberBelow q_m_X4_110 dX4_twist_38 rfl rfl (by repeat (first | assumption | exact hset_eq _ _ _ | (apply WAt.hd; assumption) | rw [hset_ne _ _ (by omega)])) rfl rfl (by exact Nat.le_of_ble_eq_true rfl) ⟨by decide, by decide⟩ ⟨rfl, rfl, Nat.zero_le _, Nat.zero_le _⟩ (fun z h4 hp => ?_)
      obtain ⟨hp, p4⟩ := hp
      have s3 : nF f len i (sbd W 6) 3 = tokF f len (nt f len i 3) 5 := nF_s (by rw [s2]; exact q3)
      have W4 := ((hW.er p2).er p3).er p4
      rcases hp with ⟨q5, rfl, T4⟩ | ⟨x, q5, rfl, F4⟩
      · refine e_if_ne (pc := 41) (tgt := 46) dX4_twist_41 (by decide) (fun _ => ?_) (fun q => absurd q (by decide))
        have T4 : Tk h4 R len f (nt f len i 3) ft fp sm hf := T4
        obtain ⟨n5, n6⟩ := tokF_none q5
        have n5 : tC f len (nt f len i 3) = 2 := n5
        have n6 : vl f len i 2 < 5 := n6
        have c4 : RdH h4 R (nI len) (nI (tE f len (nt f len i 3))) (nI (tC f len (nt f len i 3))) (nI (tS f len (nt f len i 3))) (nI (vl f len i 2)) ft fp sm hf := T4.val n5
        obtain ⟨y1, y2, ⟨f3, y3⟩, y4, ⟨S, f5, y5, y6⟩, ⟨g7, y7⟩, y8, y9⟩ := id W4
        refine e_aload_n (pc := 46) dX4_twist_46 rfl rfl ?_
        refine e_iload_n (pc := 47) dX4_twist_47 rfl rfl ?_
        refine e_iload_n (pc := 48) dX4_twist_48 rfl rfl ?_
        refine e_aload_n (pc := 49) dX4_twist_49 rfl rfl ?_
        refine e_get (pc := 50) fl_X4_28 dX4_twist_50 (by repeat (first | assumption | exact hset_eq _ _ _ | (apply WAt.hd; assumption) | rw [hset_ne _ _ (by omega)])) (by rfl) ?_
        refine n_Vv (pc := 53) (c_X4_fillTwist hcb y2 ⟨rfl, rfl⟩ n2 (show vl f len i 1 ≤ 4 by omega) (show vl f len i 2 ≤ 4 by omega) c4 y1 y3 y8 y9) bX4_fillTwist q_i_X4_fillTwist q_s_X4_fillTwist q_m_X4_159 dX4_twist_53 rfl rfl (by repeat (first | assumption | exact hset_eq _ _ _ | (apply WAt.hd; assumption) | rw [hset_ne _ _ (by omega)])) rfl rfl (by exact Nat.le_of_ble_eq_true rfl) ⟨by decide, by decide⟩ ⟨rfl, rfl, Nat.zero_le _, Nat.zero_le _⟩ (fun h5 hp => ?_)
        obtain ⟨r1, r2, r3, r4, r5⟩ := hp
        have far : ∀ a, (a < R + 2 ∨ (R + 8 ≤ a ∧ a < R + 12) ∨ R + 14 ≤ a) → h5 a = h4 a := fun a x => r5 a (by omega) (by omega) (by omega) (by omega) (by omega) (by omega)
        have T5 := T4.keep (far R (by omega)) (far (R + 1) (by omega))
        have hk5 : Wok (twistW (polyW W.1 W.2.1 cs) (vl f len i 0) (vl f len i 1) (vl f len i 2)) := wd_ok hcb (fun t => dg_lt (p := W.1) (by omega) _ _)
        have W5 : RWk h5 R (twistW (polyW W.1 W.2.1 cs) (vl f len i 0) (vl f len i 1) (vl f len i 2)) (polyW W.1 W.2.1 cs) := ⟨r1, hk5, ⟨f3, r2⟩, y4, ⟨S, f5, y5.kp (fun a x y => far a (by omega)), y6⟩, ⟨g7, (far _ (by omega)).trans y7⟩, r3, r4⟩
        obtain ⟨_, _, v5, c5, _⟩ := id T5
        refine e_aload_n (pc := 56) dX4_twist_56 rfl rfl ?_
        refine n_Vv (pc := 57) (c_X4_stepT T5) bX4_step q_i_X4_step q_s_X4_step q_m_X4_70 dX4_twist_57 rfl rfl (by repeat (first | assumption | exact hset_eq _ _ _ | (apply WAt.hd; assumption) | rw [hset_ne _ _ (by omega)])) rfl rfl (by exact Nat.le_of_ble_eq_true rfl) ⟨by decide, by decide⟩ ⟨rfl, rfl, Nat.zero_le _, Nat.zero_le _⟩ (fun h6 hp => ?_)
        obtain ⟨t1, t2⟩ := hp
        refine n_iconst (pc := 60) 1 dX4_twist_60 (by decide) ?_
        exact n_zret (pc := 61) dX4_twist_61 rfl rfl ⟨Or.inl ⟨by show nF f len i (sbd W 6) 3 = none; rw [s3]; exact q5, rfl, t1, W5.er t2⟩, (((p2.rr.tr p3.rr).tr p4.rr).tr (fun a x => far a (by omega))).tr t2.rr⟩
      · refine e_if_ne (pc := 41) (tgt := 46) dX4_twist_41 (by decide) (fun q => absurd rfl q) (fun _ => ?_)
        refine n_iconst (pc := 44) 0 dX4_twist_44 (by decide) ?_
        exact n_zret (pc := 45) dX4_twist_45 rfl rfl ⟨Or.inr ⟨x, by show nF f len i (sbd W 6) 3 = some x; rw [s3]; exact q5, rfl, F4, _, _, W4⟩, (p2.rr.tr p3.rr).tr p4.rr⟩
    · refine e_if_ne (pc := 26) (tgt := 31) dX4_twist_26 (by decide) (fun q => absurd rfl q) (fun _ => ?_)
      refine n_iconst (pc := 29) 0 dX4_twist_29 (by decide) ?_
      exact n_zret (pc := 30) dX4_twist_30 rfl rfl ⟨Or.inr ⟨x, nF_some (s2.trans q3) 1, rfl, F3, _, _, (hW.er p2).er p3⟩, p2.rr.tr p3.rr⟩
  · refine e_if_ne (pc := 11) (tgt := 16) dX4_twist_11 (by decide) (fun q => absurd rfl q) (fun _ => ?_)
    refine n_iconst (pc := 14) 0 dX4_twist_14 (by decide) ?_
    exact n_zret (pc := 15) dX4_twist_15 rfl rfl ⟨Or.inr ⟨x, nF_some (s1.trans q1) 2, rfl, F2, _, _, hW.er p2⟩, p2.rr⟩
end R5
