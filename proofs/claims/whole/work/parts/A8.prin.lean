/-! ===== the reference: a cube turned back from both sides ===== -/
/-- the cube of products of turned-back base elements -/
def pri (W W2 : Wd) (Lf Rf : Nat → Nat) : Wd := (W.1, W.2.1, fun t => if inC W.2.1 t then dg W.1 (mul W2 (Lf (t / 25)) (Rf (t / 5 % 5))) (t % 5) else 0)
theorem pri_ok {W W2 : Wd} (hk : Wok W) (Lf Rf : Nat → Nat) : Wok (pri W W2 Lf Rf) := wd_ok ⟨hk.1, hk.2.1, hk.2.2.1, hk.2.2.2.1⟩ (fun t => dg_lt (by have := hk.b; omega) _ _)
theorem pri_cell {W W2 : Wd} {Lf Rf : Nat → Nat} (hn : W.2.1 ≤ 5) {i j k : Nat} (hi : i < W.2.1) (hj : j < W.2.1) (hk : k < W.2.1) : (pri W W2 Lf Rf).2.2 (25 * i + 5 * j + k) = dg W.1 (mul W2 (Lf i) (Rf j)) k := by
  show (if inC W.2.1 (25 * i + 5 * j + k) then dg W.1 (mul W2 (Lf ((25 * i + 5 * j + k) / 25)) (Rf ((25 * i + 5 * j + k) / 5 % 5))) ((25 * i + 5 * j + k) % 5) else 0) = _
  rw [if_pos (by unfold inC; omega), show (25 * i + 5 * j + k) / 25 = i by omega, show (25 * i + 5 * j + k) / 5 % 5 = j by omega, show (25 * i + 5 * j + k) % 5 = k by omega]
/-- what a row of turned-back base elements is -/
def Tb (W : Wd) (sd : Nat → Nat) (Lf : Nat → Nat) : Prop := ∀ i, i < W.2.1 → Lf i < W.1 ^ W.2.1 ∧ ∀ x, x < W.1 ^ W.2.1 → (sd x = W.1 ^ i ↔ x = Lf i)
section PR
variable {m : Nat} {s : Ms} {W W2 : Wd} {sz u v : Nat} {hh : AH} {Lf Rf : Nat → Nat}
/-- frame: neither what stays between calls nor the second cube kept -/
def FmP (m : Nat) (h h' : AH) : Prop := ∀ b, (b < m + 4 ∨ m + 107 ≤ b ∨ b = m + 9 ∨ b = m + 105) → h' b = h b
theorem FmP.rf (m : Nat) (h : AH) : FmP m h h := fun _ _ => rfl
theorem FmP.tr {m : Nat} {h h1 h2 : AH} (a : FmP m h h1) (b : FmP m h1 h2) : FmP m h h2 := fun q y => (b q y).trans (a q y)
theorem FmP.fq {m : Nat} {h h1 : AH} (a : FmP m h h1) : FmB m h h1 := fun b y => a b (by omega)
theorem FmT.p {m : Nat} {h h1 : AH} (a : FmT m h h1) : FmP m h h1 := fun b y => a b (by omega)
theorem FdM.p {m : Nat} {h h1 : AH} (a : FdM m h h1) : FmP m h h1 := fun b y => a b (by omega) (by omega) (by omega)
theorem FmP.set {m k : Nat} {h h1 : AH} {x : AE} (a : FmP m h h1) (hk : 4 ≤ k ∧ k < 107 ∧ k ≠ 9 ∧ k ≠ 105) : FmP m h (hset h1 (m + k) x) := fun b q => by
  rw [hset_ne _ _ (by omega)]
  exact a b q
/-- all before i, and i itself when it comes before x -/
def PrB (hh h : AH) (m : Nat) (W W2 : Wd) (s : Ms) (Lf Rf : Nat → Nat) (i x y : Nat) : Prop := Lay h m W s ∧ FmP m hh h ∧ CuA h (m + 105) W2 ∧ (∃ g, h (m + 98) = some (aI 5 g) ∧ (∀ k, k < i → g k = nI (Lf k)) ∧ (Lf i < x → g i = nI (Lf i))) ∧ ∃ g, h (m + 99) = some (aI 5 g) ∧ (∀ k, k < i → g k = nI (Rf k)) ∧ (Rf i < y → g i = nI (Rf i))
theorem PrB.fd {h h2 : AH} {i x y : Nat} (q : PrB hh h m W W2 s Lf Rf i x y) (l : Lay h2 m W s) (f : FdM m h h2) : PrB hh h2 m W W2 s Lf Rf i x y := by
  obtain ⟨q1, q2, q0, ⟨g, q3, q4⟩, g2, q5, q6⟩ := q
  exact ⟨l, q2.tr f.p, q0.keep (f _ (by omega) (by omega) (by omega)), ⟨g, (f _ (by omega) (by omega) (by omega)).trans q3, q4⟩, g2, (f _ (by omega) (by omega) (by omega)).trans q5, q6⟩
theorem mul_lt2 (hk2 : Wok W2) (he : W2.1 = W.1 ∧ W2.2.1 = W.2.1) (x y : Nat) : mul W2 x y < W.1 ^ W.2.1 := by
  have := mul_lt hk2 x y
  rw [he.1, he.2] at this
  exact this
theorem l_pn_r {i x : Nat} {Pr : AH → Prop} {h : AH} (hk : Wok W) (hk2 : Wok W2) (he : W2.1 = W.1 ∧ W2.2.1 = W.2.1) (hu : u < W.1 ^ W.2.1) (hR : Tb W (fun x => mul W2 u x) Rf) (hi : i < W.2.1) (hx : x < W.1 ^ W.2.1) (hU : PrB hh h m W W2 s Lf Rf i (x + 1) x)
    (kk : ∀ h, PrB hh h m W W2 s Lf Rf i (x + 1) (x + 1) → VV MX11_principal sz Pr h 76 [some (.ref m), some (.int (nI u)), some (.int (nI v)), some (.int (nI i)), some (.int (nI x)), none] []) : VV MX11_principal sz Pr h 49 [some (.ref m), some (.int (nI u)), some (.int (nI v)), some (.int (nI i)), some (.int (nI x)), none] [] := by
  obtain ⟨b1, b2, b3, b4, b5⟩ := hk.b
  have ml := mul_lt2 hk2 he u x
  have pi := pow_q hk hi
  have hL := hU.1
  have hC := hU.2.2.1
  refine e_aload_n (pc := 49) dX11_principal_49 rfl rfl ?_
  refine e_aload_n (pc := 50) dX11_principal_50 rfl rfl ?_
  refine e_get (pc := 51) fl_X11_92 dX11_principal_51 (by repeat (first | assumption | exact hset_eq _ _ _ | (apply Lay.hd; assumption) | rw [hset_ne _ _ (by omega)])) (by rfl) ?_
  refine e_iload_n (pc := 54) dX11_principal_54 rfl rfl ?_
  refine e_iload (pc := 55) dX11_principal_55 rfl ?_
  refine n_V (pc := 57) (c_timesK hL (hC.i hk2) hk2 he (show u < 2 ^ 31 by omega) (show x < 2 ^ 31 by omega) (by omega)) bX11_timesBy q_i_X11_timesBy q_s_X11_timesBy q_m_X11_123 dX11_principal_57 rfl rfl (by repeat (first | assumption | exact hset_eq _ _ _ | (apply Lay.hd; assumption) | rw [hset_ne _ _ (by omega)])) rfl rfl (by exact Nat.le_of_ble_eq_true rfl) ⟨by decide, by decide⟩ ⟨rfl, rfl, Nat.zero_le _, Nat.zero_le _⟩ (fun z h2 hp => ?_)
  obtain ⟨rfl, p1, p2⟩ := hp
  have hU2 := hU.fd p1 p2
  refine e_aload_n (pc := 60) dX11_principal_60 rfl rfl ?_
  refine e_iload_n (pc := 61) dX11_principal_61 rfl rfl ?_
  refine n_VP (pc := 62) (p1.base (show i < 2 ^ 31 by omega)) bX11_base q_i_X11_base q_s_X11_base q_m_X11_223 dX11_principal_62 rfl rfl (by repeat (first | assumption | exact hset_eq _ _ _ | (apply Lay.hd; assumption) | rw [hset_ne _ _ (by omega)])) rfl rfl (by exact Nat.le_of_ble_eq_true rfl) ⟨by decide, by decide⟩ ⟨rfl, rfl, Nat.zero_le _, Nat.zero_le _⟩ ?_
  refine n_icmp_ne (pc := 65) (tgt := 76) dX11_principal_65 (by decide) (by omega) (by omega) (fun c => ?_) (fun c => ?_)
  · refine kk h2 ?_
    obtain ⟨q1, q2, q0, q3, g2, q5, q6, q7⟩ := hU2
    refine ⟨q1, q2, q0, q3, g2, q5, q6, fun z => ?_⟩
    by_cases e2 : x = Rf i
    · exact absurd (((hR i hi).2 x hx).mpr e2) c
    · exact q7 (by omega)
  · obtain ⟨q1, q2, q0, ⟨g1, q3, q4⟩, g2, q5, q6, q7⟩ := hU2
    refine e_aload_n (pc := 68) dX11_principal_68 rfl rfl ?_
    refine e_get (pc := 69) fl_X11_71 dX11_principal_69 (by repeat (first | assumption | exact hset_eq _ _ _ | (apply Lay.hd; assumption) | rw [hset_ne _ _ (by omega)])) (by rfl) ?_
    refine e_iload_n (pc := 72) dX11_principal_72 rfl rfl ?_
    refine e_iload (pc := 73) dX11_principal_73 rfl ?_
    refine e_iastN (pc := 75) i dX11_principal_75 (by repeat (first | assumption | exact hset_eq _ _ _ | (apply Lay.hd; assumption) | rw [hset_ne _ _ (by omega)])) (by rfl) (by omega) (by first | decide | omega) ?_
    refine kk _ ⟨q1.row (isR_d 99 (by decide)) rfl (by decide) (by decide), q2.set (by decide), q0.keep (hset_ne _ _ (by omega)), ⟨g1, (hset_ne _ _ (by omega)).trans q3, q4⟩, _, hset_eq _ _ _, fun k hk2 => ?_, fun _ => ?_⟩
    · rw [pk_un (by omega)]; exact q6 k hk2
    · rw [pk_us, ((hR i hi).2 x hx).mp c]
theorem l_pn_x {i : Nat} {Pr : AH → Prop} (hk : Wok W) (hk2 : Wok W2) (he : W2.1 = W.1 ∧ W2.2.1 = W.2.1) (hu : u < W.1 ^ W.2.1) (hv : v < W.1 ^ W.2.1) (hLf : Tb W (fun x => mul W2 x v) Lf) (hR : Tb W (fun x => mul W2 u x) Rf) (hi : i < W.2.1)
    (kk : ∀ h, PrB hh h m W W2 s Lf Rf (i + 1) 0 0 → VV MX11_principal sz Pr h 82 [some (.ref m), some (.int (nI u)), some (.int (nI v)), some (.int (nI i)), none, none] []) :
    ∀ (t x : Nat), t = W.1 ^ W.2.1 - x → x ≤ W.1 ^ W.2.1 → ∀ h, PrB hh h m W W2 s Lf Rf i x x → VV MX11_principal sz Pr h 13 [some (.ref m), some (.int (nI u)), some (.int (nI v)), some (.int (nI i)), some (.int (nI x)), none] [] := by
  obtain ⟨b1, b2, b3, b4, b5⟩ := hk.b
  have pi := pow_q hk hi
  intro t
  induction t with
  | zero =>
    intro x e1 e2 h hU
    have hL := hU.1
    refine e_iload (pc := 13) dX11_principal_13 rfl ?_
    refine e_aload_n (pc := 15) dX11_principal_15 rfl rfl ?_
    refine e_get (pc := 16) fl_X11_112 dX11_principal_16 (by repeat (first | assumption | exact hset_eq _ _ _ | (apply Lay.hd; assumption) | rw [hset_ne _ _ (by omega)])) (by rfl) ?_
    refine n_icmp_ge (pc := 19) (tgt := 82) dX11_principal_19 (by decide) (by omega) (by omega) (fun hb_ => ?_) (fun c => absurd c (by omega))
    refine V.mask [true, true, true, true, false, false] ?_
    obtain ⟨q1, q2, q0, ⟨g1, q3, q4, q5⟩, g2, q6, q7, q8⟩ := hU
    refine kk h ⟨q1, q2, q0, ⟨g1, q3, fun k hk2 => ?_, fun z => absurd z (Nat.not_lt_zero _)⟩, g2, q6, fun k hk2 => ?_, fun z => absurd z (Nat.not_lt_zero _)⟩
    · by_cases e5 : k = i
      · subst e5; exact q5 (by have := (hLf k hi).1; omega)
      · exact q4 k (by omega)
    · by_cases e5 : k = i
      · subst e5; exact q8 (by have := (hR k hi).1; omega)
      · exact q7 k (by omega)
  | succ t ih =>
    intro x e1 e2 h hU
    have hx : x < W.1 ^ W.2.1 := by omega
    have ml := mul_lt2 hk2 he x v
    have hL := hU.1
    have hC := hU.2.2.1
    have nxt : ∀ h, PrB hh h m W W2 s Lf Rf i (x + 1) (x + 1) → VV MX11_principal sz Pr h 76 [some (.ref m), some (.int (nI u)), some (.int (nI v)), some (.int (nI i)), some (.int (nI x)), none] [] := fun h3 u3 => by
      refine n_inc (pc := 76) dX11_principal_76 rfl (by decide) ?_
      refine e_goto (pc := 79) (tgt := 13) dX11_principal_79 (by decide) ?_
      exact ih (x + 1) (by omega) (by omega) h3 u3
    refine e_iload (pc := 13) dX11_principal_13 rfl ?_
    refine e_aload_n (pc := 15) dX11_principal_15 rfl rfl ?_
    refine e_get (pc := 16) fl_X11_112 dX11_principal_16 (by repeat (first | assumption | exact hset_eq _ _ _ | (apply Lay.hd; assumption) | rw [hset_ne _ _ (by omega)])) (by rfl) ?_
    refine n_icmp_ge (pc := 19) (tgt := 82) dX11_principal_19 (by decide) (by omega) (by omega) (fun c => absurd c (by omega)) (fun hb_ => ?_)
    refine e_aload_n (pc := 22) dX11_principal_22 rfl rfl ?_
    refine e_aload_n (pc := 23) dX11_principal_23 rfl rfl ?_
    refine e_get (pc := 24) fl_X11_92 dX11_principal_24 (by repeat (first | assumption | exact hset_eq _ _ _ | (apply Lay.hd; assumption) | rw [hset_ne _ _ (by omega)])) (by rfl) ?_
    refine e_iload (pc := 27) dX11_principal_27 rfl ?_
    refine e_iload_n (pc := 29) dX11_principal_29 rfl rfl ?_
    refine n_V (pc := 30) (c_timesK hL (hC.i hk2) hk2 he (show x < 2 ^ 31 by omega) (show v < 2 ^ 31 by omega) (by omega)) bX11_timesBy q_i_X11_timesBy q_s_X11_timesBy q_m_X11_123 dX11_principal_30 rfl rfl (by repeat (first | assumption | exact hset_eq _ _ _ | (apply Lay.hd; assumption) | rw [hset_ne _ _ (by omega)])) rfl rfl (by exact Nat.le_of_ble_eq_true rfl) ⟨by decide, by decide⟩ ⟨rfl, rfl, Nat.zero_le _, Nat.zero_le _⟩ (fun z h2 hp => ?_)
    obtain ⟨rfl, p1, p2⟩ := hp
    have hU2 := hU.fd p1 p2
    refine e_aload_n (pc := 33) dX11_principal_33 rfl rfl ?_
    refine e_iload_n (pc := 34) dX11_principal_34 rfl rfl ?_
    refine n_VP (pc := 35) (p1.base (show i < 2 ^ 31 by omega)) bX11_base q_i_X11_base q_s_X11_base q_m_X11_223 dX11_principal_35 rfl rfl (by repeat (first | assumption | exact hset_eq _ _ _ | (apply Lay.hd; assumption) | rw [hset_ne _ _ (by omega)])) rfl rfl (by exact Nat.le_of_ble_eq_true rfl) ⟨by decide, by decide⟩ ⟨rfl, rfl, Nat.zero_le _, Nat.zero_le _⟩ ?_
    refine n_icmp_ne (pc := 38) (tgt := 49) dX11_principal_38 (by decide) (by omega) (by omega) (fun c => ?_) (fun c => ?_)
    · refine l_pn_r hk hk2 he hu hR hi hx ?_ nxt
      obtain ⟨q1, q2, q0, ⟨g1, q3, q4, q5⟩, q6⟩ := hU2
      refine ⟨q1, q2, q0, ⟨g1, q3, q4, fun z => ?_⟩, q6⟩
      by_cases e2 : x = Lf i
      · exact absurd (((hLf i hi).2 x hx).mpr e2) c
      · exact q5 (by omega)
    · obtain ⟨q1, q2, q0, ⟨g1, q3, q4, q5⟩, g2, q6, q7⟩ := hU2
      refine e_aload_n (pc := 41) dX11_principal_41 rfl rfl ?_
      refine e_get (pc := 42) fl_X11_68 dX11_principal_42 (by repeat (first | assumption | exact hset_eq _ _ _ | (apply Lay.hd; assumption) | rw [hset_ne _ _ (by omega)])) (by rfl) ?_
      refine e_iload_n (pc := 45) dX11_principal_45 rfl rfl ?_
      refine e_iload (pc := 46) dX11_principal_46 rfl ?_
      refine e_iastN (pc := 48) i dX11_principal_48 (by repeat (first | assumption | exact hset_eq _ _ _ | (apply Lay.hd; assumption) | rw [hset_ne _ _ (by omega)])) (by rfl) (by omega) (by first | decide | omega) ?_
      refine l_pn_r hk hk2 he hu hR hi hx ⟨q1.row (isR_d 98 (by decide)) rfl (by decide) (by decide), q2.set (by decide), q0.keep (hset_ne _ _ (by omega)), ⟨_, hset_eq _ _ _, fun k hk2 => ?_, fun _ => ?_⟩, g2, (hset_ne _ _ (by omega)).trans q6, q7⟩ nxt
      · rw [pk_un (by omega)]; exact q4 k hk2
      · rw [pk_us, ((hLf i hi).2 x hx).mp c]
theorem l_pn_i {Pr : AH → Prop} (hk : Wok W) (hk2 : Wok W2) (he : W2.1 = W.1 ∧ W2.2.1 = W.2.1) (hu : u < W.1 ^ W.2.1) (hv : v < W.1 ^ W.2.1) (hLf : Tb W (fun x => mul W2 x v) Lf) (hR : Tb W (fun x => mul W2 u x) Rf)
    (kk : ∀ h, PrB hh h m W W2 s Lf Rf W.2.1 0 0 → VV MX11_principal sz Pr h 88 [some (.ref m), some (.int (nI u)), some (.int (nI v)), none, none, none] []) :
    ∀ (t i : Nat), t = W.2.1 - i → i ≤ W.2.1 → ∀ h, PrB hh h m W W2 s Lf Rf i 0 0 → VV MX11_principal sz Pr h 2 [some (.ref m), some (.int (nI u)), some (.int (nI v)), some (.int (nI i)), none, none] [] := by
  obtain ⟨b1, b2, b3, b4, b5⟩ := hk.b
  intro t
  induction t with
  | zero =>
    intro i e1 e2 h hU
    have hL := hU.1
    have e' : i = W.2.1 := by omega
    refine e_iload_n (pc := 2) dX11_principal_2 rfl rfl ?_
    refine e_aload_n (pc := 3) dX11_principal_3 rfl rfl ?_
    refine e_get (pc := 4) fl_X11_109 dX11_principal_4 (by repeat (first | assumption | exact hset_eq _ _ _ | (apply Lay.hd; assumption) | rw [hset_ne _ _ (by omega)])) (by rfl) ?_
    refine n_icmp_ge (pc := 7) (tgt := 88) dX11_principal_7 (by decide) (by omega) (by omega) (fun hb_ => ?_) (fun c => absurd c (by omega))
    refine V.mask [true, true, true, false, false, false] ?_
    exact kk h (by rw [← e']; exact hU)
  | succ t ih =>
    intro i e1 e2 h hU
    have hL := hU.1
    refine e_iload_n (pc := 2) dX11_principal_2 rfl rfl ?_
    refine e_aload_n (pc := 3) dX11_principal_3 rfl rfl ?_
    refine e_get (pc := 4) fl_X11_109 dX11_principal_4 (by repeat (first | assumption | exact hset_eq _ _ _ | (apply Lay.hd; assumption) | rw [hset_ne _ _ (by omega)])) (by rfl) ?_
    refine n_icmp_ge (pc := 7) (tgt := 88) dX11_principal_7 (by decide) (by omega) (by omega) (fun c => absurd c (by omega)) (fun hb_ => ?_)
    refine n_iconst (pc := 10) 0 dX11_principal_10 (by decide) ?_
    refine e_istore (pc := 11) dX11_principal_11 (by decide) ?_
    refine l_pn_x hk hk2 he hu hv hLf hR (show i < W.2.1 by omega) (fun h2 u2 => ?_) (W.1 ^ W.2.1) 0 rfl (Nat.zero_le _) h hU
    refine n_inc (pc := 82) dX11_principal_82 rfl (by decide) ?_
    refine e_goto (pc := 85) (tgt := 2) dX11_principal_85 (by decide) ?_
    exact ih (i + 1) (by omega) (by omega) h2 u2
/-- the cube so far -/
def PrM (h : AH) (m : Nat) (W W2 : Wd) (Lf Rf : Nat → Nat) (i j k : Nat) : Prop := ∃ g, h (m + 103) = some (aI 125 g) ∧ ∀ a b c, a < W.2.1 → b < W.2.1 → c < W.2.1 → (a < i ∨ a = i ∧ (b < j ∨ b = j ∧ c < k)) → g (25 * a + 5 * b + c) = nI (dg W.1 (mul W2 (Lf a) (Rf b)) c)
theorem PrM.step {h : AH} {i j k i2 j2 k2 : Nat} (q : PrM h m W W2 Lf Rf i j k) (e : ∀ a b c, a < W.2.1 → b < W.2.1 → c < W.2.1 → (a < i2 ∨ a = i2 ∧ (b < j2 ∨ b = j2 ∧ c < k2)) → (a < i ∨ a = i ∧ (b < j ∨ b = j ∧ c < k))) : PrM h m W W2 Lf Rf i2 j2 k2 := by
  obtain ⟨g, g1, g2⟩ := q
  exact ⟨g, g1, fun a b c ha hb hc hx => g2 a b c ha hb hc (e a b c ha hb hc hx)⟩
theorem PrM.keep {h h2 : AH} {i j k : Nat} (q : PrM h m W W2 Lf Rf i j k) (e : h2 (m + 103) = h (m + 103)) : PrM h2 m W W2 Lf Rf i j k := by
  obtain ⟨g, g1, g2⟩ := q
  exact ⟨g, e.trans g1, g2⟩
def PrR (h : AH) (m : Nat) (W : Wd) (Lf Rf : Nat → Nat) : Prop := (∃ g, h (m + 98) = some (aI 5 g) ∧ ∀ k, k < W.2.1 → g k = nI (Lf k)) ∧ ∃ g, h (m + 99) = some (aI 5 g) ∧ ∀ k, k < W.2.1 → g k = nI (Rf k)
theorem PrR.keep {h h2 : AH} (q : PrR h m W Lf Rf) (c : ∀ a, a = m + 98 ∨ a = m + 99 → h2 a = h a) : PrR h2 m W Lf Rf := by
  obtain ⟨⟨g, q1, q2⟩, g2, q3, q4⟩ := q
  exact ⟨⟨g, (c _ (Or.inl rfl)).trans q1, q2⟩, g2, (c _ (Or.inr rfl)).trans q3, q4⟩
theorem l_pn_k {i j w : Nat} {Pr : AH → Prop} {h0 : AH} (hk : Wok W) (hi : i < W.2.1) (hj : j < W.2.1) (hw : w = mul W2 (Lf i) (Rf j)) (hz : ∃ g, h0 (m + 6) = some (aI 5 g) ∧ ∀ k, k < 5 → g k = nI (dgn W.1 W.2.1 w k))
    (kk : ∀ h, Lay h m W s → (∀ b, b ≠ m + 103 → h b = h0 b) → PrM h m W W2 Lf Rf i (j + 1) 0 → VV MX11_principal sz Pr h 181 [some (.ref m), some (.int (nI u)), some (.int (nI v)), some (.int (nI i)), some (.int (nI j)), none] []) :
    ∀ (t k : Nat), t = W.2.1 - k → k ≤ W.2.1 → ∀ h, Lay h m W s → (∀ b, b ≠ m + 103 → h b = h0 b) → PrM h m W W2 Lf Rf i j k → VV MX11_principal sz Pr h 142 [some (.ref m), some (.int (nI u)), some (.int (nI v)), some (.int (nI i)), some (.int (nI j)), some (.int (nI k))] [] := by
  obtain ⟨b1, b2, b3, b4, b5⟩ := hk.b
  obtain ⟨gz, z1, z2⟩ := hz
  intro t
  induction t with
  | zero =>
    intro k e1 e2 h l1' fr hM
    refine e_iload (pc := 142) dX11_principal_142 rfl ?_
    refine e_aload_n (pc := 144) dX11_principal_144 rfl rfl ?_
    refine e_get (pc := 145) fl_X11_109 dX11_principal_145 (by repeat (first | assumption | exact hset_eq _ _ _ | (apply Lay.hd; assumption) | rw [hset_ne _ _ (by omega)])) (by rfl) ?_
    refine n_icmp_ge (pc := 148) (tgt := 181) dX11_principal_148 (by decide) (by omega) (by omega) (fun hb_ => ?_) (fun c => absurd c (by omega))
    refine V.mask [true, true, true, true, true, false] ?_
    exact kk h l1' fr (hM.step (fun a b c ha hb hc hx => by omega))
  | succ t ih =>
    intro k e1 e2 h l1' fr hM
    have z1' : h (m + 6) = some (aI 5 gz) := (fr _ (by omega)).trans z1
    have z := z2 k (by omega)
    rw [show dgn W.1 W.2.1 w k = dg W.1 w k from if_pos (by omega)] at z
    obtain ⟨g, g1, g2⟩ := hM
    refine e_iload (pc := 142) dX11_principal_142 rfl ?_
    refine e_aload_n (pc := 144) dX11_principal_144 rfl rfl ?_
    refine e_get (pc := 145) fl_X11_109 dX11_principal_145 (by repeat (first | assumption | exact hset_eq _ _ _ | (apply Lay.hd; assumption) | rw [hset_ne _ _ (by omega)])) (by rfl) ?_
    refine n_icmp_ge (pc := 148) (tgt := 181) dX11_principal_148 (by decide) (by omega) (by omega) (fun c => absurd c (by omega)) (fun hb_ => ?_)
    refine e_aload_n (pc := 151) dX11_principal_151 rfl rfl ?_
    refine e_get (pc := 152) fl_X11_83 dX11_principal_152 (by repeat (first | assumption | exact hset_eq _ _ _ | (apply Lay.hd; assumption) | rw [hset_ne _ _ (by omega)])) (by rfl) ?_
    refine n_bipush (pc := 155) 25 dX11_principal_155 (by decide) ?_
    refine e_iload_n (pc := 157) dX11_principal_157 rfl rfl ?_
    refine n_imul (pc := 158) dX11_principal_158 ?_
    refine n_iconst (pc := 159) 5 dX11_principal_159 (by decide) ?_
    refine e_iload (pc := 160) dX11_principal_160 rfl ?_
    refine n_imul (pc := 162) dX11_principal_162 ?_
    refine n_iadd (pc := 163) dX11_principal_163 ?_
    refine e_iload (pc := 164) dX11_principal_164 rfl ?_
    refine n_iadd (pc := 166) dX11_principal_166 ?_
    refine e_aload_n (pc := 167) dX11_principal_167 rfl rfl ?_
    refine e_get (pc := 168) fl_X11_25 dX11_principal_168 (by repeat (first | assumption | exact hset_eq _ _ _ | (apply Lay.hd; assumption) | rw [hset_ne _ _ (by omega)])) (by rfl) ?_
    refine e_iload (pc := 171) dX11_principal_171 rfl ?_
    refine e_ialdN (pc := 173) k dX11_principal_173 (by repeat (first | assumption | exact hset_eq _ _ _ | (apply Lay.hd; assumption) | rw [hset_ne _ _ (by omega)])) (by rfl) (by omega) (by first | decide | omega) ?_
    rw [z]
    refine e_iastN (pc := 174) (25 * i + 5 * j + k) dX11_principal_174 (by repeat (first | assumption | exact hset_eq _ _ _ | (apply Lay.hd; assumption) | rw [hset_ne _ _ (by omega)])) (by rfl) (by omega) (by first | decide | omega) ?_
    refine n_inc (pc := 175) dX11_principal_175 rfl (by decide) ?_
    refine e_goto (pc := 178) (tgt := 142) dX11_principal_178 (by decide) ?_
    refine ih (k + 1) (by omega) (by omega) _ (l1'.row (isR_d 103 (by decide)) rfl (by decide) (by decide)) (fun b q => (hset_ne _ _ q).trans (fr b q)) ⟨_, hset_eq _ _ _, fun a b c ha hb hc hx => ?_⟩
    by_cases e : a = i ∧ b = j ∧ c = k
    · obtain ⟨rfl, rfl, rfl⟩ := e
      rw [pk_us, hw]
    · rw [pk_un (by omega)]
      exact g2 a b c ha hb hc (by omega)
theorem l_pn_j {i : Nat} {Pr : AH → Prop} (hk : Wok W) (hk2 : Wok W2) (he : W2.1 = W.1 ∧ W2.2.1 = W.2.1) (hLf : Tb W (fun x => mul W2 x v) Lf) (hRf : Tb W (fun x => mul W2 u x) Rf) (hi : i < W.2.1)
    (kk : ∀ h, Lay h m W s → FmP m hh h → CuA h (m + 105) W2 → PrR h m W Lf Rf → PrM h m W W2 Lf Rf (i + 1) 0 0 → VV MX11_principal sz Pr h 187 [some (.ref m), some (.int (nI u)), some (.int (nI v)), some (.int (nI i)), none, none] []) :
    ∀ (t j : Nat), t = W.2.1 - j → j ≤ W.2.1 → ∀ h, Lay h m W s → FmP m hh h → CuA h (m + 105) W2 → PrR h m W Lf Rf → PrM h m W W2 Lf Rf i j 0 → VV MX11_principal sz Pr h 101 [some (.ref m), some (.int (nI u)), some (.int (nI v)), some (.int (nI i)), some (.int (nI j)), none] [] := by
  obtain ⟨b1, b2, b3, b4, b5⟩ := hk.b
  intro t
  induction t with
  | zero =>
    intro j e1 e2 h hL fm hC hR hM
    refine e_iload (pc := 101) dX11_principal_101 rfl ?_
    refine e_aload_n (pc := 103) dX11_principal_103 rfl rfl ?_
    refine e_get (pc := 104) fl_X11_109 dX11_principal_104 (by repeat (first | assumption | exact hset_eq _ _ _ | (apply Lay.hd; assumption) | rw [hset_ne _ _ (by omega)])) (by rfl) ?_
    refine n_icmp_ge (pc := 107) (tgt := 187) dX11_principal_107 (by decide) (by omega) (by omega) (fun hb_ => ?_) (fun c => absurd c (by omega))
    refine V.mask [true, true, true, true, false, false] ?_
    exact kk h hL fm hC hR (hM.step (fun a b c ha hb hc hx => by omega))
  | succ t ih =>
    intro j e1 e2 h hL fm hC hR hM
    have hj : j < W.2.1 := by omega
    obtain ⟨⟨gl, r1, r2⟩, gr, r3, r4⟩ := id hR
    have z1 := r2 i hi
    have z2 := r4 j hj
    have q1 := (hLf i hi).1
    have q2 := (hRf j hj).1
    have ml := mul_lt2 hk2 he (Lf i) (Rf j)
    refine e_iload (pc := 101) dX11_principal_101 rfl ?_
    refine e_aload_n (pc := 103) dX11_principal_103 rfl rfl ?_
    refine e_get (pc := 104) fl_X11_109 dX11_principal_104 (by repeat (first | assumption | exact hset_eq _ _ _ | (apply Lay.hd; assumption) | rw [hset_ne _ _ (by omega)])) (by rfl) ?_
    refine n_icmp_ge (pc := 107) (tgt := 187) dX11_principal_107 (by decide) (by omega) (by omega) (fun c => absurd c (by omega)) (fun hb_ => ?_)
    refine e_aload_n (pc := 110) dX11_principal_110 rfl rfl ?_
    refine e_aload_n (pc := 111) dX11_principal_111 rfl rfl ?_
    refine e_aload_n (pc := 112) dX11_principal_112 rfl rfl ?_
    refine e_get (pc := 113) fl_X11_92 dX11_principal_113 (by repeat (first | assumption | exact hset_eq _ _ _ | (apply Lay.hd; assumption) | rw [hset_ne _ _ (by omega)])) (by rfl) ?_
    refine e_aload_n (pc := 116) dX11_principal_116 rfl rfl ?_
    refine e_get (pc := 117) fl_X11_68 dX11_principal_117 (by repeat (first | assumption | exact hset_eq _ _ _ | (apply Lay.hd; assumption) | rw [hset_ne _ _ (by omega)])) (by rfl) ?_
    refine e_iload_n (pc := 120) dX11_principal_120 rfl rfl ?_
    refine e_ialdN (pc := 121) i dX11_principal_121 (by repeat (first | assumption | exact hset_eq _ _ _ | (apply Lay.hd; assumption) | rw [hset_ne _ _ (by omega)])) (by rfl) (by omega) (by first | decide | omega) ?_
    rw [z1]
    refine e_aload_n (pc := 122) dX11_principal_122 rfl rfl ?_
    refine e_get (pc := 123) fl_X11_71 dX11_principal_123 (by repeat (first | assumption | exact hset_eq _ _ _ | (apply Lay.hd; assumption) | rw [hset_ne _ _ (by omega)])) (by rfl) ?_
    refine e_iload (pc := 126) dX11_principal_126 rfl ?_
    refine e_ialdN (pc := 128) j dX11_principal_128 (by repeat (first | assumption | exact hset_eq _ _ _ | (apply Lay.hd; assumption) | rw [hset_ne _ _ (by omega)])) (by rfl) (by omega) (by first | decide | omega) ?_
    rw [z2]
    refine n_V (pc := 129) (c_timesK hL (hC.i hk2) hk2 he (show Lf i < 2 ^ 31 by omega) (show Rf j < 2 ^ 31 by omega) (by omega)) bX11_timesBy q_i_X11_timesBy q_s_X11_timesBy q_m_X11_123 dX11_principal_129 rfl rfl (by repeat (first | assumption | exact hset_eq _ _ _ | (apply Lay.hd; assumption) | rw [hset_ne _ _ (by omega)])) rfl rfl (by exact Nat.le_of_ble_eq_true rfl) ⟨by decide, by decide⟩ ⟨rfl, rfl, Nat.zero_le _, Nat.zero_le _⟩ (fun z h2 hp => ?_)
    obtain ⟨rfl, p1, p2⟩ := hp
    obtain ⟨g6, r6⟩ := p1.2.2.row (k := 6) (isR_d _ (by decide))
    refine e_aload_n (pc := 132) dX11_principal_132 rfl rfl ?_
    refine e_get (pc := 133) fl_X11_25 dX11_principal_133 (by repeat (first | assumption | exact hset_eq _ _ _ | (apply Lay.hd; assumption) | rw [hset_ne _ _ (by omega)])) (by rfl) ?_
    refine n_Vv (pc := 136) (c_X11_digits p1.1 ⟨b1, b2⟩ b4 (show mul W2 (Lf i) (Rf j) < 2 ^ 31 by omega) (by omega) r6) bX11_digits q_i_X11_digits q_s_X11_digits q_m_X11_115 dX11_principal_136 rfl rfl (by repeat (first | assumption | exact hset_eq _ _ _ | (apply Lay.hd; assumption) | rw [hset_ne _ _ (by omega)])) rfl rfl (by exact Nat.le_of_ble_eq_true rfl) ⟨by decide, by decide⟩ ⟨rfl, rfl, Nat.zero_le _, Nat.zero_le _⟩ (fun h3 hp => ?_)
    obtain ⟨gz, rfl, y2⟩ := hp
    have l3 : Lay (hset h2 (m + 6) (aI 5 gz)) m W s := p1.row (isR_d 6 (by decide)) rfl (by decide) (by decide)
    have f3 : FmP m hh (hset h2 (m + 6) (aI 5 gz)) := (fm.tr p2.p).set (by decide)
    have k3 : ∀ a, a ≠ m + 4 → a ≠ m + 5 → a ≠ m + 6 → hset h2 (m + 6) (aI 5 gz) a = h a := fun a a1 a2 a3 => (hset_ne _ _ a3).trans (p2 a a1 a2 a3)
    have C3 : CuA (hset h2 (m + 6) (aI 5 gz)) (m + 105) W2 := hC.keep (k3 _ (by omega) (by omega) (by omega))
    have R3 : PrR (hset h2 (m + 6) (aI 5 gz)) m W Lf Rf := hR.keep (fun a ha => k3 a (by omega) (by omega) (by omega))
    have M3' : PrM (hset h2 (m + 6) (aI 5 gz)) m W W2 Lf Rf i j 0 := hM.keep (k3 _ (by omega) (by omega) (by omega))
    have z6 : ∃ g, hset h2 (m + 6) (aI 5 gz) (m + 6) = some (aI 5 g) ∧ ∀ k, k < 5 → g k = nI (dgn W.1 W.2.1 (mul W2 (Lf i) (Rf j)) k) := ⟨gz, hset_eq _ _ _, y2⟩
    generalize hset h2 (m + 6) (aI 5 gz) = h3 at l3 f3 C3 R3 M3' z6 ⊢
    refine n_iconst (pc := 139) 0 dX11_principal_139 (by decide) ?_
    refine e_istore (pc := 140) dX11_principal_140 (by decide) ?_
    refine l_pn_k hk hi hj rfl z6 (fun h4 l4 fr4 M4 => ?_) W.2.1 0 rfl (Nat.zero_le _) h3 l3 (fun _ _ => rfl) M3'
    refine n_inc (pc := 181) dX11_principal_181 rfl (by decide) ?_
    refine e_goto (pc := 184) (tgt := 101) dX11_principal_184 (by decide) ?_
    exact ih (j + 1) (by omega) (by omega) h4 l4 (fun b hb => (fr4 b (by omega)).trans (f3 b hb)) (C3.keep (fr4 _ (by omega))) (R3.keep (fun a ha => fr4 a (by omega))) M4
theorem l_pn_m (hk : Wok W) (hk2 : Wok W2) (he : W2.1 = W.1 ∧ W2.2.1 = W.2.1) (hLf : Tb W (fun x => mul W2 x v) Lf) (hRf : Tb W (fun x => mul W2 u x) Rf) :
    ∀ (t i : Nat), t = W.2.1 - i → i ≤ W.2.1 → ∀ h, Lay h m W s → FmP m hh h → CuA h (m + 105) W2 → PrR h m W Lf Rf → PrM h m W W2 Lf Rf i 0 0 → VV MX11_principal sz (fun h' => Lay h' m W s ∧ FmP m hh h' ∧ CuI h' (m + 103) (pri W W2 Lf Rf)) h 90 [some (.ref m), some (.int (nI u)), some (.int (nI v)), some (.int (nI i)), none, none] [] := by
  obtain ⟨b1, b2, b3, b4, b5⟩ := hk.b
  intro t
  induction t with
  | zero =>
    intro i e1 e2 h hL fm hC hR hM
    refine e_iload_n (pc := 90) dX11_principal_90 rfl rfl ?_
    refine e_aload_n (pc := 91) dX11_principal_91 rfl rfl ?_
    refine e_get (pc := 92) fl_X11_109 dX11_principal_92 (by repeat (first | assumption | exact hset_eq _ _ _ | (apply Lay.hd; assumption) | rw [hset_ne _ _ (by omega)])) (by rfl) ?_
    refine n_icmp_ge (pc := 95) (tgt := 193) dX11_principal_95 (by decide) (by omega) (by omega) (fun hb_ => ?_) (fun c => absurd c (by omega))
    obtain ⟨g, g1, g2⟩ := hM
    exact n_vret (pc := 193) dX11_principal_193 rfl ⟨hL, fm, g, g1, fun a b c (ha : a < W.2.1) (hb : b < W.2.1) (hc : c < W.2.1) => by rw [g2 a b c ha hb hc (by omega), pri_cell b4 ha hb hc]⟩
  | succ t ih =>
    intro i e1 e2 h hL fm hC hR hM
    refine e_iload_n (pc := 90) dX11_principal_90 rfl rfl ?_
    refine e_aload_n (pc := 91) dX11_principal_91 rfl rfl ?_
    refine e_get (pc := 92) fl_X11_109 dX11_principal_92 (by repeat (first | assumption | exact hset_eq _ _ _ | (apply Lay.hd; assumption) | rw [hset_ne _ _ (by omega)])) (by rfl) ?_
    refine n_icmp_ge (pc := 95) (tgt := 193) dX11_principal_95 (by decide) (by omega) (by omega) (fun c => absurd c (by omega)) (fun hb_ => ?_)
    refine n_iconst (pc := 98) 0 dX11_principal_98 (by decide) ?_
    refine e_istore (pc := 99) dX11_principal_99 (by decide) ?_
    refine l_pn_j hk hk2 he hLf hRf (show i < W.2.1 by omega) (fun h2 l2' f2 c2 r2 m2 => ?_) W.2.1 0 rfl (Nat.zero_le _) h hL fm hC hR hM
    refine n_inc (pc := 187) dX11_principal_187 rfl (by decide) ?_
    refine e_goto (pc := 190) (tgt := 90) dX11_principal_190 (by decide) ?_
    exact ih (i + 1) (by omega) (by omega) h2 l2' f2 c2 r2 m2
theorem c_X11_principal {h : AH} (hL : Lay h m W s) (hk : Wok W) (hk2 : Wok W2) (he : W2.1 = W.1 ∧ W2.2.1 = W.2.1) (hC : CuA h (m + 105) W2) (hu : u < W.1 ^ W.2.1) (hv : v < W.1 ^ W.2.1) (hLf : Tb W (fun x => mul W2 x v) Lf) (hRf : Tb W (fun x => mul W2 u x) Rf) : CV yX11_principal MX11_principal [.ref m, .int (nI u), .int (nI v)] h (fun h' => Lay h' m W s ∧ FmP m h h' ∧ CuI h' (m + 103) (pri W W2 Lf Rf)) := by
  obtain ⟨g98, r98⟩ := hL.2.2.row (k := 98) (isR_d _ (by decide))
  obtain ⟨g99, r99⟩ := hL.2.2.row (k := 99) (isR_d _ (by decide))
  refine CV.ofV (by decide) rfl rfl (by simp [Value.category]) (by exact Nat.le_of_ble_eq_true rfl) (fun sz => ?_)
  refine n_iconst (pc := 0) 0 dX11_principal_0 (by decide) ?_
  refine e_istore_n (pc := 1) dX11_principal_1 rfl (by decide) ?_
  refine l_pn_i (hh := h) hk hk2 he hu hv hLf hRf (fun h2 u2 => ?_) W.2.1 0 rfl (Nat.zero_le _) h ⟨hL, FmP.rf _ _, hC, ⟨g98, r98, fun k q => absurd q (Nat.not_lt_zero k), fun q => absurd q (Nat.not_lt_zero _)⟩, g99, r99, fun k q => absurd q (Nat.not_lt_zero k), fun q => absurd q (Nat.not_lt_zero _)⟩
  obtain ⟨q1, q2, q0, ⟨g1, q3, q4, -⟩, g2, q5, q6, -⟩ := u2
  obtain ⟨g103, r103⟩ := q1.2.2.row (k := 103) (isR_d _ (by decide))
  refine n_iconst (pc := 88) 0 dX11_principal_88 (by decide) ?_
  refine e_istore_n (pc := 89) dX11_principal_89 rfl (by decide) ?_
  exact l_pn_m (hh := h) hk hk2 he hLf hRf W.2.1 0 rfl (Nat.zero_le _) h2 q1 q2 q0 ⟨⟨g1, q3, q4⟩, g2, q5, q6⟩ ⟨g103, r103, fun a b c ha hb hc hx => absurd hx (by omega)⟩
end PR
