/-! ===== the reference: whether maps carry one cube to another ===== -/
section MC
variable {m : Nat} {s : Ms} {W W2 : Wd} {sz : Nat} {hh : AH} {x : Sx}
theorem c_timesO {h : AH} {u v : Nat} (hL : Lay h m W s) (hc : CuA h (m + 103) W2) (hk2 : Wok W2) (he : W2.1 = W.1 ∧ W2.2.1 = W.2.1) (hu : u < 2 ^ 31) (hv : v < 2 ^ 31) : CI yX11_timesBy MX11_timesBy [.ref m, .ref (m + 103), .int (nI u), .int (nI v)] h (fun z h' => z = nI (mul W2 u v) ∧ Lay h' m W s ∧ FdM m h h') :=
  (c_X11_timesBy (W := W2) (q := W.1 ^ W.2.1) (s := s) (by rw [he.1, he.2]; exact hL.1) hL.2.2.m3 hc hk2 hu hv (by omega)).mono (fun z h' q => ⟨q.1, hL.fd q.2.1 q.2.2, q.2.2⟩)
theorem imn_ltM (hk : Wok W) (hx : SxOk x) {k i : Nat} (hk3 : k < 3) (hi : i < W.2.1) : imn x W k i < 2 ^ 31 := by
  obtain ⟨b1, b2, b3, b4, b5⟩ := hk.b
  have pi := pow_q hk hi
  unfold imn
  by_cases c : x.im (5 * k + i) = -1
  · rw [if_pos c]; omega
  · rw [if_neg c]
    rcases hx.2.2.1 (5 * k + i) (by omega) with e | ⟨v, v1, v2⟩
    · exact absurd e c
    · rw [v2, cl_nI (by omega)]; omega
/-- the three rows of images, up to i -/
def Im3 (h : AH) (m : Nat) (W : Wd) (x : Sx) (i : Nat) : Prop := ∀ k, k < 3 → ∃ g, h (m + 100 + k) = some (aI 5 g) ∧ ∀ j, j < i → g j = nI (imn x W k j)
theorem Im3.keep {h h2 : AH} {i : Nat} (q : Im3 h m W x i) (e : ∀ a, m + 100 ≤ a → a < m + 103 → h2 a = h a) : Im3 h2 m W x i := fun k hk => by
  obtain ⟨g, g1, g2⟩ := q k hk
  exact ⟨g, (e _ (by omega) (by omega)).trans g1, g2⟩
theorem l_mca_1 {a b : Int32} {g : Nat → Int32} {Pr : Int32 → AH → Prop} (hk : Wok W) (hx : SxOk x) (hg : WR g x)
    (kf : ∀ h, Lay h m W s → FmB m hh h → ¬ ImOk x W → Pr (-2) h)
    (kk : ∀ h, Lay h m W s → FmB m hh h → h (m + 103) = hh (m + 103) → ImOk x W → Im3 h m W x W.2.1 → VI MX11_carry sz Pr h 116 [some (.ref m), some (.int a), some (.int b), none, none] []) (hw : hh (m + 1) = some (aI 6070 g)) :
    ∀ (t i : Nat), t = W.2.1 - i → i ≤ W.2.1 → ∀ h, Lay h m W s → FmB m hh h → h (m + 103) = hh (m + 103) → (∀ k j, k < 3 → j < i → imn x W k j < W.1 ^ W.2.1) → Im3 h m W x i → VI MX11_carry sz Pr h 24 [some (.ref m), some (.int a), some (.int b), some (.int (nI i)), none] [] := by
  obtain ⟨b1, b2, b3, b4, b5⟩ := hk.b
  intro t
  induction t with
  | zero =>
    intro i e1 e2 h hL fm ho h0 hI
    have e' : i = W.2.1 := by omega
    subst e'
    refine e_iload_n (pc := 24) dX11_carry_24 rfl rfl ?_
    refine e_aload_n (pc := 25) dX11_carry_25 rfl rfl ?_
    refine e_get (pc := 26) fl_X11_109 dX11_carry_26 (by repeat (first | assumption | exact hset_eq _ _ _ | (apply Lay.hd; assumption) | rw [hset_ne _ _ (by omega)])) (by rfl) ?_
    refine n_icmp_ge (pc := 29) (tgt := 116) dX11_carry_29 (by decide) (by omega) (by omega) (fun hb_ => ?_) (fun c => absurd c (by omega))
    refine V.mask [true, true, true, false, false] ?_
    exact kk h hL fm ho (fun k j hk3 hj => h0 k j hk3 hj) hI
  | succ t ih =>
    intro i e1 e2 h hL fm ho h0 hI
    have no : ∀ k, k < 3 → ¬ imn x W k i < W.1 ^ W.2.1 → ∀ h2, Lay h2 m W s → FmB m hh h2 → VI MX11_carry sz Pr h2 107 [some (.ref m), some (.int a), some (.int b), some (.int (nI i)), none] [] := fun k hk3 hn h2 l2 f2 => by
      refine e_bipush (pc := 107) (v := -2) dX11_carry_107 (by decide) ?_
      exact n_iret (pc := 109) dX11_carry_109 rfl (kf h2 l2 f2 (fun q => hn (q k i hk3 (by omega))))
    have i0 := imn_ltM hk hx (k := 0) (by decide) (show i < W.2.1 by omega)
    have i1 := imn_ltM hk hx (k := 1) (by decide) (show i < W.2.1 by omega)
    have i2 := imn_ltM hk hx (k := 2) (by decide) (show i < W.2.1 by omega)
    obtain ⟨g0, p0, q0⟩ := hI 0 (by decide)
    obtain ⟨g1, p1, q1⟩ := hI 1 (by decide)
    obtain ⟨g2, p2, q2⟩ := hI 2 (by decide)
    have p0 : h (m + 100) = some (aI 5 g0) := p0
    have p1 : h (m + 101) = some (aI 5 g1) := p1
    have p2 : h (m + 102) = some (aI 5 g2) := p2
    have w0 := (fm (m + 1) (by omega)).trans hw
    refine e_iload_n (pc := 24) dX11_carry_24 rfl rfl ?_
    refine e_aload_n (pc := 25) dX11_carry_25 rfl rfl ?_
    refine e_get (pc := 26) fl_X11_109 dX11_carry_26 (by repeat (first | assumption | exact hset_eq _ _ _ | (apply Lay.hd; assumption) | rw [hset_ne _ _ (by omega)])) (by rfl) ?_
    refine n_icmp_ge (pc := 29) (tgt := 116) dX11_carry_29 (by decide) (by omega) (by omega) (fun c => absurd c (by omega)) (fun hb_ => ?_)
    refine e_aload_n (pc := 32) dX11_carry_32 rfl rfl ?_
    refine e_get (pc := 33) fl_X11_74 dX11_carry_33 (by repeat (first | assumption | exact hset_eq _ _ _ | (apply Lay.hd; assumption) | rw [hset_ne _ _ (by omega)])) (by rfl) ?_
    refine e_iload_n (pc := 36) dX11_carry_36 rfl rfl ?_
    refine e_aload_n (pc := 37) dX11_carry_37 rfl rfl ?_
    refine n_iconst (pc := 38) 0 dX11_carry_38 (by decide) ?_
    refine e_iload_n (pc := 39) dX11_carry_39 rfl rfl ?_
    refine n_VP (pc := 40) (c_X11_imageOf (x := x) (k := 0) hL w0 hg hx (by decide) (show i < 5 by omega)) bX11_imageOf q_i_X11_imageOf q_s_X11_imageOf q_m_X11_327 dX11_carry_40 rfl rfl (by repeat (first | assumption | exact hset_eq _ _ _ | (apply Lay.hd; assumption) | rw [hset_ne _ _ (by omega)])) rfl rfl (by exact Nat.le_of_ble_eq_true rfl) ⟨by decide, by decide⟩ ⟨rfl, rfl, Nat.zero_le _, Nat.zero_le _⟩ ?_
    refine e_iastN (pc := 43) i dX11_carry_43 (by repeat (first | assumption | exact hset_eq _ _ _ | (apply Lay.hd; assumption) | rw [hset_ne _ _ (by omega)])) (by rfl) (by omega) (by first | decide | omega) ?_
    have hL1 : Lay (hset h (m + 100) (aI 5 (upd g0 i (nI (imn x W 0 i))))) m W s := hL.row (isR_d 100 (by decide)) rfl (by decide) (by decide)
    have f1 : FmB m hh (hset h (m + 100) (aI 5 (upd g0 i (nI (imn x W 0 i))))) := fm.set (by decide)
    have u0 : hset h (m + 100) (aI 5 (upd g0 i (nI (imn x W 0 i)))) (m + 100) = some (aI 5 (upd g0 i (nI (imn x W 0 i)))) := hset_eq _ _ _
    have u1 : hset h (m + 100) (aI 5 (upd g0 i (nI (imn x W 0 i)))) (m + 101) = some (aI 5 g1) := (hset_ne _ _ (by omega)).trans p1
    have u2 : hset h (m + 100) (aI 5 (upd g0 i (nI (imn x W 0 i)))) (m + 102) = some (aI 5 g2) := (hset_ne _ _ (by omega)).trans p2
    have u3 : hset h (m + 100) (aI 5 (upd g0 i (nI (imn x W 0 i)))) (m + 103) = hh (m + 103) := (hset_ne _ _ (by omega)).trans ho
    generalize hset h (m + 100) (aI 5 (upd g0 i (nI (imn x W 0 i)))) = h1 at hL1 f1 u0 u1 u2 u3 ⊢
    have w1 := (f1 (m + 1) (by omega)).trans hw
    refine e_aload_n (pc := 44) dX11_carry_44 rfl rfl ?_
    refine e_get (pc := 45) fl_X11_77 dX11_carry_45 (by repeat (first | assumption | exact hset_eq _ _ _ | (apply Lay.hd; assumption) | rw [hset_ne _ _ (by omega)])) (by rfl) ?_
    refine e_iload_n (pc := 48) dX11_carry_48 rfl rfl ?_
    refine e_aload_n (pc := 49) dX11_carry_49 rfl rfl ?_
    refine n_iconst (pc := 50) 1 dX11_carry_50 (by decide) ?_
    refine e_iload_n (pc := 51) dX11_carry_51 rfl rfl ?_
    refine n_VP (pc := 52) (c_X11_imageOf (x := x) (k := 1) hL1 w1 hg hx (by decide) (show i < 5 by omega)) bX11_imageOf q_i_X11_imageOf q_s_X11_imageOf q_m_X11_327 dX11_carry_52 rfl rfl (by repeat (first | assumption | exact hset_eq _ _ _ | (apply Lay.hd; assumption) | rw [hset_ne _ _ (by omega)])) rfl rfl (by exact Nat.le_of_ble_eq_true rfl) ⟨by decide, by decide⟩ ⟨rfl, rfl, Nat.zero_le _, Nat.zero_le _⟩ ?_
    refine e_iastN (pc := 55) i dX11_carry_55 (by repeat (first | assumption | exact hset_eq _ _ _ | (apply Lay.hd; assumption) | rw [hset_ne _ _ (by omega)])) (by rfl) (by omega) (by first | decide | omega) ?_
    have hL2 : Lay (hset h1 (m + 101) (aI 5 (upd g1 i (nI (imn x W 1 i))))) m W s := hL1.row (isR_d 101 (by decide)) rfl (by decide) (by decide)
    have f2 : FmB m hh (hset h1 (m + 101) (aI 5 (upd g1 i (nI (imn x W 1 i))))) := f1.set (by decide)
    have v0 : hset h1 (m + 101) (aI 5 (upd g1 i (nI (imn x W 1 i)))) (m + 100) = some (aI 5 (upd g0 i (nI (imn x W 0 i)))) := (hset_ne _ _ (by omega)).trans u0
    have v1 : hset h1 (m + 101) (aI 5 (upd g1 i (nI (imn x W 1 i)))) (m + 101) = some (aI 5 (upd g1 i (nI (imn x W 1 i)))) := hset_eq _ _ _
    have v2 : hset h1 (m + 101) (aI 5 (upd g1 i (nI (imn x W 1 i)))) (m + 102) = some (aI 5 g2) := (hset_ne _ _ (by omega)).trans u2
    have v3 : hset h1 (m + 101) (aI 5 (upd g1 i (nI (imn x W 1 i)))) (m + 103) = hh (m + 103) := (hset_ne _ _ (by omega)).trans u3
    generalize hset h1 (m + 101) (aI 5 (upd g1 i (nI (imn x W 1 i)))) = h2 at hL2 f2 v0 v1 v2 v3 ⊢
    have w2 := (f2 (m + 1) (by omega)).trans hw
    refine e_aload_n (pc := 56) dX11_carry_56 rfl rfl ?_
    refine e_get (pc := 57) fl_X11_80 dX11_carry_57 (by repeat (first | assumption | exact hset_eq _ _ _ | (apply Lay.hd; assumption) | rw [hset_ne _ _ (by omega)])) (by rfl) ?_
    refine e_iload_n (pc := 60) dX11_carry_60 rfl rfl ?_
    refine e_aload_n (pc := 61) dX11_carry_61 rfl rfl ?_
    refine n_iconst (pc := 62) 2 dX11_carry_62 (by decide) ?_
    refine e_iload_n (pc := 63) dX11_carry_63 rfl rfl ?_
    refine n_VP (pc := 64) (c_X11_imageOf (x := x) (k := 2) hL2 w2 hg hx (by decide) (show i < 5 by omega)) bX11_imageOf q_i_X11_imageOf q_s_X11_imageOf q_m_X11_327 dX11_carry_64 rfl rfl (by repeat (first | assumption | exact hset_eq _ _ _ | (apply Lay.hd; assumption) | rw [hset_ne _ _ (by omega)])) rfl rfl (by exact Nat.le_of_ble_eq_true rfl) ⟨by decide, by decide⟩ ⟨rfl, rfl, Nat.zero_le _, Nat.zero_le _⟩ ?_
    refine e_iastN (pc := 67) i dX11_carry_67 (by repeat (first | assumption | exact hset_eq _ _ _ | (apply Lay.hd; assumption) | rw [hset_ne _ _ (by omega)])) (by rfl) (by omega) (by first | decide | omega) ?_
    have hL3 : Lay (hset h2 (m + 102) (aI 5 (upd g2 i (nI (imn x W 2 i))))) m W s := hL2.row (isR_d 102 (by decide)) rfl (by decide) (by decide)
    have f3 : FmB m hh (hset h2 (m + 102) (aI 5 (upd g2 i (nI (imn x W 2 i))))) := f2.set (by decide)
    have t0 : hset h2 (m + 102) (aI 5 (upd g2 i (nI (imn x W 2 i)))) (m + 100) = some (aI 5 (upd g0 i (nI (imn x W 0 i)))) := (hset_ne _ _ (by omega)).trans v0
    have t1 : hset h2 (m + 102) (aI 5 (upd g2 i (nI (imn x W 2 i)))) (m + 101) = some (aI 5 (upd g1 i (nI (imn x W 1 i)))) := (hset_ne _ _ (by omega)).trans v1
    have t2 : hset h2 (m + 102) (aI 5 (upd g2 i (nI (imn x W 2 i)))) (m + 102) = some (aI 5 (upd g2 i (nI (imn x W 2 i)))) := hset_eq _ _ _
    have t3 : hset h2 (m + 102) (aI 5 (upd g2 i (nI (imn x W 2 i)))) (m + 103) = hh (m + 103) := (hset_ne _ _ (by omega)).trans v3
    generalize hset h2 (m + 102) (aI 5 (upd g2 i (nI (imn x W 2 i)))) = h3 at hL3 f3 t0 t1 t2 t3 ⊢
    have y0 : upd g0 i (nI (imn x W 0 i)) i = nI (imn x W 0 i) := pk_us
    have y1 : upd g1 i (nI (imn x W 1 i)) i = nI (imn x W 1 i) := pk_us
    have y2 : upd g2 i (nI (imn x W 2 i)) i = nI (imn x W 2 i) := pk_us
    refine e_aload_n (pc := 68) dX11_carry_68 rfl rfl ?_
    refine e_get (pc := 69) fl_X11_74 dX11_carry_69 (by repeat (first | assumption | exact hset_eq _ _ _ | (apply Lay.hd; assumption) | rw [hset_ne _ _ (by omega)])) (by rfl) ?_
    refine e_iload_n (pc := 72) dX11_carry_72 rfl rfl ?_
    refine e_ialdN (pc := 73) i dX11_carry_73 (by repeat (first | assumption | exact hset_eq _ _ _ | (apply Lay.hd; assumption) | rw [hset_ne _ _ (by omega)])) (by rfl) (by omega) (by first | decide | omega) ?_
    rw [y0]
    refine e_aload_n (pc := 74) dX11_carry_74 rfl rfl ?_
    refine e_get (pc := 75) fl_X11_112 dX11_carry_75 (by repeat (first | assumption | exact hset_eq _ _ _ | (apply Lay.hd; assumption) | rw [hset_ne _ _ (by omega)])) (by rfl) ?_
    refine n_icmp_ge (pc := 78) (tgt := 107) dX11_carry_78 (by decide) (by omega) (by omega) (fun c0 => ?_) (fun c0 => ?_)
    · exact no 0 (by decide) (by omega) h3 hL3 f3
    refine e_aload_n (pc := 81) dX11_carry_81 rfl rfl ?_
    refine e_get (pc := 82) fl_X11_77 dX11_carry_82 (by repeat (first | assumption | exact hset_eq _ _ _ | (apply Lay.hd; assumption) | rw [hset_ne _ _ (by omega)])) (by rfl) ?_
    refine e_iload_n (pc := 85) dX11_carry_85 rfl rfl ?_
    refine e_ialdN (pc := 86) i dX11_carry_86 (by repeat (first | assumption | exact hset_eq _ _ _ | (apply Lay.hd; assumption) | rw [hset_ne _ _ (by omega)])) (by rfl) (by omega) (by first | decide | omega) ?_
    rw [y1]
    refine e_aload_n (pc := 87) dX11_carry_87 rfl rfl ?_
    refine e_get (pc := 88) fl_X11_112 dX11_carry_88 (by repeat (first | assumption | exact hset_eq _ _ _ | (apply Lay.hd; assumption) | rw [hset_ne _ _ (by omega)])) (by rfl) ?_
    refine n_icmp_ge (pc := 91) (tgt := 107) dX11_carry_91 (by decide) (by omega) (by omega) (fun c1 => ?_) (fun c1 => ?_)
    · exact no 1 (by decide) (by omega) h3 hL3 f3
    refine e_aload_n (pc := 94) dX11_carry_94 rfl rfl ?_
    refine e_get (pc := 95) fl_X11_80 dX11_carry_95 (by repeat (first | assumption | exact hset_eq _ _ _ | (apply Lay.hd; assumption) | rw [hset_ne _ _ (by omega)])) (by rfl) ?_
    refine e_iload_n (pc := 98) dX11_carry_98 rfl rfl ?_
    refine e_ialdN (pc := 99) i dX11_carry_99 (by repeat (first | assumption | exact hset_eq _ _ _ | (apply Lay.hd; assumption) | rw [hset_ne _ _ (by omega)])) (by rfl) (by omega) (by first | decide | omega) ?_
    rw [y2]
    refine e_aload_n (pc := 100) dX11_carry_100 rfl rfl ?_
    refine e_get (pc := 101) fl_X11_112 dX11_carry_101 (by repeat (first | assumption | exact hset_eq _ _ _ | (apply Lay.hd; assumption) | rw [hset_ne _ _ (by omega)])) (by rfl) ?_
    refine n_icmp_lt (pc := 104) (tgt := 110) dX11_carry_104 (by decide) (by omega) (by omega) (fun c2 => ?_) (fun c2 => ?_)
    · refine n_inc (pc := 110) dX11_carry_110 rfl (by decide) ?_
      refine e_goto (pc := 113) (tgt := 24) dX11_carry_113 (by decide) ?_
      refine ih (i + 1) (by omega) (by omega) h3 hL3 f3 t3 (fun k j hk3 hj => ?_) (fun k hk3 => ?_)
      · by_cases e : j = i
        · subst e
          have : k = 0 ∨ k = 1 ∨ k = 2 := by omega
          rcases this with rfl | rfl | rfl
          · omega
          · omega
          · exact c2
        · exact h0 k j hk3 (by omega)
      · have : k = 0 ∨ k = 1 ∨ k = 2 := by omega
        rcases this with rfl | rfl | rfl
        · refine ⟨_, t0, fun j hj => ?_⟩
          by_cases e : j = i
          · subst e; exact y0
          · rw [pk_un e]; exact q0 j (by omega)
        · refine ⟨_, t1, fun j hj => ?_⟩
          by_cases e : j = i
          · subst e; exact y1
          · rw [pk_un e]; exact q1 j (by omega)
        · refine ⟨_, t2, fun j hj => ?_⟩
          by_cases e : j = i
          · subst e; exact y2
          · rw [pk_un e]; exact q2 j (by omega)
    · exact no 2 (by decide) (by omega) h3 hL3 f3
theorem l_mca_j {a b : Int32} {i : Nat} {Pr : Int32 → AH → Prop} (hk : Wok W) (hk2 : Wok W2) (he : W2.1 = W.1 ∧ W2.2.1 = W.2.1) (hO : ImOk x W) (hi : i < W.2.1)
    (kf : ∀ h j, Lay h m W s → FmB m hh h → j < W.2.1 → CBad x W W2 i j → (∀ d, d < j → ¬ CBad x W W2 i d) → Pr (nI (5 * i + j)) h)
    (kk : ∀ h, Lay h m W s → FmB m hh h → CuA h (m + 103) W2 → Im3 h m W x W.2.1 → (∀ d, d < W.2.1 → ¬ CBad x W W2 i d) → VI MX11_carry sz Pr h 240 [some (.ref m), some (.int a), some (.int b), some (.int (nI i)), none] []) :
    ∀ (t j : Nat), t = W.2.1 - j → j ≤ W.2.1 → ∀ h, Lay h m W s → FmB m hh h → CuA h (m + 103) W2 → Im3 h m W x W.2.1 → (∀ d, d < j → ¬ CBad x W W2 i d) → VI MX11_carry sz Pr h 171 [some (.ref m), some (.int a), some (.int b), some (.int (nI i)), some (.int (nI j))] [] := by
  obtain ⟨b1, b2, b3, b4, b5⟩ := hk.b
  intro t
  induction t with
  | zero =>
    intro j e1 e2 h hL fm hc hI h0
    have e' : j = W.2.1 := by omega
    subst e'
    refine e_iload (pc := 171) dX11_carry_171 rfl ?_
    refine e_aload_n (pc := 173) dX11_carry_173 rfl rfl ?_
    refine e_get (pc := 174) fl_X11_109 dX11_carry_174 (by repeat (first | assumption | exact hset_eq _ _ _ | (apply Lay.hd; assumption) | rw [hset_ne _ _ (by omega)])) (by rfl) ?_
    refine n_icmp_ge (pc := 177) (tgt := 240) dX11_carry_177 (by decide) (by omega) (by omega) (fun hb_ => ?_) (fun c => absurd c (by omega))
    refine V.mask [true, true, true, true, false] ?_
    exact kk h hL fm hc hI h0
  | succ t ih =>
    intro j e1 e2 h hL fm hc hI h0
    have pi := pow_q hk hi
    have pj := pow_q hk (show j < W.2.1 by omega)
    have o0 := hO 0 i (by decide) hi
    have o1 := hO 1 j (by decide) (by omega)
    have ml := mul_lt hk (W.1 ^ i) (W.1 ^ j)
    have m2 := mul_lt hk2 (imn x W 0 i) (imn x W 1 j)
    rw [he.1, he.2] at m2
    have ll : lin W.1 W.2.1 (imn x W 2) (mul W (W.1 ^ i) (W.1 ^ j)) < W.1 ^ W.2.1 := lin_lt (by omega) b4 (fun d hd => hO 2 d (by decide) hd)
    obtain ⟨g0, p0, q0⟩ := hI 0 (by decide)
    obtain ⟨g1, p1, q1⟩ := hI 1 (by decide)
    obtain ⟨g2, p2, q2⟩ := hI 2 (by decide)
    have p0 : h (m + 100) = some (aI 5 g0) := p0
    have p1 : h (m + 101) = some (aI 5 g1) := p1
    have p2 : h (m + 102) = some (aI 5 g2) := p2
    have z0 := q0 i hi
    have z1 := q1 j (by omega)
    refine e_iload (pc := 171) dX11_carry_171 rfl ?_
    refine e_aload_n (pc := 173) dX11_carry_173 rfl rfl ?_
    refine e_get (pc := 174) fl_X11_109 dX11_carry_174 (by repeat (first | assumption | exact hset_eq _ _ _ | (apply Lay.hd; assumption) | rw [hset_ne _ _ (by omega)])) (by rfl) ?_
    refine n_icmp_ge (pc := 177) (tgt := 240) dX11_carry_177 (by decide) (by omega) (by omega) (fun c => absurd c (by omega)) (fun hb_ => ?_)
    refine e_aload_n (pc := 180) dX11_carry_180 rfl rfl ?_
    refine e_aload_n (pc := 181) dX11_carry_181 rfl rfl ?_
    refine e_get (pc := 182) fl_X11_83 dX11_carry_182 (by repeat (first | assumption | exact hset_eq _ _ _ | (apply Lay.hd; assumption) | rw [hset_ne _ _ (by omega)])) (by rfl) ?_
    refine e_aload_n (pc := 185) dX11_carry_185 rfl rfl ?_
    refine e_get (pc := 186) fl_X11_74 dX11_carry_186 (by repeat (first | assumption | exact hset_eq _ _ _ | (apply Lay.hd; assumption) | rw [hset_ne _ _ (by omega)])) (by rfl) ?_
    refine e_iload_n (pc := 189) dX11_carry_189 rfl rfl ?_
    refine e_ialdN (pc := 190) i dX11_carry_190 (by repeat (first | assumption | exact hset_eq _ _ _ | (apply Lay.hd; assumption) | rw [hset_ne _ _ (by omega)])) (by rfl) (by omega) (by first | decide | omega) ?_
    rw [z0]
    refine e_aload_n (pc := 191) dX11_carry_191 rfl rfl ?_
    refine e_get (pc := 192) fl_X11_77 dX11_carry_192 (by repeat (first | assumption | exact hset_eq _ _ _ | (apply Lay.hd; assumption) | rw [hset_ne _ _ (by omega)])) (by rfl) ?_
    refine e_iload (pc := 195) dX11_carry_195 rfl ?_
    refine e_ialdN (pc := 197) j dX11_carry_197 (by repeat (first | assumption | exact hset_eq _ _ _ | (apply Lay.hd; assumption) | rw [hset_ne _ _ (by omega)])) (by rfl) (by omega) (by first | decide | omega) ?_
    rw [z1]
    refine n_V (pc := 198) (c_timesO hL hc hk2 he (show imn x W 0 i < 2 ^ 31 by omega) (show imn x W 1 j < 2 ^ 31 by omega)) bX11_timesBy q_i_X11_timesBy q_s_X11_timesBy q_m_X11_123 dX11_carry_198 rfl rfl (by repeat (first | assumption | exact hset_eq _ _ _ | (apply Lay.hd; assumption) | rw [hset_ne _ _ (by omega)])) rfl rfl (by exact Nat.le_of_ble_eq_true rfl) ⟨by decide, by decide⟩ ⟨rfl, rfl, Nat.zero_le _, Nat.zero_le _⟩ (fun z h2 hp => ?_)
    obtain ⟨rfl, l2, d2⟩ := hp
    refine e_aload_n (pc := 201) dX11_carry_201 rfl rfl ?_
    refine e_aload_n (pc := 202) dX11_carry_202 rfl rfl ?_
    refine e_aload_n (pc := 203) dX11_carry_203 rfl rfl ?_
    refine e_iload_n (pc := 204) dX11_carry_204 rfl rfl ?_
    refine n_VP (pc := 205) (l2.base (show i < 2 ^ 31 by omega)) bX11_base q_i_X11_base q_s_X11_base q_m_X11_223 dX11_carry_205 rfl rfl (by repeat (first | assumption | exact hset_eq _ _ _ | (apply Lay.hd; assumption) | rw [hset_ne _ _ (by omega)])) rfl rfl (by exact Nat.le_of_ble_eq_true rfl) ⟨by decide, by decide⟩ ⟨rfl, rfl, Nat.zero_le _, Nat.zero_le _⟩ ?_
    refine e_aload_n (pc := 208) dX11_carry_208 rfl rfl ?_
    refine e_iload (pc := 209) dX11_carry_209 rfl ?_
    refine n_VP (pc := 211) (l2.base (show j < 2 ^ 31 by omega)) bX11_base q_i_X11_base q_s_X11_base q_m_X11_223 dX11_carry_211 rfl rfl (by repeat (first | assumption | exact hset_eq _ _ _ | (apply Lay.hd; assumption) | rw [hset_ne _ _ (by omega)])) rfl rfl (by exact Nat.le_of_ble_eq_true rfl) ⟨by decide, by decide⟩ ⟨rfl, rfl, Nat.zero_le _, Nat.zero_le _⟩ ?_
    refine n_V (pc := 214) (c_X11_times l2 hk (show W.1 ^ i < 2 ^ 31 by omega) (show W.1 ^ j < 2 ^ 31 by omega)) bX11_times q_i_X11_times q_s_X11_times q_m_X11_266 dX11_carry_214 rfl rfl (by repeat (first | assumption | exact hset_eq _ _ _ | (apply Lay.hd; assumption) | rw [hset_ne _ _ (by omega)])) rfl rfl (by exact Nat.le_of_ble_eq_true rfl) ⟨by decide, by decide⟩ ⟨rfl, rfl, Nat.zero_le _, Nat.zero_le _⟩ (fun z h3 hp => ?_)
    obtain ⟨rfl, l3, d3⟩ := hp
    have p23 : h3 (m + 102) = some (aI 5 g2) := (d3 _ (by omega) (by omega) (by omega)).trans ((d2 _ (by omega) (by omega) (by omega)).trans p2)
    refine e_aload_n (pc := 217) dX11_carry_217 rfl rfl ?_
    refine e_get (pc := 218) fl_X11_80 dX11_carry_218 (by repeat (first | assumption | exact hset_eq _ _ _ | (apply Lay.hd; assumption) | rw [hset_ne _ _ (by omega)])) (by rfl) ?_
    refine n_V (pc := 221) (c_X11_mapped (bs := imn x W 2) l3 hk (by omega) p23 q2 (fun d hd => hO 2 d (by decide) hd) (show mul W (W.1 ^ i) (W.1 ^ j) < 2 ^ 31 by omega)) bX11_mapped q_i_X11_mapped q_s_X11_mapped q_m_X11_334 dX11_carry_221 rfl rfl (by repeat (first | assumption | exact hset_eq _ _ _ | (apply Lay.hd; assumption) | rw [hset_ne _ _ (by omega)])) rfl rfl (by exact Nat.le_of_ble_eq_true rfl) ⟨by decide, by decide⟩ ⟨rfl, rfl, Nat.zero_le _, Nat.zero_le _⟩ (fun z h4 hp => ?_)
    obtain ⟨rfl, l4, d4⟩ := hp
    have d5 : FdM m h h4 := (d2.tr d3).tr d4
    have f4 := fm.tr d5.ff.fq
    refine n_icmp_eq (pc := 224) (tgt := 234) dX11_carry_224 (by decide) (by omega) (by omega) (fun c => ?_) (fun c => ?_)
    · refine n_inc (pc := 234) dX11_carry_234 rfl (by decide) ?_
      refine e_goto (pc := 237) (tgt := 171) dX11_carry_237 (by decide) ?_
      refine ih (j + 1) (by omega) (by omega) h4 l4 f4 (hc.keep (d5 _ (by omega) (by omega) (by omega))) (hI.keep (fun a a1 a2 => d5 a (by omega) (by omega) (by omega))) (fun d hd => ?_)
      by_cases e : d = j
      · subst e; exact fun q => q c.symm
      · exact h0 d (by omega)
    · refine n_iconst (pc := 227) 5 dX11_carry_227 (by decide) ?_
      refine e_iload_n (pc := 228) dX11_carry_228 rfl rfl ?_
      refine n_imul (pc := 229) dX11_carry_229 ?_
      refine e_iload (pc := 230) dX11_carry_230 rfl ?_
      refine n_iadd (pc := 232) dX11_carry_232 ?_
      exact n_iret (pc := 233) dX11_carry_233 rfl (kf h4 j l4 f4 (by omega) (fun q => c q.symm) h0)
theorem l_mca_i {a b : Int32} (hk : Wok W) (hk2 : Wok W2) (he : W2.1 = W.1 ∧ W2.2.1 = W.2.1) (hO : ImOk x W) :
    ∀ (t i : Nat), t = W.2.1 - i → i ≤ W.2.1 → ∀ h, Lay h m W s → FmB m hh h → CuA h (m + 103) W2 → Im3 h m W x W.2.1 → (∀ c d, c < i → d < W.2.1 → ¬ CBad x W W2 c d) → VI MX11_carry sz (fun z h' => FNC x W W2 z ∧ Lay h' m W s ∧ FmB m hh h') h 160 [some (.ref m), some (.int a), some (.int b), some (.int (nI i)), none] [] := by
  obtain ⟨b1, b2, b3, b4, b5⟩ := hk.b
  intro t
  induction t with
  | zero =>
    intro i e1 e2 h hL fm hc hI h0
    have e' : i = W.2.1 := by omega
    subst e'
    refine e_iload_n (pc := 160) dX11_carry_160 rfl rfl ?_
    refine e_aload_n (pc := 161) dX11_carry_161 rfl rfl ?_
    refine e_get (pc := 162) fl_X11_109 dX11_carry_162 (by repeat (first | assumption | exact hset_eq _ _ _ | (apply Lay.hd; assumption) | rw [hset_ne _ _ (by omega)])) (by rfl) ?_
    refine n_icmp_ge (pc := 165) (tgt := 246) dX11_carry_165 (by decide) (by omega) (by omega) (fun hb_ => ?_) (fun c => absurd c (by omega))
    refine e_iconst (pc := 246) (v := -1) dX11_carry_246 (by decide) ?_
    exact n_iret (pc := 247) dX11_carry_247 rfl ⟨Or.inr ⟨rfl, fun c d hc2 hd => h0 c d hc2 hd⟩, hL, fm⟩
  | succ t ih =>
    intro i e1 e2 h hL fm hc hI h0
    refine e_iload_n (pc := 160) dX11_carry_160 rfl rfl ?_
    refine e_aload_n (pc := 161) dX11_carry_161 rfl rfl ?_
    refine e_get (pc := 162) fl_X11_109 dX11_carry_162 (by repeat (first | assumption | exact hset_eq _ _ _ | (apply Lay.hd; assumption) | rw [hset_ne _ _ (by omega)])) (by rfl) ?_
    refine n_icmp_ge (pc := 165) (tgt := 246) dX11_carry_165 (by decide) (by omega) (by omega) (fun c => absurd c (by omega)) (fun hb_ => ?_)
    refine n_iconst (pc := 168) 0 dX11_carry_168 (by decide) ?_
    refine e_istore (pc := 169) dX11_carry_169 (by decide) ?_
    refine l_mca_j hk hk2 he hO (show i < W.2.1 by omega) (fun h2 j l2 f2 j1 j2 j3 => ⟨Or.inl ⟨i, j, rfl, by omega, j1, j2, fun c d c1 d1 cd => by
      rcases cd with z | ⟨z1, z2⟩
      · exact h0 c d z d1
      · rw [z1]; exact j3 d z2⟩, l2, f2⟩) (fun h2 l2 f2 c2 I2 q => ?_) W.2.1 0 rfl (Nat.zero_le _) h hL fm hc hI (fun d hd => absurd hd (Nat.not_lt_zero d))
    refine n_inc (pc := 240) dX11_carry_240 rfl (by decide) ?_
    refine e_goto (pc := 243) (tgt := 160) dX11_carry_243 (by decide) ?_
    refine ih (i + 1) (by omega) (by omega) h2 l2 f2 c2 I2 (fun c d hc2 hd => ?_)
    by_cases e : c = i
    · rw [e]; exact q d hd
    · exact h0 c d (by omega) hd
end MC
section MCX
variable {h : AH} {m : Nat} {x y : Sx} {ik : Bool} {len : Nat} {f : Nat → Nat} {ft fp : Int32}
theorem alB_of {a b : Int32} (c : alB x a b = true) : ∃ a' b', a' < 6 ∧ b' < 6 ∧ a = nI a' ∧ b = nI b' ∧ (x.ws b').1 = (x.ws a').1 ∧ (x.ws b').2.1 = (x.ws a').2.1 := by
  unfold alB at c
  rw [Bool.and_eq_true, Bool.and_eq_true, Bool.and_eq_true] at c
  obtain ⟨c1, c2, c3, c4⟩ := c
  obtain ⟨a', ha, rfl⟩ := okI_of (by decide) c1
  obtain ⟨b', hb, rfl⟩ := okI_of (by decide) c2
  rw [wld_nI ha, wld_nI hb] at c3 c4
  exact ⟨a', b', ha, hb, rfl, rfl, (of_decide_eq_true c3).symm, (of_decide_eq_true c4).symm⟩
theorem c_X11_carry (hX : MAt h m x y ik len f ft fp) (hx : SxOk x) (a b : Int32) : CI yX11_carry MX11_carry [.ref m, .int a, .int b] h (fun z h' => Q_carry x a b z ∧ MAt h' m x y ik len f ft fp ∧ Er m (m + 107) h h') := by
  obtain ⟨⟨p, n, q, s, hM, hs⟩, hR, ⟨g, hw, hg⟩, -⟩ := id hX
  refine CI.ofV (by decide) rfl rfl (by simp [Value.category]) (by exact Nat.le_of_ble_eq_true rfl) (fun sz => ?_)
  refine e_aload_n (pc := 0) dX11_carry_0 rfl rfl ?_
  refine e_iload_n (pc := 1) dX11_carry_1 rfl rfl ?_
  refine e_iload_n (pc := 2) dX11_carry_2 rfl rfl ?_
  refine n_VP (pc := 3) (c_X11_areOfOneSize hX hx a b) bX11_areOfOneSize q_i_X11_areOfOneSize q_s_X11_areOfOneSize q_m_X11_321 dX11_carry_3 rfl rfl (by repeat (first | assumption | exact hset_eq _ _ _ | (apply Lay.hd; assumption) | rw [hset_ne _ _ (by omega)])) rfl rfl (by exact Nat.le_of_ble_eq_true rfl) ⟨by decide, by decide⟩ ⟨rfl, rfl, Nat.zero_le _, Nat.zero_le _⟩ ?_
  refine n_bif_ne (pc := 6) (tgt := 12) dX11_carry_6 (by decide) (fun c => ?_) (fun c => ?_)
  · obtain ⟨a', b', ha, hb, rfl, rfl, he⟩ := alB_of c
    have wk := hx.1 a' (by omega)
    have wk2 := hx.1 b' (by omega)
    obtain ⟨b1, b2, b3, b4, b5⟩ := wk.b
    refine e_aload_n (pc := 12) dX11_carry_12 rfl rfl ?_
    refine e_iload_n (pc := 13) dX11_carry_13 rfl rfl ?_
    refine n_Vv (pc := 14) (c_X11_laysOut hM hR hw (hg.1 a' ha) wk ha) bX11_laysOut q_i_X11_laysOut q_s_X11_laysOut q_m_X11_147 dX11_carry_14 rfl rfl (by repeat (first | assumption | exact hset_eq _ _ _ | (apply Lay.hd; assumption) | rw [hset_ne _ _ (by omega)])) rfl rfl (by exact Nat.le_of_ble_eq_true rfl) ⟨by decide, by decide⟩ ⟨rfl, rfl, Nat.zero_le _, Nat.zero_le _⟩ (fun h2 hp => ?_)
    obtain ⟨l2, e2⟩ := id hp
    obtain ⟨hX2, q2⟩ := hX.laid (p := p) (n := n) (q := q) hs hp
    have w2 : h2 (m + 1) = some (aI 6070 g) := (e2 _ (by omega) (by omega)).trans hw
    refine e_aload_n (pc := 17) dX11_carry_17 rfl rfl ?_
    refine e_iload_n (pc := 18) dX11_carry_18 rfl rfl ?_
    refine n_Vv (pc := 19) (c_X11_laysOther l2 w2 (hg.1 b' hb) hb) bX11_laysOther q_i_X11_laysOther q_s_X11_laysOther q_m_X11_324 dX11_carry_19 rfl rfl (by repeat (first | assumption | exact hset_eq _ _ _ | (apply Lay.hd; assumption) | rw [hset_ne _ _ (by omega)])) rfl rfl (by exact Nat.le_of_ble_eq_true rfl) ⟨by decide, by decide⟩ ⟨rfl, rfl, Nat.zero_le _, Nat.zero_le _⟩ (fun h3 hp3 => ?_)
    obtain ⟨l3, c3, e3⟩ := hp3
    have q3 : FmC m h h3 := fun d hd => (e3 d (by omega)).trans (q2 d hd)
    have w3 : h3 (m + 1) = some (aI 6070 g) := (e3 _ (by omega)).trans w2
    have fin : ∀ z h', Carry x (x.ws a') (x.ws b') z → Lay h' m (x.ws a') s → FmB m h3 h' → Q_carry x (nI a') (nI b') z ∧ MAt h' m x y ik len f ft fp ∧ Er m (m + 107) h h' := fun z h' k1 k2 k3 => ⟨qT c (by rw [wld_nI ha, wld_nI hb]; exact k1), hX.re k2.1 hs k2.2.2 (q3.tr k3.qf), (q3.tr k3.qf).er⟩
    obtain ⟨g100, r100⟩ := l3.2.2.row (k := 100) (isR_d _ (by decide))
    obtain ⟨g101, r101⟩ := l3.2.2.row (k := 101) (isR_d _ (by decide))
    obtain ⟨g102, r102⟩ := l3.2.2.row (k := 102) (isR_d _ (by decide))
    have I0 : Im3 h3 m (x.ws a') x 0 := fun k hk => by
      have : k = 0 ∨ k = 1 ∨ k = 2 := by omega
      rcases this with rfl | rfl | rfl
      · exact ⟨g100, r100, fun j hj => absurd hj (Nat.not_lt_zero j)⟩
      · exact ⟨g101, r101, fun j hj => absurd hj (Nat.not_lt_zero j)⟩
      · exact ⟨g102, r102, fun j hj => absurd hj (Nat.not_lt_zero j)⟩
    refine n_iconst (pc := 22) 0 dX11_carry_22 (by decide) ?_
    refine e_istore_n (pc := 23) dX11_carry_23 rfl (by decide) ?_
    refine l_mca_1 (hh := h3) wk hx hg (fun h4 l4 f4 nO => fin _ _ (Or.inl ⟨nO, rfl⟩) l4 f4) (fun h4 l4 f4 o4 hO I4 => ?_) w3 (x.ws a').2.1 0 rfl (Nat.zero_le _) h3 l3 (FmB.rf _ _) rfl (fun k j _ hj => absurd hj (Nat.not_lt_zero j)) I0
    have im := fun k j (hk : k < 3) (hj : j < (x.ws a').2.1) => imn_ltM wk hx hk hj
    obtain ⟨g0, s0, t0⟩ := I4 0 (by decide)
    have s0 : h4 (m + 100) = some (aI 5 g0) := s0
    refine e_aload_n (pc := 116) dX11_carry_116 rfl rfl ?_
    refine e_aload_n (pc := 117) dX11_carry_117 rfl rfl ?_
    refine e_get (pc := 118) fl_X11_74 dX11_carry_118 (by repeat (first | assumption | exact hset_eq _ _ _ | (apply Lay.hd; assumption) | rw [hset_ne _ _ (by omega)])) (by rfl) ?_
    refine n_V (pc := 121) (c_X11_isOneToOne (bs := imn x (x.ws a') 0) l4 wk (by omega) s0 t0 (fun j hj => im 0 j (by decide) hj)) bX11_isOneToOne q_i_X11_isOneToOne q_s_X11_isOneToOne q_m_X11_330 dX11_carry_121 rfl rfl (by repeat (first | assumption | exact hset_eq _ _ _ | (apply Lay.hd; assumption) | rw [hset_ne _ _ (by omega)])) rfl rfl (by exact Nat.le_of_ble_eq_true rfl) ⟨by decide, by decide⟩ ⟨rfl, rfl, Nat.zero_le _, Nat.zero_le _⟩ (fun z h5 hp5 => ?_)
    obtain ⟨rfl, n5, l5, f5⟩ := hp5
    have I5 : Im3 h5 m (x.ws a') x (x.ws a').2.1 := I4.keep (fun a a1 a2 => f5 a (by omega))
    refine n_bif_ne (pc := 124) (tgt := 130) dX11_carry_124 (by decide) (fun d0 => ?_) (fun d0 => ?_)
    · obtain ⟨g1, s1, t1⟩ := I5 1 (by decide)
      have s1 : h5 (m + 101) = some (aI 5 g1) := s1
      refine e_aload_n (pc := 130) dX11_carry_130 rfl rfl ?_
      refine e_aload_n (pc := 131) dX11_carry_131 rfl rfl ?_
      refine e_get (pc := 132) fl_X11_77 dX11_carry_132 (by repeat (first | assumption | exact hset_eq _ _ _ | (apply Lay.hd; assumption) | rw [hset_ne _ _ (by omega)])) (by rfl) ?_
      refine n_V (pc := 135) (c_X11_isOneToOne (bs := imn x (x.ws a') 1) l5 wk (by omega) s1 t1 (fun j hj => im 1 j (by decide) hj)) bX11_isOneToOne q_i_X11_isOneToOne q_s_X11_isOneToOne q_m_X11_330 dX11_carry_135 rfl rfl (by repeat (first | assumption | exact hset_eq _ _ _ | (apply Lay.hd; assumption) | rw [hset_ne _ _ (by omega)])) rfl rfl (by exact Nat.le_of_ble_eq_true rfl) ⟨by decide, by decide⟩ ⟨rfl, rfl, Nat.zero_le _, Nat.zero_le _⟩ (fun z h6 hp6 => ?_)
      obtain ⟨rfl, n6, l6, f6⟩ := hp6
      have I6 : Im3 h6 m (x.ws a') x (x.ws a').2.1 := I5.keep (fun a a1 a2 => f6 a (by omega))
      refine n_bif_ne (pc := 138) (tgt := 144) dX11_carry_138 (by decide) (fun d1 => ?_) (fun d1 => ?_)
      · obtain ⟨g2, s2, t2⟩ := I6 2 (by decide)
        have s2 : h6 (m + 102) = some (aI 5 g2) := s2
        refine e_aload_n (pc := 144) dX11_carry_144 rfl rfl ?_
        refine e_aload_n (pc := 145) dX11_carry_145 rfl rfl ?_
        refine e_get (pc := 146) fl_X11_80 dX11_carry_146 (by repeat (first | assumption | exact hset_eq _ _ _ | (apply Lay.hd; assumption) | rw [hset_ne _ _ (by omega)])) (by rfl) ?_
        refine n_V (pc := 149) (c_X11_isOneToOne (bs := imn x (x.ws a') 2) l6 wk (by omega) s2 t2 (fun j hj => im 2 j (by decide) hj)) bX11_isOneToOne q_i_X11_isOneToOne q_s_X11_isOneToOne q_m_X11_330 dX11_carry_149 rfl rfl (by repeat (first | assumption | exact hset_eq _ _ _ | (apply Lay.hd; assumption) | rw [hset_ne _ _ (by omega)])) rfl rfl (by exact Nat.le_of_ble_eq_true rfl) ⟨by decide, by decide⟩ ⟨rfl, rfl, Nat.zero_le _, Nat.zero_le _⟩ (fun z h7 hp7 => ?_)
        obtain ⟨rfl, n7, l7, f7⟩ := hp7
        have I7 : Im3 h7 m (x.ws a') x (x.ws a').2.1 := I6.keep (fun a a1 a2 => f7 a (by omega))
        have f47 : FmA m h4 h7 := (f5.tr f6).tr f7
        refine n_bif_ne (pc := 152) (tgt := 158) dX11_carry_152 (by decide) (fun d2 => ?_) (fun d2 => ?_)
        · have c7 : CuA h7 (m + 103) (x.ws b') := c3.keep ((f47 _ (by omega)).trans o4)
          refine n_iconst (pc := 158) 0 dX11_carry_158 (by decide) ?_
          refine e_istore_n (pc := 159) dX11_carry_159 rfl (by decide) ?_
          refine V.post ?_ (l_mca_i (hh := h3) (x := x) wk wk2 he hO (x.ws a').2.1 0 rfl (Nat.zero_le _) h7 l7 (f4.tr f47.fq) c7 I7 (fun c d hc => absurd hc (Nat.not_lt_zero c)))
          intro rr h' z qq
          obtain ⟨k1, z', k2, k3, k4, k5⟩ := qq
          refine ⟨k1, z', k2, fin _ _ (Or.inr (Or.inr ⟨hO, fun k hk => ?_, k3⟩)) k4 k5⟩
          have : k = 0 ∨ k = 1 ∨ k = 2 := by omega
          rcases this with rfl | rfl | rfl
          · exact of_decide_eq_true d0
          · exact of_decide_eq_true d1
          · exact of_decide_eq_true d2
        · refine n_bipush (pc := 155) 102 dX11_carry_155 (by decide) ?_
          refine n_iret (pc := 157) dX11_carry_157 rfl (fin _ _ (Or.inr (Or.inl ⟨hO, 2, by decide, rfl, ?_, fun k hk => ?_⟩)) l7 (f4.tr f47.fq))
          · exact Nat.lt_of_le_of_ne n7 (of_decide_eq_false d2)
          · have : k = 0 ∨ k = 1 := by omega
            rcases this with rfl | rfl
            · exact of_decide_eq_true d0
            · exact of_decide_eq_true d1
      · refine n_bipush (pc := 141) 101 dX11_carry_141 (by decide) ?_
        refine n_iret (pc := 143) dX11_carry_143 rfl (fin _ _ (Or.inr (Or.inl ⟨hO, 1, by decide, rfl, ?_, fun k hk => ?_⟩)) l6 (f4.tr (f5.tr f6).fq))
        · exact Nat.lt_of_le_of_ne n6 (of_decide_eq_false d1)
        · have : k = 0 := by omega
          subst this
          exact of_decide_eq_true d0
    · refine n_bipush (pc := 127) 100 dX11_carry_127 (by decide) ?_
      refine n_iret (pc := 129) dX11_carry_129 rfl (fin _ _ (Or.inr (Or.inl ⟨hO, 0, by decide, rfl, ?_, fun k hk => absurd hk (Nat.not_lt_zero k)⟩)) l5 (f4.tr f5.fq))
      exact Nat.lt_of_le_of_ne n5 (of_decide_eq_false d0)
  · refine e_bipush (pc := 9) (v := -2) dX11_carry_9 (by decide) ?_
    exact n_iret (pc := 11) dX11_carry_11 rfl ⟨qF c rfl, hX, Er.rf _ _ _⟩
end MCX
