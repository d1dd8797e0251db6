/-! ===== the reference: worlds that are the same, isotopes ===== -/
theorem Bil_ext {p n : Nat} {T T2 : Nat → Nat → Nat} (hp : 1 < p) (hn : n ≤ 5) (hT : Bil p n T) (hT2 : Bil p n T2) (e : ∀ i j, i < n → j < n → T (p ^ i) (p ^ j) = T2 (p ^ i) (p ^ j)) : ∀ x y, x < p ^ n → y < p ^ n → T x y = T2 x y := fun x y hx hy => by
  have pl : ∀ i, i < n → p ^ i < p ^ n := fun i hi => Nat.pow_lt_pow_right hp hi
  have key : ∀ T : Nat → Nat → Nat, Bil p n T → T x y = lin p n (fun i => lin p n (fun j => T (p ^ i) (p ^ j)) y) x := fun T hT => by
    have e1 : T x y = T (lin p n (fun i => p ^ i) x) y := by rw [lin_id hp hn hx]
    rw [e1, hT.2.1 _ _ _ pl hy]
    refine lin_congr (fun i hi => ?_)
    have e2 : T (p ^ i) y = T (p ^ i) (lin p n (fun j => p ^ j) y) := by rw [lin_id hp hn hy]
    rw [e2, hT.2.2 _ _ _ pl (pl i hi)]
  rw [key T hT, key T2 hT2]
  exact lin_congr (fun i hi => lin_congr (fun j hj => e i j hi hj))
theorem mul_pp {W : Wd} (hk : Wok W) {i j k : Nat} (hi : i < W.2.1) (hj : j < W.2.1) (hk2 : k < W.2.1) : dg W.1 (mul W (W.1 ^ i) (W.1 ^ j)) k = W.2.2 (25 * i + 5 * j + k) := by
  obtain ⟨b1, b2, b3, b4, b5⟩ := hk.b
  rw [dg_mul hk _ _ hk2, mc_pow_r hk _ _ hj]
  have e : sg W.2.1 (fun s => dg W.1 (W.1 ^ i) s * W.2.2 (25 * s + 5 * j + k)) = W.2.2 (25 * i + 5 * j + k) := by
    rw [← sg_ind (d := W.2.2 (25 * i + 5 * j + k)) hi]
    refine sg_congr (fun t _ => ?_)
    rw [dg_pow (by omega)]
    by_cases c : t = i
    · rw [if_pos c, if_pos c, c, Nat.one_mul]
    · rw [if_neg c, if_neg c, Nat.zero_mul]
  rw [e]
  exact Nat.mod_eq_of_lt (hk.c _)
section ISO
variable {m : Nat} {s : Ms} {W W2 : Wd} {sz : Nat} {hh : AH}
noncomputable abbrev Lqz (W W2 : Wd) (v : Nat) : Nat → Nat := fun i => qz W2 v false (W.1 ^ i)
noncomputable abbrev Rqz (W W2 : Wd) (u : Nat) : Nat → Nat := fun i => qz W2 u true (W.1 ^ i)
theorem Tb_L (hk : Wok W) (hk2 : Wok W2) (he : W2.1 = W.1 ∧ W2.2.1 = W.2.1) (hD : Div W2) {v : Nat} (h0 : 0 < v) (hv : v < W.1 ^ W.2.1) : Tb W (fun x => mul W2 x v) (Lqz W W2 v) := fun i hi => by
  have hq : W2.1 ^ W2.2.1 = W.1 ^ W.2.1 := by rw [he.1, he.2]
  have pi := pow_q hk hi
  obtain ⟨q1, q2⟩ := qz_ok hk2 hD h0 (show v < W2.1 ^ W2.2.1 by omega) false (y := W.1 ^ i) (by omega)
  refine ⟨by show qz W2 v false (W.1 ^ i) < _; omega, fun x hx => ⟨fun e => qz_eq hk2 hD h0 (by omega) (l := false) (by omega) (side_f.trans e), fun e => ?_⟩⟩
  subst e
  exact side_f.symm.trans q2
theorem Tb_R (hk : Wok W) (hk2 : Wok W2) (he : W2.1 = W.1 ∧ W2.2.1 = W.2.1) (hD : Div W2) {u : Nat} (h0 : 0 < u) (hu : u < W.1 ^ W.2.1) : Tb W (fun x => mul W2 u x) (Rqz W W2 u) := fun i hi => by
  have hq : W2.1 ^ W2.2.1 = W.1 ^ W.2.1 := by rw [he.1, he.2]
  have pi := pow_q hk hi
  obtain ⟨q1, q2⟩ := qz_ok hk2 hD h0 (show u < W2.1 ^ W2.2.1 by omega) true (y := W.1 ^ i) (by omega)
  refine ⟨by show qz W2 u true (W.1 ^ i) < _; omega, fun x hx => ⟨fun e => qz_eq hk2 hD h0 (by omega) (l := true) (by omega) (side_t.trans e), fun e => ?_⟩⟩
  subst e
  exact side_t.symm.trans q2
theorem pri_tw (hk : Wok W) (hk2 : Wok W2) (he : W2.1 = W.1 ∧ W2.2.1 = W.2.1) (hD : Div W2) {u v : Nat} (hu0 : 0 < u) (hu : u < W.1 ^ W.2.1) (hv0 : 0 < v) (hv : v < W.1 ^ W.2.1) : NMs W (mul (pri W W2 (Lqz W W2 v) (Rqz W W2 u))) (mul W2 u v) = isoF W W2 u v := by
  obtain ⟨b1, b2, b3, b4, b5⟩ := hk.b
  have hq : W2.1 ^ W2.2.1 = W.1 ^ W.2.1 := by rw [he.1, he.2]
  have hk3 := pri_ok (W2 := W2) hk (Lqz W W2 v) (Rqz W W2 u)
  have hT : Bil W.1 W.2.1 (mul (pri W W2 (Lqz W W2 v) (Rqz W W2 u))) := Bil_mul hk3
  have hT2 := Bil_tw hk2 hD (u := u) (v := v) hu0 (by omega) hv0 (by omega)
  rw [he.1, he.2] at hT2
  unfold isoF
  rw [if_pos ⟨hu0, hv0⟩]
  refine NM_cong (Bil_ext (by omega) b4 hT hT2 (fun i j hi hj => ?_))
  show mul (pri W W2 (Lqz W W2 v) (Rqz W W2 u)) (W.1 ^ i) (W.1 ^ j) = mul W2 (Lqz W W2 v i) (Rqz W W2 u j)
  refine num_ext (p := W.1) (n := W.2.1) (mul_lt hk3 _ _) (mul_lt2 hk2 he _ _) (fun k hk4 => ?_)
  exact (mul_pp hk3 hi hj hk4).trans (pri_cell b4 hi hj hk4)
def Ms.setWa (s : Ms) (v : Int32) : Ms := (s.1, s.2.1, s.2.2.1, s.2.2.2.1, s.2.2.2.2.1, s.2.2.2.2.2.1, s.2.2.2.2.2.2.1, s.2.2.2.2.2.2.2.1, s.2.2.2.2.2.2.2.2.1, s.2.2.2.2.2.2.2.2.2.1, s.2.2.2.2.2.2.2.2.2.2.1, s.2.2.2.2.2.2.2.2.2.2.2.1, v)
def FmI (m : Nat) (h h' : AH) : Prop := ∀ b, b ≠ m → (b < m + 4 ∨ m + 107 ≤ b ∨ b = m + 9 ∨ b = m + 105) → h' b = h b
theorem FmI.rf (m : Nat) (h : AH) : FmI m h h := fun _ _ _ => rfl
theorem FmI.tr {m : Nat} {h h1 h2 : AH} (a : FmI m h h1) (b : FmI m h1 h2) : FmI m h h2 := fun q x y => (b q x y).trans (a q x y)
theorem FmP.i {m : Nat} {h h1 : AH} (a : FmP m h h1) : FmI m h h1 := fun b _ y => a b y
theorem FmI.qf {m : Nat} {h h1 : AH} (a : FmI m h h1) : FmC m h h1 := fun b y => a b (by omega) (by omega)
theorem FmI.hm {m : Nat} {h h1 : AH} {x : AE} (a : FmI m h h1) : FmI m h (hset h1 m x) := fun b q y => (hset_ne _ _ q).trans (a b q y)
theorem Lay.wa {h : AH} {v0 v : Int32} (l : Lay h m W (s.setWa v0)) : Lay (hset h m (ob 10 (mfs m W.1 W.2.1 (W.1 ^ W.2.1) (s.setWa v)))) m W (s.setWa v) := ⟨hset_eq _ _ _, l.2.1.keep (hset_ne _ _ (by omega)), l.2.2.hd⟩
/-- the state of the loops over u and v -/
def IsS (hh h : AH) (m : Nat) (W W2 : Wd) (s : Ms) : Prop := ∃ wv, Lay h m W (s.setWa wv) ∧ FmI m hh h ∧ CuA h (m + 105) W2
theorem l_is_v {a b : Value} {u all : Nat} {Pr : Int32 → AH → Prop} (hk : Wok W) (hk2 : Wok W2) (he : W2.1 = W.1 ∧ W2.2.1 = W.2.1) (hD : Div W2) (hu0 : 0 < u) (hu : u < W.1 ^ W.2.1)
    (kk : ∀ h, IsS hh h m W W2 s → VI MX11_isotopes sz Pr h 149 [some (.ref m), some a, some b, some (.int (nI (all + sg (W.1 ^ W.2.1) (fun v => isoF W W2 u v)))), some (.int (nI u)), none] []) :
    ∀ (t v : Nat), t = W.1 ^ W.2.1 - v → 0 < v → v ≤ W.1 ^ W.2.1 → ∀ h, IsS hh h m W W2 s → VI MX11_isotopes sz Pr h 102 [some (.ref m), some a, some b, some (.int (nI (all + sg v (fun v => isoF W W2 u v)))), some (.int (nI u)), some (.int (nI v))] [] := by
  obtain ⟨b1, b2, b3, b4, b5⟩ := hk.b
  have hq : W2.1 ^ W2.2.1 = W.1 ^ W.2.1 := by rw [he.1, he.2]
  intro t
  induction t with
  | zero =>
    intro v e1 e0 e2 h hS
    have e' : v = W.1 ^ W.2.1 := by omega
    obtain ⟨wv, hL, hf, hC⟩ := id hS
    refine e_iload (pc := 102) dX11_isotopes_102 rfl ?_
    refine e_aload_n (pc := 104) dX11_isotopes_104 rfl rfl ?_
    refine e_get (pc := 105) fl_X11_112 dX11_isotopes_105 (by repeat (first | assumption | exact hset_eq _ _ _ | (apply Lay.hd; assumption) | rw [hset_ne _ _ (by omega)])) (by rfl) ?_
    refine n_icmp_ge (pc := 108) (tgt := 149) dX11_isotopes_108 (by decide) (by omega) (by omega) (fun hb_ => ?_) (fun c => absurd c (by omega))
    refine V.mask [true, true, true, true, true, false] ?_
    have q := kk h hS
    rw [← e'] at q
    exact q
  | succ t ih =>
    intro v e1 e0 e2 h hS
    have hv : v < W.1 ^ W.2.1 := by omega
    have ml := mul_lt2 hk2 he u v
    have m0 : 0 < mul W2 u v := Nat.pos_of_ne_zero (hD u v hu0 (by omega) e0 (by omega))
    have hk3 := pri_ok (W2 := W2) hk (Lqz W W2 v) (Rqz W W2 u)
    obtain ⟨wv, hL, hf, hC⟩ := id hS
    refine e_iload (pc := 102) dX11_isotopes_102 rfl ?_
    refine e_aload_n (pc := 104) dX11_isotopes_104 rfl rfl ?_
    refine e_get (pc := 105) fl_X11_112 dX11_isotopes_105 (by repeat (first | assumption | exact hset_eq _ _ _ | (apply Lay.hd; assumption) | rw [hset_ne _ _ (by omega)])) (by rfl) ?_
    refine n_icmp_ge (pc := 108) (tgt := 149) dX11_isotopes_108 (by decide) (by omega) (by omega) (fun c => absurd c (by omega)) (fun hb_ => ?_)
    refine e_aload_n (pc := 111) dX11_isotopes_111 rfl rfl ?_
    refine e_iload (pc := 112) dX11_isotopes_112 rfl ?_
    refine e_iload (pc := 114) dX11_isotopes_114 rfl ?_
    refine n_Vv (pc := 116) (c_X11_principal (Lf := Lqz W W2 v) (Rf := Rqz W W2 u) hL hk hk2 he hC hu hv (Tb_L hk hk2 he hD e0 hv) (Tb_R hk hk2 he hD hu0 hu)) bX11_principal q_i_X11_principal q_s_X11_principal q_m_X11_344 dX11_isotopes_116 rfl rfl (by repeat (first | assumption | exact hset_eq _ _ _ | (apply Lay.hd; assumption) | rw [hset_ne _ _ (by omega)])) rfl rfl (by exact Nat.le_of_ble_eq_true rfl) ⟨by decide, by decide⟩ ⟨rfl, rfl, Nat.zero_le _, Nat.zero_le _⟩ (fun h2 hp => ?_)
    obtain ⟨l2, f2, c2⟩ := hp
    have hC2 : CuA h2 (m + 105) W2 := hC.keep (f2 _ (by omega))
    refine e_aload_n (pc := 119) dX11_isotopes_119 rfl rfl ?_
    refine e_aload_n (pc := 120) dX11_isotopes_120 rfl rfl ?_
    refine e_aload_n (pc := 121) dX11_isotopes_121 rfl rfl ?_
    refine e_get (pc := 122) fl_X11_92 dX11_isotopes_122 (by repeat (first | assumption | exact hset_eq _ _ _ | (apply Lay.hd; assumption) | rw [hset_ne _ _ (by omega)])) (by rfl) ?_
    refine e_iload (pc := 125) dX11_isotopes_125 rfl ?_
    refine e_iload (pc := 127) dX11_isotopes_127 rfl ?_
    refine n_V (pc := 129) (c_timesK l2 (hC2.i hk2) hk2 he (show u < 2 ^ 31 by omega) (show v < 2 ^ 31 by omega) (by omega)) bX11_timesBy q_i_X11_timesBy q_s_X11_timesBy q_m_X11_123 dX11_isotopes_129 rfl rfl (by repeat (first | assumption | exact hset_eq _ _ _ | (apply Lay.hd; assumption) | rw [hset_ne _ _ (by omega)])) rfl rfl (by exact Nat.le_of_ble_eq_true rfl) ⟨by decide, by decide⟩ ⟨rfl, rfl, Nat.zero_le _, Nat.zero_le _⟩ (fun z h3 hp => ?_)
    obtain ⟨rfl, l3, f3⟩ := hp
    have hC3 : CuA h3 (m + 105) W2 := hC2.keep (f3 _ (by omega) (by omega) (by omega))
    have c3 : CuI h3 (m + 103) (pri W W2 (Lqz W W2 v) (Rqz W W2 u)) := c2.keep (f3 _ (by omega) (by omega) (by omega))
    refine e_put (pc := 132) pl_X11_89 dX11_isotopes_132 (by repeat (first | assumption | exact hset_eq _ _ _ | (apply Lay.hd; assumption) | rw [hset_ne _ _ (by omega)])) (by rfl) (by rfl) (by exact Nat.le_of_ble_eq_true rfl) ?_
    have l4 : Lay (hset h3 m (ob 10 (mfs m W.1 W.2.1 (W.1 ^ W.2.1) (s.setWa (nI (mul W2 u v)))))) m W (s.setWa (nI (mul W2 u v))) := l3.wa
    have c4 : CuI (hset h3 m (ob 10 (mfs m W.1 W.2.1 (W.1 ^ W.2.1) (s.setWa (nI (mul W2 u v)))))) (m + 103) (pri W W2 (Lqz W W2 v) (Rqz W W2 u)) := c3.keep (hset_ne _ _ (by omega))
    have C4 : CuA (hset h3 m (ob 10 (mfs m W.1 W.2.1 (W.1 ^ W.2.1) (s.setWa (nI (mul W2 u v)))))) (m + 105) W2 := hC3.keep (hset_ne _ _ (by omega))
    have f4 : FmI m hh (hset h3 m (ob 10 (mfs m W.1 W.2.1 (W.1 ^ W.2.1) (s.setWa (nI (mul W2 u v)))))) := ((hf.tr f2.i).tr f3.p.i).hm
    show VI MX11_isotopes sz Pr (hset h3 m (ob 10 (mfs m W.1 W.2.1 (W.1 ^ W.2.1) (s.setWa (nI (mul W2 u v)))))) 135 _ _
    generalize hset h3 m (ob 10 (mfs m W.1 W.2.1 (W.1 ^ W.2.1) (s.setWa (nI (mul W2 u v))))) = h4 at l4 c4 C4 f4 ⊢
    refine e_iload_n (pc := 135) dX11_isotopes_135 rfl rfl ?_
    refine e_aload_n (pc := 136) dX11_isotopes_136 rfl rfl ?_
    refine n_iconst (pc := 137) 0 dX11_isotopes_137 (by decide) ?_
    refine n_V (pc := 138) (c_X11_maps (fx := mul W2 u v) l4 hk hk3 ⟨rfl, rfl⟩ (Or.inr ⟨m0, ml, rfl⟩) c4) bX11_maps q_i_X11_maps q_s_X11_maps q_m_X11_341 dX11_isotopes_138 rfl rfl (by repeat (first | assumption | exact hset_eq _ _ _ | (apply Lay.hd; assumption) | rw [hset_ne _ _ (by omega)])) rfl rfl (by exact Nat.le_of_ble_eq_true rfl) ⟨by decide, by decide⟩ ⟨rfl, rfl, Nat.zero_le _, Nat.zero_le _⟩ (fun z h5 hp => ?_)
    obtain ⟨rfl, l5, f5⟩ := hp
    rw [pri_tw hk hk2 he hD hu0 hu e0 hv]
    refine n_iadd (pc := 141) dX11_isotopes_141 ?_
    refine e_istore_n (pc := 142) dX11_isotopes_142 rfl (by decide) ?_
    refine n_inc (pc := 143) dX11_isotopes_143 rfl (by decide) ?_
    refine e_goto (pc := 146) (tgt := 102) dX11_isotopes_146 (by decide) ?_
    have q := ih (v + 1) (by omega) (by omega) (by omega) h5 ⟨_, l5, f4.tr f5.p.i, C4.keep (f5 _ (by omega))⟩
    rw [show all + sg (v + 1) (fun v => isoF W W2 u v) = all + sg v (fun v => isoF W W2 u v) + isoF W W2 u v from (Nat.add_assoc _ _ _).symm] at q
    exact q
theorem isoF_0 {u : Nat} : isoF W W2 u 0 = 0 := by unfold isoF; rw [if_neg (fun q => absurd q.2 (Nat.lt_irrefl 0))]
theorem isoF_00 : sg (W.1 ^ W.2.1) (fun v => isoF W W2 0 v) = 0 := sg_zero (fun v _ => by unfold isoF; rw [if_neg (fun q => absurd q.1 (Nat.lt_irrefl 0))])
theorem l_is_u {a b : Value} (hk : Wok W) (hk2 : Wok W2) (he : W2.1 = W.1 ∧ W2.2.1 = W.2.1) (hD : Div W2) :
    ∀ (t u : Nat), t = W.1 ^ W.2.1 - u → 0 < u → u ≤ W.1 ^ W.2.1 → ∀ h, IsS hh h m W W2 s → VI MX11_isotopes sz (fun z h' => z = nI (isoN W W2) ∧ Lay h' m W (s.setWa (-1)) ∧ FmI m hh h') h 90 [some (.ref m), some a, some b, some (.int (nI (sg u (fun u => sg (W.1 ^ W.2.1) (fun v => isoF W W2 u v))))), some (.int (nI u)), none] [] := by
  obtain ⟨b1, b2, b3, b4, b5⟩ := hk.b
  have pos := hk.pos
  intro t
  induction t with
  | zero =>
    intro u e1 e0 e2 h hS
    have e' : u = W.1 ^ W.2.1 := by omega
    obtain ⟨wv, hL, hf, hC⟩ := id hS
    refine e_iload (pc := 90) dX11_isotopes_90 rfl ?_
    refine e_aload_n (pc := 92) dX11_isotopes_92 rfl rfl ?_
    refine e_get (pc := 93) fl_X11_112 dX11_isotopes_93 (by repeat (first | assumption | exact hset_eq _ _ _ | (apply Lay.hd; assumption) | rw [hset_ne _ _ (by omega)])) (by rfl) ?_
    refine n_icmp_ge (pc := 96) (tgt := 155) dX11_isotopes_96 (by decide) (by omega) (by omega) (fun hb_ => ?_) (fun c => absurd c (by omega))
    refine e_aload_n (pc := 155) dX11_isotopes_155 rfl rfl ?_
    refine e_iconst (pc := 156) (v := -1) dX11_isotopes_156 (by decide) ?_
    refine e_put (pc := 157) pl_X11_89 dX11_isotopes_157 (by repeat (first | assumption | exact hset_eq _ _ _ | (apply Lay.hd; assumption) | rw [hset_ne _ _ (by omega)])) (by rfl) (by rfl) (by exact Nat.le_of_ble_eq_true rfl) ?_
    refine e_iload_n (pc := 160) dX11_isotopes_160 rfl rfl ?_
    exact n_iret (pc := 161) dX11_isotopes_161 rfl ⟨by rw [e']; rfl, Lay.wa (v := -1) hL, hf.hm⟩
  | succ t ih =>
    intro u e1 e0 e2 h hS
    obtain ⟨wv, hL, hf, hC⟩ := id hS
    refine e_iload (pc := 90) dX11_isotopes_90 rfl ?_
    refine e_aload_n (pc := 92) dX11_isotopes_92 rfl rfl ?_
    refine e_get (pc := 93) fl_X11_112 dX11_isotopes_93 (by repeat (first | assumption | exact hset_eq _ _ _ | (apply Lay.hd; assumption) | rw [hset_ne _ _ (by omega)])) (by rfl) ?_
    refine n_icmp_ge (pc := 96) (tgt := 155) dX11_isotopes_96 (by decide) (by omega) (by omega) (fun c => absurd c (by omega)) (fun hb_ => ?_)
    refine n_iconst (pc := 99) 1 dX11_isotopes_99 (by decide) ?_
    refine e_istore (pc := 100) dX11_isotopes_100 (by decide) ?_
    have q := l_is_v (hh := hh) (sz := sz) (s := s) (a := a) (b := b) (u := u) (all := sg u (fun u => sg (W.1 ^ W.2.1) (fun v => isoF W W2 u v))) (Pr := fun z h' => z = nI (isoN W W2) ∧ Lay h' m W (s.setWa (-1)) ∧ FmI m hh h') hk hk2 he hD e0 (by omega) (fun h2 hS2 => by
      refine n_inc (pc := 149) dX11_isotopes_149 rfl (by decide) ?_
      refine e_goto (pc := 152) (tgt := 90) dX11_isotopes_152 (by decide) ?_
      exact ih (u + 1) (by omega) (by omega) (by omega) h2 hS2) (W.1 ^ W.2.1 - 1) 1 rfl (by decide) (by omega) h hS
    rw [show sg 1 (fun v => isoF W W2 u v) = 0 from by show 0 + isoF W W2 u 0 = 0; rw [isoF_0], Nat.add_zero] at q
    exact q
theorem l_is_c {a b : Value} {h : AH} {Pr : Int32 → AH → Prop} (hL : Lay h m W2 s)
    (kk : ∀ g, (∀ t, t < 125 → g t = nI (W2.2.2 t)) → VI MX11_isotopes sz Pr (hset h (m + 105) (aI 125 g)) 62 [some (.ref m), some a, some b, none, none, none] []) :
    ∀ (t k : Nat), t = 125 - k → k ≤ 125 → ∀ g, (∀ t, t < k → g t = nI (W2.2.2 t)) → VI MX11_isotopes sz Pr (hset h (m + 105) (aI 125 g)) 38 [some (.ref m), some a, some b, some (.int (nI k)), none, none] [] := by
  obtain ⟨gc, c1, c2⟩ := hL.2.1
  intro t
  induction t with
  | zero =>
    intro k e1 e2 g hg
    have e' : k = 125 := by omega
    subst e'
    refine e_iload_n (pc := 38) dX11_isotopes_38 rfl rfl ?_
    refine n_bipush (pc := 39) 125 dX11_isotopes_39 (by decide) ?_
    refine n_icmp_ge (pc := 41) (tgt := 62) dX11_isotopes_41 (by decide) (by omega) (by omega) (fun hb_ => ?_) (fun c => absurd c (by omega))
    refine V.mask [true, true, true, false, false, false] ?_
    exact kk g hg
  | succ t ih =>
    intro k e1 e2 g hg
    have z := c2 k (by omega)
    refine e_iload_n (pc := 38) dX11_isotopes_38 rfl rfl ?_
    refine n_bipush (pc := 39) 125 dX11_isotopes_39 (by decide) ?_
    refine n_icmp_ge (pc := 41) (tgt := 62) dX11_isotopes_41 (by decide) (by omega) (by omega) (fun c => absurd c (by omega)) (fun hb_ => ?_)
    refine e_aload_n (pc := 44) dX11_isotopes_44 rfl rfl ?_
    refine e_get (pc := 45) fl_X11_92 dX11_isotopes_45 (by repeat (first | assumption | exact hset_eq _ _ _ | (apply Lay.hd; assumption) | rw [hset_ne _ _ (by omega)])) (by rfl) ?_
    refine e_iload_n (pc := 48) dX11_isotopes_48 rfl rfl ?_
    refine e_aload_n (pc := 49) dX11_isotopes_49 rfl rfl ?_
    refine e_get (pc := 50) fl_X11_16 dX11_isotopes_50 (by repeat (first | assumption | exact hset_eq _ _ _ | (apply Lay.hd; assumption) | rw [hset_ne _ _ (by omega)])) (by rfl) ?_
    refine e_iload_n (pc := 53) dX11_isotopes_53 rfl rfl ?_
    refine e_ialdN (pc := 54) k dX11_isotopes_54 (by repeat (first | assumption | exact hset_eq _ _ _ | (apply Lay.hd; assumption) | rw [hset_ne _ _ (by omega)])) (by rfl) (by omega) (by first | decide | omega) ?_
    rw [z]
    refine e_iastN (pc := 55) k dX11_isotopes_55 (by repeat (first | assumption | exact hset_eq _ _ _ | (apply Lay.hd; assumption) | rw [hset_ne _ _ (by omega)])) (by rfl) (by omega) (by first | decide | omega) ?_
    refine e_heap (hset_hset h (m + 105) _ _) ?_
    refine n_inc (pc := 56) dX11_isotopes_56 rfl (by decide) ?_
    refine e_goto (pc := 59) (tgt := 38) dX11_isotopes_59 (by decide) ?_
    refine ih (k + 1) (by omega) (by omega) _ (fun t ht => ?_)
    by_cases c : t = k
    · subst c; rw [pk_us]
    · rw [pk_un c]; exact hg t (by omega)
end ISO
section ISX
variable {h : AH} {m : Nat} {x y : Sx} {ik : Bool} {len : Nat} {f : Nat → Nat} {ft fp : Int32}
theorem c_X11_same (hX : MAt h m x y ik len f ft fp) (hx : SxOk x) (a b : Int32) : CI yX11_same MX11_same [.ref m, .int a, .int b] h (fun z h' => Q_same x a b z ∧ MAt h' m x y ik len f ft fp ∧ Er m (m + 107) h h') := by
  obtain ⟨⟨p, n, q, s, hM, hs⟩, hR, ⟨g, hw, hg⟩, -⟩ := id hX
  refine CI.ofV (by decide) rfl rfl (by simp [Value.category]) (by exact Nat.le_of_ble_eq_true rfl) (fun sz => ?_)
  refine e_aload_n (pc := 0) dX11_same_0 rfl rfl ?_
  refine e_iload_n (pc := 1) dX11_same_1 rfl rfl ?_
  refine e_iload_n (pc := 2) dX11_same_2 rfl rfl ?_
  refine n_VP (pc := 3) (c_X11_areOfOneSize hX hx a b) bX11_areOfOneSize q_i_X11_areOfOneSize q_s_X11_areOfOneSize q_m_X11_321 dX11_same_3 rfl rfl (by repeat (first | assumption | exact hset_eq _ _ _ | (apply Lay.hd; assumption) | rw [hset_ne _ _ (by omega)])) rfl rfl (by exact Nat.le_of_ble_eq_true rfl) ⟨by decide, by decide⟩ ⟨rfl, rfl, Nat.zero_le _, Nat.zero_le _⟩ ?_
  refine n_bif_eq (pc := 6) (tgt := 19) dX11_same_6 (by decide) (fun c => ?_) (fun c => ?_)
  · refine e_iconst (pc := 19) (v := -1) dX11_same_19 (by decide) ?_
    exact n_iret (pc := 20) dX11_same_20 rfl ⟨qF (by rw [c, Bool.false_and]) rfl, hX, Er.rf _ _ _⟩
  obtain ⟨a', b', ha, hb, rfl, rfl, he⟩ := alB_of c
  have wk := hx.1 a' (by omega)
  have wk2 := hx.1 b' (by omega)
  obtain ⟨b1, b2, b3, b4, b5⟩ := wk.b
  have cla : wld x (nI a') = x.ws a' := wld_nI ha
  have clb : wld x (nI b') = x.ws b' := wld_nI hb
  refine e_aload_n (pc := 9) dX11_same_9 rfl rfl ?_
  refine e_iload_n (pc := 10) dX11_same_10 rfl rfl ?_
  refine n_VP (pc := 11) (c_X11_orderOf hM hw (hg.1 a' ha) wk ha) bX11_orderOf q_i_X11_orderOf q_s_X11_orderOf q_m_X11_309 dX11_same_11 rfl rfl (by repeat (first | assumption | exact hset_eq _ _ _ | (apply Lay.hd; assumption) | rw [hset_ne _ _ (by omega)])) rfl rfl (by exact Nat.le_of_ble_eq_true rfl) ⟨by decide, by decide⟩ ⟨rfl, rfl, Nat.zero_le _, Nat.zero_le _⟩ ?_
  refine n_bipush (pc := 14) 27 dX11_same_14 (by decide) ?_
  refine n_icmp_le (pc := 16) (tgt := 21) dX11_same_16 (by decide) (by omega) (by omega) (fun c2 => ?_) (fun c2 => ?_)
  · refine e_aload_n (pc := 21) dX11_same_21 rfl rfl ?_
    refine e_iload_n (pc := 22) dX11_same_22 rfl rfl ?_
    refine n_Vv (pc := 23) (c_X11_laysOut hM hR hw (hg.1 a' ha) wk ha) bX11_laysOut q_i_X11_laysOut q_s_X11_laysOut q_m_X11_147 dX11_same_23 rfl rfl (by repeat (first | assumption | exact hset_eq _ _ _ | (apply Lay.hd; assumption) | rw [hset_ne _ _ (by omega)])) rfl rfl (by exact Nat.le_of_ble_eq_true rfl) ⟨by decide, by decide⟩ ⟨rfl, rfl, Nat.zero_le _, Nat.zero_le _⟩ (fun h2 hp => ?_)
    obtain ⟨l2, e2⟩ := id hp
    obtain ⟨hX2, q2⟩ := hX.laid (p := p) (n := n) (q := q) hs hp
    have w2 : h2 (m + 1) = some (aI 6070 g) := (e2 _ (by omega) (by omega)).trans hw
    refine e_aload_n (pc := 26) dX11_same_26 rfl rfl ?_
    refine e_iload_n (pc := 27) dX11_same_27 rfl rfl ?_
    refine n_Vv (pc := 28) (c_X11_laysOther l2 w2 (hg.1 b' hb) hb) bX11_laysOther q_i_X11_laysOther q_s_X11_laysOther q_m_X11_324 dX11_same_28 rfl rfl (by repeat (first | assumption | exact hset_eq _ _ _ | (apply Lay.hd; assumption) | rw [hset_ne _ _ (by omega)])) rfl rfl (by exact Nat.le_of_ble_eq_true rfl) ⟨by decide, by decide⟩ ⟨rfl, rfl, Nat.zero_le _, Nat.zero_le _⟩ (fun h3 hp3 => ?_)
    obtain ⟨l3, c3, e3⟩ := hp3
    have q3 : FmC m h h3 := fun d hd => (e3 d (by omega)).trans (q2 d hd)
    refine e_aload_n (pc := 31) dX11_same_31 rfl rfl ?_
    refine n_iconst (pc := 32) 0 dX11_same_32 (by decide) ?_
    refine n_V (pc := 33) (c_X11_maps (fx := 0) l3 wk wk2 he (Or.inl ⟨rfl, hs.2.2.2.2⟩) (c3.i wk2)) bX11_maps q_i_X11_maps q_s_X11_maps q_m_X11_341 dX11_same_33 rfl rfl (by repeat (first | assumption | exact hset_eq _ _ _ | (apply Lay.hd; assumption) | rw [hset_ne _ _ (by omega)])) rfl rfl (by exact Nat.le_of_ble_eq_true rfl) ⟨by decide, by decide⟩ ⟨rfl, rfl, Nat.zero_le _, Nat.zero_le _⟩ (fun z h4 hp => ?_)
    obtain ⟨rfl, l4, f4⟩ := hp
    exact n_iret (pc := 36) dX11_same_36 rfl ⟨qT (by rw [c, cla, decide_eq_true c2]; rfl) (by rw [cla, clb]), hX.re l4.1 hs l4.2.2 (q3.tr f4.fq.qf), (q3.tr f4.fq.qf).er⟩
  · refine e_iconst (pc := 19) (v := -1) dX11_same_19 (by decide) ?_
    exact n_iret (pc := 20) dX11_same_20 rfl ⟨qF (by rw [cla, decide_eq_false (by omega), Bool.and_false]) rfl, hX, Er.rf _ _ _⟩
theorem c_X11_isotopes (hX : MAt h m x y ik len f ft fp) (hx : SxOk x) (a b : Int32) : CI yX11_isotopes MX11_isotopes [.ref m, .int a, .int b] h (fun z h' => Q_iso x a b z ∧ MAt h' m x y ik len f ft fp ∧ Er m (m + 107) h h') := by
  obtain ⟨⟨p, n, q, s, hM, hs⟩, hR, ⟨g, hw, hg⟩, -⟩ := id hX
  refine CI.ofV (by decide) rfl rfl (by simp [Value.category]) (by exact Nat.le_of_ble_eq_true rfl) (fun sz => ?_)
  refine e_aload_n (pc := 0) dX11_isotopes_0 rfl rfl ?_
  refine e_iload_n (pc := 1) dX11_isotopes_1 rfl rfl ?_
  refine e_iload_n (pc := 2) dX11_isotopes_2 rfl rfl ?_
  refine n_VP (pc := 3) (c_X11_areOfOneSize hX hx a b) bX11_areOfOneSize q_i_X11_areOfOneSize q_s_X11_areOfOneSize q_m_X11_321 dX11_isotopes_3 rfl rfl (by repeat (first | assumption | exact hset_eq _ _ _ | (apply Lay.hd; assumption) | rw [hset_ne _ _ (by omega)])) rfl rfl (by exact Nat.le_of_ble_eq_true rfl) ⟨by decide, by decide⟩ ⟨rfl, rfl, Nat.zero_le _, Nat.zero_le _⟩ ?_
  refine n_bif_eq (pc := 6) (tgt := 19) dX11_isotopes_6 (by decide) (fun c => ?_) (fun c => ?_)
  · refine e_iconst (pc := 19) (v := -1) dX11_isotopes_19 (by decide) ?_
    exact n_iret (pc := 20) dX11_isotopes_20 rfl ⟨qF (by rw [c, Bool.false_and]) rfl, hX, Er.rf _ _ _⟩
  obtain ⟨a', b', ha, hb, rfl, rfl, he⟩ := alB_of c
  have wk := hx.1 a' (by omega)
  have wk2 := hx.1 b' (by omega)
  obtain ⟨b1, b2, b3, b4, b5⟩ := wk.b
  have pos := wk.pos
  have cla : wld x (nI a') = x.ws a' := wld_nI ha
  have clb : wld x (nI b') = x.ws b' := wld_nI hb
  refine e_aload_n (pc := 9) dX11_isotopes_9 rfl rfl ?_
  refine e_iload_n (pc := 10) dX11_isotopes_10 rfl rfl ?_
  refine n_VP (pc := 11) (c_X11_orderOf hM hw (hg.1 a' ha) wk ha) bX11_orderOf q_i_X11_orderOf q_s_X11_orderOf q_m_X11_309 dX11_isotopes_11 rfl rfl (by repeat (first | assumption | exact hset_eq _ _ _ | (apply Lay.hd; assumption) | rw [hset_ne _ _ (by omega)])) rfl rfl (by exact Nat.le_of_ble_eq_true rfl) ⟨by decide, by decide⟩ ⟨rfl, rfl, Nat.zero_le _, Nat.zero_le _⟩ ?_
  refine n_bipush (pc := 14) 16 dX11_isotopes_14 (by decide) ?_
  refine n_icmp_le (pc := 16) (tgt := 21) dX11_isotopes_16 (by decide) (by omega) (by omega) (fun c2 => ?_) (fun c2 => ?_)
  rotate_left
  · refine e_iconst (pc := 19) (v := -1) dX11_isotopes_19 (by decide) ?_
    exact n_iret (pc := 20) dX11_isotopes_20 rfl ⟨qF (by rw [cla, decide_eq_false (by omega), Bool.false_and, Bool.and_false]) rfl, hX, Er.rf _ _ _⟩
  have out : ∀ {W : Wd} {h3 : AH}, Lay h3 m W s → FmC m h h3 → (bl (Div (x.ws a')) && (bl (Div (x.ws b')) && bl (UnitOf (x.ws a') (nI 1)))) = false → Q_iso x (nI a') (nI b') (-1) ∧ MAt h3 m x y ik len f ft fp ∧ Er m (m + 107) h h3 := fun {W h3} k1 k2 k3 => ⟨qF (by rw [cla, clb, k3, Bool.and_false, Bool.and_false]) rfl, hX.re k1.1 hs k1.2.2 k2, k2.er⟩
  refine e_aload_n (pc := 21) dX11_isotopes_21 rfl rfl ?_
  refine e_iload_n (pc := 22) dX11_isotopes_22 rfl rfl ?_
  refine n_Vv (pc := 23) (c_X11_laysOut hM hR hw (hg.1 b' hb) wk2 hb) bX11_laysOut q_i_X11_laysOut q_s_X11_laysOut q_m_X11_147 dX11_isotopes_23 rfl rfl (by repeat (first | assumption | exact hset_eq _ _ _ | (apply Lay.hd; assumption) | rw [hset_ne _ _ (by omega)])) rfl rfl (by exact Nat.le_of_ble_eq_true rfl) ⟨by decide, by decide⟩ ⟨rfl, rfl, Nat.zero_le _, Nat.zero_le _⟩ (fun h2 hp => ?_)
  obtain ⟨l2, e2⟩ := id hp
  obtain ⟨hX2, q2⟩ := hX.laid (p := p) (n := n) (q := q) hs hp
  refine e_aload_n (pc := 26) dX11_isotopes_26 rfl rfl ?_
  refine n_V (pc := 27) (c_X11_firstFail l2 wk2) bX11_firstFail q_i_X11_firstFail q_s_X11_firstFail q_m_X11_275 dX11_isotopes_27 rfl rfl (by repeat (first | assumption | exact hset_eq _ _ _ | (apply Lay.hd; assumption) | rw [hset_ne _ _ (by omega)])) rfl rfl (by exact Nat.le_of_ble_eq_true rfl) ⟨by decide, by decide⟩ ⟨rfl, rfl, Nat.zero_le _, Nat.zero_le _⟩ (fun z h3 hp => ?_)
  obtain ⟨p1, l3, f3⟩ := hp
  have q3 : FmC m h h3 := q2.tr f3.qf
  refine e_iconst (pc := 30) (v := -1) dX11_isotopes_30 (by decide) ?_
  by_cases hD2 : Div (x.ws b')
  rotate_left
  · have ne : z ≠ -1 := fun e => hD2 ((p1.div wk2).mp e)
    refine e_icmp_eq (pc := 31) (tgt := 36) dX11_isotopes_31 (by decide) (fun q => absurd q ne) (fun _ => ?_)
    refine e_iconst (pc := 34) (v := -1) dX11_isotopes_34 (by decide) ?_
    exact n_iret (pc := 35) dX11_isotopes_35 rfl (out l3 q3 (by rw [bl_f hD2, Bool.false_and, Bool.and_false]))
  have e := (p1.div wk2).mpr hD2
  subst e
  refine e_icmp_eq (pc := 31) (tgt := 36) dX11_isotopes_31 (by decide) (fun _ => ?_) (fun q => absurd rfl q)
  obtain ⟨g5, r5⟩ := l3.2.2.row (k := 105) (isR_d _ (by decide))
  refine n_iconst (pc := 36) 0 dX11_isotopes_36 (by decide) ?_
  refine e_istore_n (pc := 37) dX11_isotopes_37 rfl (by decide) ?_
  refine e_heap (hset_self r5).symm ?_
  refine l_is_c l3 (fun gb hgb => ?_) 125 0 rfl (Nat.zero_le _) g5 (fun t ht => absurd ht (Nat.not_lt_zero t))
  have l4 : Lay (hset h3 (m + 105) (aI 125 gb)) m (x.ws b') s := l3.row (isR_d 105 (by decide)) rfl (by decide) (by decide)
  have C4 : CuA (hset h3 (m + 105) (aI 125 gb)) (m + 105) (x.ws b') := ⟨gb, hset_eq _ _ _, hgb⟩
  have q4 : FmC m h (hset h3 (m + 105) (aI 125 gb)) := q3.set (by omega)
  generalize hset h3 (m + 105) (aI 125 gb) = h4 at l4 C4 q4 ⊢
  have w4 : h4 (m + 1) = some (aI 6070 g) := (q4 _ (by omega)).trans hw
  refine e_aload_n (pc := 62) dX11_isotopes_62 rfl rfl ?_
  refine e_iload_n (pc := 63) dX11_isotopes_63 rfl rfl ?_
  refine n_Vv (pc := 64) (c_X11_laysOut l4.1 l4.2.2 w4 (hg.1 a' ha) wk ha) bX11_laysOut q_i_X11_laysOut q_s_X11_laysOut q_m_X11_147 dX11_isotopes_64 rfl rfl (by repeat (first | assumption | exact hset_eq _ _ _ | (apply Lay.hd; assumption) | rw [hset_ne _ _ (by omega)])) rfl rfl (by exact Nat.le_of_ble_eq_true rfl) ⟨by decide, by decide⟩ ⟨rfl, rfl, Nat.zero_le _, Nat.zero_le _⟩ (fun h5 hp => ?_)
  obtain ⟨l5, e5⟩ := hp
  have q5 : FmC m h h5 := fun d hd => by
    by_cases ed : d = m
    · omega
    · exact (e5 d ed (by omega)).trans (q4 d hd)
  have C5 : CuA h5 (m + 105) (x.ws b') := C4.keep (e5 _ (by omega) (by omega))
  refine e_aload_n (pc := 67) dX11_isotopes_67 rfl rfl ?_
  refine n_V (pc := 68) (c_X11_firstFail l5 wk) bX11_firstFail q_i_X11_firstFail q_s_X11_firstFail q_m_X11_275 dX11_isotopes_68 rfl rfl (by repeat (first | assumption | exact hset_eq _ _ _ | (apply Lay.hd; assumption) | rw [hset_ne _ _ (by omega)])) rfl rfl (by exact Nat.le_of_ble_eq_true rfl) ⟨by decide, by decide⟩ ⟨rfl, rfl, Nat.zero_le _, Nat.zero_le _⟩ (fun z h6 hp => ?_)
  obtain ⟨p6, l6, f6⟩ := hp
  have q6 : FmC m h h6 := q5.tr f6.qf
  refine e_iconst (pc := 71) (v := -1) dX11_isotopes_71 (by decide) ?_
  by_cases hD : Div (x.ws a')
  rotate_left
  · have ne : z ≠ -1 := fun e => hD ((p6.div wk).mp e)
    refine e_icmp_ne (pc := 72) (tgt := 83) dX11_isotopes_72 (by decide) (fun _ => ?_) (fun q => absurd q ne)
    refine e_iconst (pc := 83) (v := -1) dX11_isotopes_83 (by decide) ?_
    exact n_iret (pc := 84) dX11_isotopes_84 rfl (out l6 q6 (by rw [bl_f hD, Bool.false_and]))
  have e := (p6.div wk).mpr hD
  subst e
  refine e_icmp_ne (pc := 72) (tgt := 83) dX11_isotopes_72 (by decide) (fun q => absurd rfl q) (fun _ => ?_)
  refine e_aload_n (pc := 75) dX11_isotopes_75 rfl rfl ?_
  refine n_V (pc := 76) (c_X11_unit l6 wk) bX11_unit q_i_X11_unit q_s_X11_unit q_m_X11_282 dX11_isotopes_76 rfl rfl (by repeat (first | assumption | exact hset_eq _ _ _ | (apply Lay.hd; assumption) | rw [hset_ne _ _ (by omega)])) rfl rfl (by exact Nat.le_of_ble_eq_true rfl) ⟨by decide, by decide⟩ ⟨rfl, rfl, Nat.zero_le _, Nat.zero_le _⟩ (fun z h7 hp => ?_)
  obtain ⟨p7, l7, f7⟩ := hp
  have q7 : FmC m h h7 := q6.tr f7.qf
  have C7 : CuA h7 (m + 105) (x.ws b') := C5.keep ((f7 _ (by omega)).trans (f6 _ (by omega)))
  refine n_iconst (pc := 79) 1 dX11_isotopes_79 (by decide) ?_
  refine e_icmp_eq (pc := 80) (tgt := 85) dX11_isotopes_80 (by decide) (fun qe => ?_) (fun qe => ?_)
  rotate_left
  · refine e_iconst (pc := 83) (v := -1) dX11_isotopes_83 (by decide) ?_
    exact n_iret (pc := 84) dX11_isotopes_84 rfl (out l7 q7 (by rw [bl_f (P := UnitOf (x.ws a') (nI 1)) (fun z => qe (UnitOf_uni p7 z)), Bool.and_false, Bool.and_false]))
  subst qe
  refine n_iconst (pc := 85) 0 dX11_isotopes_85 (by decide) ?_
  refine e_istore_n (pc := 86) dX11_isotopes_86 rfl (by decide) ?_
  refine n_iconst (pc := 87) 1 dX11_isotopes_87 (by decide) ?_
  refine e_istore (pc := 88) dX11_isotopes_88 (by decide) ?_
  have sw : s.setWa (-1) = s := by
    have := hs.2.2.2.2
    show (s.1, s.2.1, s.2.2.1, s.2.2.2.1, s.2.2.2.2.1, s.2.2.2.2.2.1, s.2.2.2.2.2.2.1, s.2.2.2.2.2.2.2.1, s.2.2.2.2.2.2.2.2.1, s.2.2.2.2.2.2.2.2.2.1, s.2.2.2.2.2.2.2.2.2.2.1, s.2.2.2.2.2.2.2.2.2.2.2.1, (-1 : Int32)) = s
    rw [← this]
  have qq := l_is_u (hh := h7) (sz := sz) (a := .int (nI a')) (b := .int (nI b')) wk wk2 he hD2 ((x.ws a').1 ^ (x.ws a').2.1 - 1) 1 rfl (by decide) (by omega) h7 ⟨-1, by rw [sw]; exact l7, FmI.rf _ _, C7⟩
  rw [show sg 1 (fun u => sg ((x.ws a').1 ^ (x.ws a').2.1) (fun v => isoF (x.ws a') (x.ws b') u v)) = 0 from by show 0 + sg _ (fun v => isoF (x.ws a') (x.ws b') 0 v) = 0; rw [isoF_00]] at qq
  refine V.post ?_ qq
  intro rr h' z qz
  obtain ⟨k1, z', k2, rfl, k3, k4⟩ := qz
  rw [sw] at k3
  exact ⟨k1, _, k2, qT (by rw [c, cla, clb, decide_eq_true c2, bl_t hD, bl_t hD2, bl_t p7]; rfl) (by rw [cla, clb]), hX.re k3.1 hs k3.2.2 (q7.tr k4.qf), (q7.tr k4.qf).er⟩
end ISX
