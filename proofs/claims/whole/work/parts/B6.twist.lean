/-! ===== the reference: powers, twists ===== -/
section TW
variable {H : AH} {m sz : Nat} {s : Ms} {W F : Wd} {hh : AH}
theorem lpw_lt2 (hkF : Wok F) (he : F.1 = W.1 ∧ F.2.1 = W.2.1) {x : Nat} (hx : x < W.1 ^ W.2.1) : ∀ k, lpw F x k < W.1 ^ W.2.1
  | 0 => hx
  | k + 1 => mul_lt2 hkF he _ _
theorem l_pw {x e : Nat} {x2 : Option Value} (hk : Wok W) (hkF : Wok F) (he : F.1 = W.1 ∧ F.2.1 = W.2.1) (hx : x < W.1 ^ W.2.1) (he2 : e < 2 ^ 30) :
    ∀ (t k : Nat), t = e - k → 0 < k → k ≤ e → ∀ h, Lay h m W s → CuA h (m + 8) F → FdM m hh h → VI MX11_powered sz (fun z h' => z = nI (lpw F x (e - 1)) ∧ Lay h' m W s ∧ FdM m hh h') h 15 [some (.ref m), some (.int (nI x)), x2, some (.int (nI (lpw F x (k - 1)))), some (.int (nI e)), some (.int (nI k))] [] := by
  obtain ⟨b1, b2, b3, b4, b5⟩ := hk.b
  intro t
  induction t with
  | zero =>
    intro k e1 e0 e2 h hL hF fd
    have e' : k = e := by omega
    refine e_iload (pc := 15) dX11_powered_15 rfl ?_
    refine e_iload (pc := 17) dX11_powered_17 rfl ?_
    refine n_icmp_ge (pc := 19) (tgt := 39) dX11_powered_19 (by decide) (by omega) (by omega) (fun hb_ => ?_) (fun c => absurd c (by omega))
    refine e_iload_n (pc := 39) dX11_powered_39 rfl rfl ?_
    exact n_iret (pc := 40) dX11_powered_40 rfl ⟨by rw [e'], hL, fd⟩
  | succ t ih =>
    intro k e1 e0 e2 h hL hF fd
    have vl := lpw_lt2 hkF he hx (k - 1)
    refine e_iload (pc := 15) dX11_powered_15 rfl ?_
    refine e_iload (pc := 17) dX11_powered_17 rfl ?_
    refine n_icmp_ge (pc := 19) (tgt := 39) dX11_powered_19 (by decide) (by omega) (by omega) (fun c => absurd c (by omega)) (fun hb_ => ?_)
    refine e_aload_n (pc := 22) dX11_powered_22 rfl rfl ?_
    refine e_aload_n (pc := 23) dX11_powered_23 rfl rfl ?_
    refine e_get (pc := 24) fl_X11_31 dX11_powered_24 (by repeat (first | assumption | exact hset_eq _ _ _ | (apply Lay.hd; assumption) | rw [hset_ne _ _ (by omega)])) (by rfl) ?_
    refine e_iload_n (pc := 27) dX11_powered_27 rfl rfl ?_
    refine e_iload_n (pc := 28) dX11_powered_28 rfl rfl ?_
    refine n_V (pc := 29) (c_timesK hL (hF.i hkF) hkF he (show lpw F x (k - 1) < 2 ^ 31 by omega) (show x < 2 ^ 31 by omega) (by omega)) bX11_timesBy q_i_X11_timesBy q_s_X11_timesBy q_m_X11_123 dX11_powered_29 rfl rfl (by repeat (first | assumption | exact hset_eq _ _ _ | (apply Lay.hd; assumption) | rw [hset_ne _ _ (by omega)])) rfl rfl (by exact Nat.le_of_ble_eq_true rfl) ⟨by decide, by decide⟩ ⟨rfl, rfl, Nat.zero_le _, Nat.zero_le _⟩ (fun z h2 hp => ?_)
    obtain ⟨rfl, l2, d2⟩ := hp
    refine e_istore_n (pc := 32) dX11_powered_32 rfl (by decide) ?_
    refine n_inc (pc := 33) dX11_powered_33 rfl (by decide) ?_
    refine e_goto (pc := 36) (tgt := 15) dX11_powered_36 (by decide) ?_
    have q := ih (k + 1) (by omega) (by omega) (by omega) h2 l2 (hF.keep (d2 _ (by omega) (by omega) (by omega))) (fd.tr d2)
    rw [show lpw F x (k + 1 - 1) = mul F (lpw F x (k - 1)) x by rw [show k + 1 - 1 = k - 1 + 1 by omega]; rfl] at q
    exact q
theorem c_X11_powered {h : AH} {x a : Nat} (hL : Lay h m W s) (hk : Wok W) (hF : CuA h (m + 8) F) (hkF : Wok F) (he : F.1 = W.1 ∧ F.2.1 = W.2.1) (hx : x < W.1 ^ W.2.1) (ha : a ≤ 4) : CI yX11_powered MX11_powered [.ref m, .int (nI x), .int (nI a)] h (fun z h' => z = nI (rse F x a) ∧ rse F x a < W.1 ^ W.2.1 ∧ Lay h' m W s ∧ FdM m h h') := by
  obtain ⟨b1, b2, b3, b4, b5⟩ := hk.b
  have pa : 0 < W.1 ^ a := Nat.pow_pos (by omega)
  have pb : W.1 ^ a ≤ 5 ^ 4 := Nat.le_trans (Nat.pow_le_pow_left b2 a) (Nat.pow_le_pow_right (by decide) ha)
  refine CI.ofV (by decide) rfl rfl (by simp [Value.category]) (by exact Nat.le_of_ble_eq_true rfl) (fun sz => ?_)
  refine e_iload_n (pc := 0) dX11_powered_0 rfl rfl ?_
  refine e_istore_n (pc := 1) dX11_powered_1 rfl (by decide) ?_
  refine e_aload_n (pc := 2) dX11_powered_2 rfl rfl ?_
  refine e_get (pc := 3) fl_X11_106 dX11_powered_3 (by repeat (first | assumption | exact hset_eq _ _ _ | (apply Lay.hd; assumption) | rw [hset_ne _ _ (by omega)])) (by rfl) ?_
  refine e_iload_n (pc := 6) dX11_powered_6 rfl rfl ?_
  refine n_SP (pc := 7) (c_X11_power (show a < 2 ^ 31 by omega)) bX11_power q_st_X11_power q_m_X11_102 dX11_powered_7 rfl rfl (by exact Nat.le_of_ble_eq_true rfl) ⟨by decide, by decide⟩ ⟨rfl, rfl, Nat.zero_le _, Nat.zero_le _⟩ ?_
  refine e_istore (pc := 10) dX11_powered_10 (by decide) ?_
  refine n_iconst (pc := 12) 1 dX11_powered_12 (by decide) ?_
  refine e_istore (pc := 13) dX11_powered_13 (by decide) ?_
  refine V.post ?_ (l_pw (hh := h) (sz := sz) (x2 := some (.int (nI a))) hk hkF he hx (show W.1 ^ a < 2 ^ 30 by omega) (W.1 ^ a - 1) 1 rfl (by decide) (by omega) h hL hF (FdM.rf m h))
  intro rr h' z qq
  obtain ⟨k1, z', k2, rfl, k3, k4⟩ := qq
  refine ⟨k1, _, k2, ?_, ?_, k3, k4⟩
  · unfold rse; rw [he.1]
  · exact lpw_lt2 hkF he hx _
/-- the cube so far: of the place i, j so many digits -/
def twG (W : Wd) (G : Nat → Nat → Nat) (i j k t : Nat) : Nat := if inC W.2.1 t ∧ t / 25 = i ∧ t / 5 % 5 = j ∧ t % 5 < k then dg W.1 (G i j) (t % 5) else (wlx W G i j).2.2 t
theorem twG_0 (G : Nat → Nat → Nat) (i j t : Nat) : twG W G i j 0 t = (wlx W G i j).2.2 t := by
  unfold twG
  rw [if_neg (fun z => absurd z.2.2.2 (Nat.not_lt_zero _))]
theorem twG_n (G : Nat → Nat → Nat) (i j t : Nat) : twG W G i j W.2.1 t = (wlx W G i (j + 1)).2.2 t := by
  unfold twG
  show (if inC W.2.1 t ∧ t / 25 = i ∧ t / 5 % 5 = j ∧ t % 5 < W.2.1 then dg W.1 (G i j) (t % 5) else (if inC W.2.1 t ∧ (t / 25 < i ∨ t / 25 = i ∧ t / 5 % 5 < j) then dg W.1 (G (t / 25) (t / 5 % 5)) (t % 5) else W.2.2 t)) = if inC W.2.1 t ∧ (t / 25 < i ∨ t / 25 = i ∧ t / 5 % 5 < j + 1) then dg W.1 (G (t / 25) (t / 5 % 5)) (t % 5) else W.2.2 t
  by_cases c : inC W.2.1 t ∧ t / 25 = i ∧ t / 5 % 5 = j ∧ t % 5 < W.2.1
  · rw [if_pos c, if_pos ⟨c.1, by omega⟩, c.2.1, c.2.2.1]
  · rw [if_neg c]
    by_cases d : inC W.2.1 t ∧ (t / 25 < i ∨ t / 25 = i ∧ t / 5 % 5 < j)
    · rw [if_pos d, if_pos ⟨d.1, by omega⟩]
    · rw [if_neg d, if_neg (fun z => by
        have h1 := z.1
        have h2 := z.2
        have h3 := h1.2.2.2
        by_cases e : t / 25 < i ∨ t / 25 = i ∧ t / 5 % 5 < j
        · exact d ⟨h1, e⟩
        · exact c ⟨h1, by omega, by omega, h3⟩)]
theorem l_tw_k {i j : Nat} {G : Nat → Nat → Nat} {x1 x2 x3 x6 x7 x8 x9 : Option Value} {Pr : AH → Prop} (hk : Wok W) (hi : i < W.2.1) (hj : j < W.2.1) (hM : MH H m W.1 W.2.1 (W.1 ^ W.2.1) s) (hz : ∃ g, H (m + 6) = some (aI 5 g) ∧ ∀ k, k < 5 → g k = nI (dgn W.1 W.2.1 (G i j) k))
    (kk : ∀ g, (∀ t, t < 125 → g t = nI ((wlx W G i (j + 1)).2.2 t)) → VV MX11_twists sz Pr (hset H (m + 3) (aI 125 g)) 146 [some (.ref m), x1, x2, x3, some (.int (nI i)), some (.int (nI j)), none, none, none, none, none] []) :
    ∀ (t k : Nat), t = W.2.1 - k → k ≤ W.2.1 → ∀ g, (∀ t, t < 125 → g t = nI (twG W G i j k t)) → VV MX11_twists sz Pr (hset H (m + 3) (aI 125 g)) 106 [some (.ref m), x1, x2, x3, some (.int (nI i)), some (.int (nI j)), x6, x7, x8, x9, some (.int (nI k))] [] := by
  obtain ⟨b1, b2, b3, b4, b5⟩ := hk.b
  obtain ⟨gz, z1, z2⟩ := hz
  intro t
  induction t with
  | zero =>
    intro k e1 e2 g hg
    have e' : k = W.2.1 := by omega
    subst e'
    have hM1 : MH (hset H (m + 3) (aI 125 g)) m W.1 W.2.1 (W.1 ^ W.2.1) s := (hset_ne _ _ (by omega)).trans hM
    refine e_iload (pc := 106) dX11_twists_106 rfl ?_
    refine e_aload_n (pc := 108) dX11_twists_108 rfl rfl ?_
    refine e_get (pc := 109) fl_X11_109 dX11_twists_109 (by repeat (first | assumption | exact hset_eq _ _ _ | (apply Lay.hd; assumption) | rw [hset_ne _ _ (by omega)])) (by rfl) ?_
    refine n_icmp_ge (pc := 112) (tgt := 146) dX11_twists_112 (by decide) (by omega) (by omega) (fun hb_ => ?_) (fun c => absurd c (by omega))
    refine V.mask [true, true, true, true, true, true, false, false, false, false, false] ?_
    exact kk g (fun t ht => by rw [hg t ht, twG_n])
  | succ t ih =>
    intro k e1 e2 g hg
    have hk1 : k < W.2.1 := by omega
    have hM1 : MH (hset H (m + 3) (aI 125 g)) m W.1 W.2.1 (W.1 ^ W.2.1) s := (hset_ne _ _ (by omega)).trans hM
    have z := z2 k (by omega)
    rw [show dgn W.1 W.2.1 (G i j) k = dg W.1 (G i j) k from if_pos hk1] at z
    refine e_iload (pc := 106) dX11_twists_106 rfl ?_
    refine e_aload_n (pc := 108) dX11_twists_108 rfl rfl ?_
    refine e_get (pc := 109) fl_X11_109 dX11_twists_109 (by repeat (first | assumption | exact hset_eq _ _ _ | (apply Lay.hd; assumption) | rw [hset_ne _ _ (by omega)])) (by rfl) ?_
    refine n_icmp_ge (pc := 112) (tgt := 146) dX11_twists_112 (by decide) (by omega) (by omega) (fun c => absurd c (by omega)) (fun hb_ => ?_)
    refine e_aload_n (pc := 115) dX11_twists_115 rfl rfl ?_
    refine e_get (pc := 116) fl_X11_16 dX11_twists_116 (by repeat (first | assumption | exact hset_eq _ _ _ | (apply Lay.hd; assumption) | rw [hset_ne _ _ (by omega)])) (by rfl) ?_
    refine n_bipush (pc := 119) 25 dX11_twists_119 (by decide) ?_
    refine e_iload (pc := 121) dX11_twists_121 rfl ?_
    refine n_imul (pc := 123) dX11_twists_123 ?_
    refine n_iconst (pc := 124) 5 dX11_twists_124 (by decide) ?_
    refine e_iload (pc := 125) dX11_twists_125 rfl ?_
    refine n_imul (pc := 127) dX11_twists_127 ?_
    refine n_iadd (pc := 128) dX11_twists_128 ?_
    refine e_iload (pc := 129) dX11_twists_129 rfl ?_
    refine n_iadd (pc := 131) dX11_twists_131 ?_
    refine e_aload_n (pc := 132) dX11_twists_132 rfl rfl ?_
    refine e_get (pc := 133) fl_X11_25 dX11_twists_133 (by repeat (first | assumption | exact hset_eq _ _ _ | (apply Lay.hd; assumption) | rw [hset_ne _ _ (by omega)])) (by rfl) ?_
    refine e_iload (pc := 136) dX11_twists_136 rfl ?_
    refine e_ialdN (pc := 138) k dX11_twists_138 (by repeat (first | assumption | exact hset_eq _ _ _ | (apply Lay.hd; assumption) | rw [hset_ne _ _ (by omega)])) (by rfl) (by omega) (by first | decide | omega) ?_
    rw [z]
    refine e_iastN (pc := 139) (25 * i + 5 * j + k) dX11_twists_139 (by repeat (first | assumption | exact hset_eq _ _ _ | (apply Lay.hd; assumption) | rw [hset_ne _ _ (by omega)])) (by rfl) (by omega) (by first | decide | omega) ?_
    refine n_inc (pc := 140) dX11_twists_140 rfl (by decide) ?_
    refine e_goto (pc := 143) (tgt := 106) dX11_twists_143 (by decide) ?_
    refine e_heap (hset_hset H (m + 3) _ _) ?_
    refine ih (k + 1) (by omega) (by omega) _ (fun t ht => ?_)
    by_cases c : t = 25 * i + 5 * j + k
    · have t1 : t / 25 = i := by omega
      have t2 : t / 5 % 5 = j := by omega
      have t3 : t % 5 = k := by omega
      rw [c, pk_us, ← c]
      unfold twG
      rw [if_pos ⟨⟨ht, by omega, by omega, by omega⟩, t1, t2, by omega⟩, t3]
    · rw [pk_un c, hg t ht]
      refine congrArg nI ?_
      unfold twG
      by_cases d : inC W.2.1 t ∧ t / 25 = i ∧ t / 5 % 5 = j ∧ t % 5 < k
      · rw [if_pos d, if_pos ⟨d.1, d.2.1, d.2.2.1, by omega⟩]
      · rw [if_neg d, if_neg (fun z => d ⟨z.1, z.2.1, z.2.2.1, by omega⟩)]
/-- frame of twists -/
def FrT (m : Nat) (h h' : AH) : Prop := ∀ b, b ≠ m + 3 → b ≠ m + 4 → b ≠ m + 5 → b ≠ m + 6 → h' b = h b
theorem FrT.rf (m : Nat) (h : AH) : FrT m h h := fun _ _ _ _ _ => rfl
theorem FrT.tr {m : Nat} {h h1 h2 : AH} (a : FrT m h h1) (b : FrT m h1 h2) : FrT m h h2 := fun q x y z u => (b q x y z u).trans (a q x y z u)
theorem FdM.frt {m : Nat} {h h1 : AH} (a : FdM m h h1) : FrT m h h1 := fun b _ y z u => a b y z u
theorem FrT.set {m k : Nat} {h h1 : AH} {x : AE} (a : FrT m h h1) (hk : 3 ≤ k ∧ k ≤ 6) : FrT m h (hset h1 (m + k) x) := fun b x y z u => (hset_ne _ _ (by omega)).trans (a b x y z u)
theorem wlx_1 (G : Nat → Nat → Nat) (i j : Nat) : (wlx W G i j).1 = W.1 ∧ (wlx W G i j).2.1 = W.2.1 := ⟨rfl, rfl⟩
theorem l_tw_j {c a b i : Nat} {Pr : AH → Prop} (hk : Wok W) (hkF : Wok F) (he : F.1 = W.1 ∧ F.2.1 = W.2.1) (hc : c < W.1 ^ W.2.1) (ha : a ≤ 4) (hb : b ≤ 4) (hi : i < W.2.1)
    (kk : ∀ h, Lay h m (wlx W (twc F c a b) (i + 1) 0) s → CuA h (m + 8) F → FrT m hh h → VV MX11_twists sz Pr h 152 [some (.ref m), some (.int (nI c)), some (.int (nI a)), some (.int (nI b)), some (.int (nI i)), none, none, none, none, none, none] []) :
    ∀ (t j : Nat), t = W.2.1 - j → j ≤ W.2.1 → ∀ h, Lay h m (wlx W (twc F c a b) i j) s → CuA h (m + 8) F → FrT m hh h → VV MX11_twists sz Pr h 15 [some (.ref m), some (.int (nI c)), some (.int (nI a)), some (.int (nI b)), some (.int (nI i)), some (.int (nI j)), none, none, none, none, none] [] := by
  obtain ⟨b1, b2, b3, b4, b5⟩ := hk.b
  intro t
  induction t with
  | zero =>
    intro j e1 e2 h hL hF fr
    have e' : j = W.2.1 := by omega
    subst e'
    have hM1 : MH h m W.1 W.2.1 (W.1 ^ W.2.1) s := hL.1
    refine e_iload (pc := 15) dX11_twists_15 rfl ?_
    refine e_aload_n (pc := 17) dX11_twists_17 rfl rfl ?_
    refine e_get (pc := 18) fl_X11_109 dX11_twists_18 (by repeat (first | assumption | exact hset_eq _ _ _ | (apply Lay.hd; assumption) | rw [hset_ne _ _ (by omega)])) (by rfl) ?_
    refine n_icmp_ge (pc := 21) (tgt := 152) dX11_twists_21 (by decide) (by omega) (by omega) (fun hb_ => ?_) (fun c => absurd c (by omega))
    refine V.mask [true, true, true, true, true, false, false, false, false, false, false] ?_
    rw [wlx_n] at hL
    exact kk h hL hF fr
  | succ t ih =>
    intro j e1 e2 h hL hF fr
    have hj : j < W.2.1 := by omega
    have hM1 : MH h m W.1 W.2.1 (W.1 ^ W.2.1) s := hL.1
    have wk := wlx_ok (g := twc F c a b) hk i j
    have pi := pow_q hk hi
    have pj := pow_q hk hj
    refine e_iload (pc := 15) dX11_twists_15 rfl ?_
    refine e_aload_n (pc := 17) dX11_twists_17 rfl rfl ?_
    refine e_get (pc := 18) fl_X11_109 dX11_twists_18 (by repeat (first | assumption | exact hset_eq _ _ _ | (apply Lay.hd; assumption) | rw [hset_ne _ _ (by omega)])) (by rfl) ?_
    refine n_icmp_ge (pc := 21) (tgt := 152) dX11_twists_21 (by decide) (by omega) (by omega) (fun c => absurd c (by omega)) (fun hb_ => ?_)
    refine e_aload_n (pc := 24) dX11_twists_24 rfl rfl ?_
    refine e_iload (pc := 25) dX11_twists_25 rfl ?_
    refine n_VP (pc := 27) (c_X11_base hM1 (show i < 2 ^ 31 by omega)) bX11_base q_i_X11_base q_s_X11_base q_m_X11_223 dX11_twists_27 rfl rfl (by repeat (first | assumption | exact hset_eq _ _ _ | (apply Lay.hd; assumption) | rw [hset_ne _ _ (by omega)])) rfl rfl (by exact Nat.le_of_ble_eq_true rfl) ⟨by decide, by decide⟩ ⟨rfl, rfl, Nat.zero_le _, Nat.zero_le _⟩ ?_
    refine e_istore (pc := 30) dX11_twists_30 (by decide) ?_
    refine e_aload_n (pc := 32) dX11_twists_32 rfl rfl ?_
    refine e_iload (pc := 33) dX11_twists_33 rfl ?_
    refine n_VP (pc := 35) (c_X11_base hM1 (show j < 2 ^ 31 by omega)) bX11_base q_i_X11_base q_s_X11_base q_m_X11_223 dX11_twists_35 rfl rfl (by repeat (first | assumption | exact hset_eq _ _ _ | (apply Lay.hd; assumption) | rw [hset_ne _ _ (by omega)])) rfl rfl (by exact Nat.le_of_ble_eq_true rfl) ⟨by decide, by decide⟩ ⟨rfl, rfl, Nat.zero_le _, Nat.zero_le _⟩ ?_
    refine e_istore (pc := 38) dX11_twists_38 (by decide) ?_
    refine e_aload_n (pc := 40) dX11_twists_40 rfl rfl ?_
    refine e_aload_n (pc := 41) dX11_twists_41 rfl rfl ?_
    refine e_get (pc := 42) fl_X11_31 dX11_twists_42 (by repeat (first | assumption | exact hset_eq _ _ _ | (apply Lay.hd; assumption) | rw [hset_ne _ _ (by omega)])) (by rfl) ?_
    refine e_aload_n (pc := 45) dX11_twists_45 rfl rfl ?_
    refine e_aload_n (pc := 46) dX11_twists_46 rfl rfl ?_
    refine e_get (pc := 47) fl_X11_31 dX11_twists_47 (by repeat (first | assumption | exact hset_eq _ _ _ | (apply Lay.hd; assumption) | rw [hset_ne _ _ (by omega)])) (by rfl) ?_
    refine e_iload_n (pc := 50) dX11_twists_50 rfl rfl ?_
    refine e_aload_n (pc := 51) dX11_twists_51 rfl rfl ?_
    refine e_iload (pc := 52) dX11_twists_52 rfl ?_
    refine e_iload_n (pc := 54) dX11_twists_54 rfl rfl ?_
    refine n_V (pc := 55) (c_X11_powered hL wk hF hkF he pi ha) bX11_powered q_i_X11_powered q_s_X11_powered q_m_X11_226 dX11_twists_55 rfl rfl (by repeat (first | assumption | exact hset_eq _ _ _ | (apply Lay.hd; assumption) | rw [hset_ne _ _ (by omega)])) rfl rfl (by exact Nat.le_of_ble_eq_true rfl) ⟨by decide, by decide⟩ ⟨rfl, rfl, Nat.zero_le _, Nat.zero_le _⟩ (fun z h2 hp => ?_)
    obtain ⟨rfl, v2, l2, d2⟩ := hp
    have v2 : rse F (W.1 ^ i) a < W.1 ^ W.2.1 := v2
    have hF2 : CuA h2 (m + 8) F := hF.keep (d2 _ (by omega) (by omega) (by omega))
    refine n_V (pc := 58) (c_timesK l2 (hF2.i hkF) hkF he (show c < 2 ^ 31 by omega) (show rse F (W.1 ^ i) a < 2 ^ 31 by omega) (by omega)) bX11_timesBy q_i_X11_timesBy q_s_X11_timesBy q_m_X11_123 dX11_twists_58 rfl rfl (by repeat (first | assumption | exact hset_eq _ _ _ | (apply Lay.hd; assumption) | rw [hset_ne _ _ (by omega)])) rfl rfl (by exact Nat.le_of_ble_eq_true rfl) ⟨by decide, by decide⟩ ⟨rfl, rfl, Nat.zero_le _, Nat.zero_le _⟩ (fun z h3 hp => ?_)
    obtain ⟨rfl, l3, d3⟩ := hp
    have hF3 : CuA h3 (m + 8) F := hF2.keep (d3 _ (by omega) (by omega) (by omega))
    have m3 := mul_lt2 hkF he c (rse F (W.1 ^ i) a)
    refine e_aload_n (pc := 61) dX11_twists_61 rfl rfl ?_
    refine e_iload (pc := 62) dX11_twists_62 rfl ?_
    refine e_iload_n (pc := 64) dX11_twists_64 rfl rfl ?_
    refine n_V (pc := 65) (c_X11_powered l3 wk hF3 hkF he pj hb) bX11_powered q_i_X11_powered q_s_X11_powered q_m_X11_226 dX11_twists_65 rfl rfl (by repeat (first | assumption | exact hset_eq _ _ _ | (apply Lay.hd; assumption) | rw [hset_ne _ _ (by omega)])) rfl rfl (by exact Nat.le_of_ble_eq_true rfl) ⟨by decide, by decide⟩ ⟨rfl, rfl, Nat.zero_le _, Nat.zero_le _⟩ (fun z h4 hp => ?_)
    obtain ⟨rfl, v4, l4, d4⟩ := hp
    have v4 : rse F (W.1 ^ j) b < W.1 ^ W.2.1 := v4
    have hF4 : CuA h4 (m + 8) F := hF3.keep (d4 _ (by omega) (by omega) (by omega))
    refine n_V (pc := 68) (c_timesK l4 (hF4.i hkF) hkF he (show mul F c (rse F (W.1 ^ i) a) < 2 ^ 31 by omega) (show rse F (W.1 ^ j) b < 2 ^ 31 by omega) (by omega)) bX11_timesBy q_i_X11_timesBy q_s_X11_timesBy q_m_X11_123 dX11_twists_68 rfl rfl (by repeat (first | assumption | exact hset_eq _ _ _ | (apply Lay.hd; assumption) | rw [hset_ne _ _ (by omega)])) rfl rfl (by exact Nat.le_of_ble_eq_true rfl) ⟨by decide, by decide⟩ ⟨rfl, rfl, Nat.zero_le _, Nat.zero_le _⟩ (fun z h5 hp => ?_)
    obtain ⟨rfl, l5, d5⟩ := hp
    have hF5 : CuA h5 (m + 8) F := hF4.keep (d5 _ (by omega) (by omega) (by omega))
    have m5 := mul_lt2 hkF he (mul F c (rse F (W.1 ^ i) a)) (rse F (W.1 ^ j) b)
    refine e_istore (pc := 71) dX11_twists_71 (by decide) ?_
    refine e_aload_n (pc := 73) dX11_twists_73 rfl rfl ?_
    refine e_aload_n (pc := 74) dX11_twists_74 rfl rfl ?_
    refine e_aload_n (pc := 75) dX11_twists_75 rfl rfl ?_
    refine e_get (pc := 76) fl_X11_31 dX11_twists_76 (by repeat (first | assumption | exact hset_eq _ _ _ | (apply Lay.hd; assumption) | rw [hset_ne _ _ (by omega)])) (by rfl) ?_
    refine e_iload (pc := 79) dX11_twists_79 rfl ?_
    refine e_iload (pc := 81) dX11_twists_81 rfl ?_
    refine n_V (pc := 83) (c_timesK l5 (hF5.i hkF) hkF he (show W.1 ^ i < 2 ^ 31 by omega) (show W.1 ^ j < 2 ^ 31 by omega) (by omega)) bX11_timesBy q_i_X11_timesBy q_s_X11_timesBy q_m_X11_123 dX11_twists_83 rfl rfl (by repeat (first | assumption | exact hset_eq _ _ _ | (apply Lay.hd; assumption) | rw [hset_ne _ _ (by omega)])) rfl rfl (by exact Nat.le_of_ble_eq_true rfl) ⟨by decide, by decide⟩ ⟨rfl, rfl, Nat.zero_le _, Nat.zero_le _⟩ (fun z h6 hp => ?_)
    obtain ⟨rfl, l6, d6⟩ := hp
    have hF6 : CuA h6 (m + 8) F := hF5.keep (d6 _ (by omega) (by omega) (by omega))
    have m6 := mul_lt2 hkF he (W.1 ^ i) (W.1 ^ j)
    refine e_iload (pc := 86) dX11_twists_86 rfl ?_
    refine n_V (pc := 88) (c_X11_minus l6.1 l6.2.2.m3 ⟨b1, b2⟩ ⟨b3, b4⟩ m6 m5) bX11_minus q_i_X11_minus q_s_X11_minus q_m_X11_229 dX11_twists_88 rfl rfl (by repeat (first | assumption | exact hset_eq _ _ _ | (apply Lay.hd; assumption) | rw [hset_ne _ _ (by omega)])) rfl rfl (by exact Nat.le_of_ble_eq_true rfl) ⟨by decide, by decide⟩ ⟨rfl, rfl, Nat.zero_le _, Nat.zero_le _⟩ (fun z h7 hp => ?_)
    obtain ⟨rfl, q7, d7⟩ := hp
    have l7 := l6.fd q7 d7
    have hF7 : CuA h7 (m + 8) F := hF6.keep (d7 _ (by omega) (by omega) (by omega))
    have et : sb W.1 (mul F (W.1 ^ i) (W.1 ^ j)) (mul F (mul F c (rse F (W.1 ^ i) a)) (rse F (W.1 ^ j) b)) = twc F c a b i j := by unfold twc; rw [he.1]
    have tl : twc F c a b i j < W.1 ^ W.2.1 := by rw [← et]; exact sb_lt (by omega) (by omega) m6 m5
    rw [show sb (wlx W (twc F c a b) i j).1 (mul F (W.1 ^ i) (W.1 ^ j)) (mul F (mul F c (rse F (W.1 ^ i) a)) (rse F (W.1 ^ j) b)) = twc F c a b i j from et]
    obtain ⟨g6, r6⟩ := l7.2.2.row (k := 6) (isR_d _ (by decide))
    refine e_istore (pc := 91) dX11_twists_91 (by decide) ?_
    refine e_aload_n (pc := 93) dX11_twists_93 rfl rfl ?_
    refine e_iload (pc := 94) dX11_twists_94 rfl ?_
    refine e_aload_n (pc := 96) dX11_twists_96 rfl rfl ?_
    refine e_get (pc := 97) fl_X11_25 dX11_twists_97 (by repeat (first | assumption | exact hset_eq _ _ _ | (apply Lay.hd; assumption) | rw [hset_ne _ _ (by omega)])) (by rfl) ?_
    refine n_Vv (pc := 100) (c_X11_digits l7.1 ⟨b1, b2⟩ b4 (show twc F c a b i j < 2 ^ 31 by omega) (by omega) r6) bX11_digits q_i_X11_digits q_s_X11_digits q_m_X11_115 dX11_twists_100 rfl rfl (by repeat (first | assumption | exact hset_eq _ _ _ | (apply Lay.hd; assumption) | rw [hset_ne _ _ (by omega)])) rfl rfl (by exact Nat.le_of_ble_eq_true rfl) ⟨by decide, by decide⟩ ⟨rfl, rfl, Nat.zero_le _, Nat.zero_le _⟩ (fun h8 hp => ?_)
    obtain ⟨gz, rfl, y2⟩ := hp
    have l8 : Lay (hset h7 (m + 6) (aI 5 gz)) m (wlx W (twc F c a b) i j) s := l7.row (isR_d 6 (by decide)) rfl (by decide) (by decide)
    have hF8 : CuA (hset h7 (m + 6) (aI 5 gz)) (m + 8) F := hF7.keep (hset_ne _ _ (by omega))
    have f8 : FrT m hh (hset h7 (m + 6) (aI 5 gz)) := (fr.tr (((((d2.tr d3).tr d4).tr d5).tr d6).tr d7).frt).set (by omega)
    have z8 : ∃ g, hset h7 (m + 6) (aI 5 gz) (m + 6) = some (aI 5 g) ∧ ∀ k, k < 5 → g k = nI (dgn W.1 W.2.1 (twc F c a b i j) k) := ⟨gz, hset_eq _ _ _, y2⟩
    generalize hset h7 (m + 6) (aI 5 gz) = h9 at l8 hF8 f8 z8 ⊢
    obtain ⟨gc, c1, c2⟩ := l8.2.1
    refine n_iconst (pc := 103) 0 dX11_twists_103 (by decide) ?_
    refine e_istore (pc := 104) dX11_twists_104 (by decide) ?_
    refine e_heap (hset_self c1).symm ?_
    refine l_tw_k (G := twc F c a b) hk hi hj l8.1 z8 (fun g10 hg10 => ?_) W.2.1 0 rfl (Nat.zero_le _) gc (fun t ht => by rw [c2 t ht, twG_0])
    refine n_inc (pc := 146) dX11_twists_146 rfl (by decide) ?_
    refine e_goto (pc := 149) (tgt := 15) dX11_twists_149 (by decide) ?_
    have wk2 := wlx_ok (g := twc F c a b) hk i (j + 1)
    have l10 : Lay (hset h9 (m + 3) (aI 125 g10)) m (wlx W (twc F c a b) i (j + 1)) s := ⟨(hset_ne _ _ (by omega)).trans l8.1, ⟨g10, hset_eq _ _ _, hg10⟩, l8.2.2.set (isR_d 3 (by decide)) rfl⟩
    exact ih (j + 1) (by omega) (by omega) _ l10 (hF8.keep (hset_ne _ _ (by omega))) (f8.set (by omega))
theorem l_tw_i {c a b : Nat} (hk : Wok W) (hkF : Wok F) (he : F.1 = W.1 ∧ F.2.1 = W.2.1) (hc : c < W.1 ^ W.2.1) (ha : a ≤ 4) (hb : b ≤ 4) :
    ∀ (t i : Nat), t = W.2.1 - i → i ≤ W.2.1 → ∀ h, Lay h m (wlx W (twc F c a b) i 0) s → CuA h (m + 8) F → FrT m hh h → VV MX11_twists sz (fun h' => Lay h' m (twistW F c a b) s ∧ CuA h' (m + 8) F ∧ FrT m hh h') h 3 [some (.ref m), some (.int (nI c)), some (.int (nI a)), some (.int (nI b)), some (.int (nI i)), none, none, none, none, none, none] [] := by
  intro t
  induction t with
  | zero =>
    intro i e1 e2 h hL hF fr
    have e' : i = W.2.1 := by omega
    subst e'
    have hM1 : MH h m W.1 W.2.1 (W.1 ^ W.2.1) s := hL.1
    have bb := hk.b
    refine e_iload (pc := 3) dX11_twists_3 rfl ?_
    refine e_aload_n (pc := 5) dX11_twists_5 rfl rfl ?_
    refine e_get (pc := 6) fl_X11_109 dX11_twists_6 (by repeat (first | assumption | exact hset_eq _ _ _ | (apply Lay.hd; assumption) | rw [hset_ne _ _ (by omega)])) (by rfl) ?_
    refine n_icmp_ge (pc := 9) (tgt := 158) dX11_twists_9 (by decide) (by omega) (by omega) (fun hb_ => ?_) (fun c => absurd c (by omega))
    rw [wlx_all hk] at hL
    refine n_vret (pc := 158) dX11_twists_158 rfl ⟨?_, hF, fr⟩
    unfold twistW
    rw [he.1, he.2]
    exact hL
  | succ t ih =>
    intro i e1 e2 h hL hF fr
    have hM1 : MH h m W.1 W.2.1 (W.1 ^ W.2.1) s := hL.1
    have bb := hk.b
    refine e_iload (pc := 3) dX11_twists_3 rfl ?_
    refine e_aload_n (pc := 5) dX11_twists_5 rfl rfl ?_
    refine e_get (pc := 6) fl_X11_109 dX11_twists_6 (by repeat (first | assumption | exact hset_eq _ _ _ | (apply Lay.hd; assumption) | rw [hset_ne _ _ (by omega)])) (by rfl) ?_
    refine n_icmp_ge (pc := 9) (tgt := 158) dX11_twists_9 (by decide) (by omega) (by omega) (fun c => absurd c (by omega)) (fun hb_ => ?_)
    refine n_iconst (pc := 12) 0 dX11_twists_12 (by decide) ?_
    refine e_istore (pc := 13) dX11_twists_13 (by decide) ?_
    refine l_tw_j hk hkF he hc ha hb (show i < W.2.1 by omega) (fun h2 l2 f2 r2 => ?_) W.2.1 0 rfl (Nat.zero_le _) h hL hF fr
    refine n_inc (pc := 152) dX11_twists_152 rfl (by decide) ?_
    refine e_goto (pc := 155) (tgt := 3) dX11_twists_155 (by decide) ?_
    exact ih (i + 1) (by omega) (by omega) h2 l2 f2 r2
theorem c_X11_twists {h : AH} {c a b : Nat} (hL : Lay h m W s) (hk : Wok W) (hF : CuA h (m + 8) F) (hkF : Wok F) (he : F.1 = W.1 ∧ F.2.1 = W.2.1) (hc : c < W.1 ^ W.2.1) (ha : a ≤ 4) (hb : b ≤ 4) : CV yX11_twists MX11_twists [.ref m, .int (nI c), .int (nI a), .int (nI b)] h (fun h' => Lay h' m (twistW F c a b) s ∧ CuA h' (m + 8) F ∧ FrT m h h') := by
  refine CV.ofV (by decide) rfl rfl (by simp [Value.category]) (by exact Nat.le_of_ble_eq_true rfl) (fun sz => ?_)
  refine n_iconst (pc := 0) 0 dX11_twists_0 (by decide) ?_
  refine e_istore (pc := 1) dX11_twists_1 (by decide) ?_
  exact l_tw_i (hh := h) hk hkF he hc ha hb W.2.1 0 rfl (Nat.zero_le _) h (by rw [wlx_0]; exact hL) hF (FrT.rf m h)
end TW
