/-! ===== the reference: what two elements span ===== -/
theorem FmS.qf {m : Nat} {h h1 : AH} (a : FmS m h h1) : FmC m h h1 := fun b x => a b (by omega) (by omega)
/-- members made of x and y, products up to (i, j) of the first d among them -/
def SpG (hh h : AH) (m : Nat) (W : Wd) (s : Ms) (x y d i j : Nat) : Prop := ∃ v mm ms, SpI h m W (s.setSp v) mm ms ∧ (∀ t, t < mm → Gen W x y (ms t)) ∧ (∀ u, SM W.1 W.2.1 mm ms u → dot W.2.1 (dg W.1 x) u % W.1 = 0 ∧ dot W.2.1 (dg W.1 y) u % W.1 = 0) ∧ d ≤ mm ∧ (∀ a b u, a < d → b < d → (a < i ∨ a = i ∧ b < j) → SM W.1 W.2.1 mm ms u → dot W.2.1 (dg W.1 (mul W (ms a) (ms b))) u % W.1 = 0) ∧ FmS m hh h
theorem SpG.step {hh h : AH} {m : Nat} {W : Wd} {s : Ms} {x y d i j i2 j2 : Nat} (q : SpG hh h m W s x y d i j) (e : ∀ a b, a < d → b < d → (a < i2 ∨ a = i2 ∧ b < j2) → (a < i ∨ a = i ∧ b < j)) : SpG hh h m W s x y d i2 j2 := by
  obtain ⟨v, mm, ms, a1, a2, a3, a4, a5, a6⟩ := q
  exact ⟨v, mm, ms, a1, a2, a3, a4, fun a b u h1 h2 h3 => a5 a b u h1 h2 (e a b h1 h2 h3), a6⟩
section SPN
variable {m : Nat} {s : Ms} {W : Wd} {sz : Nat} {hh : AH}
theorem l_spn_j {x y d i : Nat} {l1 l2 l3 : Option Value} {Pr : Int32 → AH → Prop} (hk : Wok W) (hi : i < d) (hd : d ≤ 5)
    (kk : ∀ h, SpG hh h m W s x y d (i + 1) 0 → VI MX11_span sz Pr h 106 [some (.ref m), l1, l2, l3, some (.int (nI d)), some (.int (nI i)), none] []) :
    ∀ (t j : Nat), t = d - j → j ≤ d → ∀ h, SpG hh h m W s x y d i j → VI MX11_span sz Pr h 71 [some (.ref m), l1, l2, l3, some (.int (nI d)), some (.int (nI i)), some (.int (nI j))] [] := by
  obtain ⟨b1, b2, b3, b4, b5⟩ := hk.b
  intro t
  induction t with
  | zero =>
    intro j e1 e2 h hG
    have e' : j = d := by omega
    subst e'
    refine e_iload (pc := 71) dX11_span_71 rfl ?_
    refine e_iload (pc := 73) dX11_span_73 rfl ?_
    refine n_icmp_ge (pc := 75) (tgt := 106) dX11_span_75 (by decide) (by omega) (by omega) (fun hb_ => ?_) (fun c => absurd c (by omega))
    refine V.mask [true, true, true, true, true, true, false] ?_
    exact kk h (hG.step (fun a b h1 h2 h3 => by omega))
  | succ t ih =>
    intro j e1 e2 h hG
    obtain ⟨v, mm, ms, a1, a2, a3, a4, a5, a6⟩ := hG
    obtain ⟨hL, hs, ⟨g, g1, g2⟩, hms, hr⟩ := id a1
    have z1 := g2 i (by omega)
    have z2 := g2 j (by omega)
    have y1 := hms i (by omega)
    have y2 := hms j (by omega)
    have ml := mul_lt hk (ms i) (ms j)
    refine e_iload (pc := 71) dX11_span_71 rfl ?_
    refine e_iload (pc := 73) dX11_span_73 rfl ?_
    refine n_icmp_ge (pc := 75) (tgt := 106) dX11_span_75 (by decide) (by omega) (by omega) (fun c => absurd c (by omega)) (fun hb_ => ?_)
    refine e_aload_n (pc := 78) dX11_span_78 rfl rfl ?_
    refine e_aload_n (pc := 79) dX11_span_79 rfl rfl ?_
    refine e_aload_n (pc := 80) dX11_span_80 rfl rfl ?_
    refine e_get (pc := 81) fl_X11_62 dX11_span_81 (by repeat (first | assumption | exact hset_eq _ _ _ | (apply Lay.hd; assumption) | rw [hset_ne _ _ (by omega)])) (by rfl) ?_
    refine e_iload (pc := 84) dX11_span_84 rfl ?_
    refine e_ialdN (pc := 86) i dX11_span_86 (by repeat (first | assumption | exact hset_eq _ _ _ | (apply Lay.hd; assumption) | rw [hset_ne _ _ (by omega)])) (by rfl) (by omega) (by first | decide | omega) ?_
    rw [z1]
    refine e_aload_n (pc := 87) dX11_span_87 rfl rfl ?_
    refine e_get (pc := 88) fl_X11_62 dX11_span_88 (by repeat (first | assumption | exact hset_eq _ _ _ | (apply Lay.hd; assumption) | rw [hset_ne _ _ (by omega)])) (by rfl) ?_
    refine e_iload (pc := 91) dX11_span_91 rfl ?_
    refine e_ialdN (pc := 93) j dX11_span_93 (by repeat (first | assumption | exact hset_eq _ _ _ | (apply Lay.hd; assumption) | rw [hset_ne _ _ (by omega)])) (by rfl) (by omega) (by first | decide | omega) ?_
    rw [z2]
    refine n_V (pc := 94) (c_X11_times hL hk (show ms i < 2 ^ 31 by omega) (show ms j < 2 ^ 31 by omega)) bX11_times q_i_X11_times q_s_X11_times q_m_X11_266 dX11_span_94 rfl rfl (by repeat (first | assumption | exact hset_eq _ _ _ | (apply Lay.hd; assumption) | rw [hset_ne _ _ (by omega)])) rfl rfl (by exact Nat.le_of_ble_eq_true rfl) ⟨by decide, by decide⟩ ⟨rfl, rfl, Nat.zero_le _, Nat.zero_le _⟩ (fun z h2 hp => ?_)
    obtain ⟨rfl, p1, p2⟩ := hp
    have a1' : SpI h2 m W (s.setSp v) mm ms := a1.keep p1 (p2 _ (by omega) (by omega) (by omega))
    refine n_Vv (pc := 97) (c_X11_spans a1' hk ml) bX11_spans q_i_X11_spans q_s_X11_spans q_m_X11_318 dX11_span_97 rfl rfl (by repeat (first | assumption | exact hset_eq _ _ _ | (apply Lay.hd; assumption) | rw [hset_ne _ _ (by omega)])) rfl rfl (by exact Nat.le_of_ble_eq_true rfl) ⟨by decide, by decide⟩ ⟨rfl, rfl, Nat.zero_le _, Nat.zero_le _⟩ (fun h3 hp => ?_)
    obtain ⟨v2, m2, ms2, c1, c2, c3, c4, c5, c6⟩ := hp
    refine n_inc (pc := 100) dX11_span_100 rfl (by decide) ?_
    refine e_goto (pc := 103) (tgt := 71) dX11_span_103 (by decide) ?_
    refine ih (j + 1) (by omega) (by omega) h3 ⟨v2, m2, ms2, c1, fun t ht => ?_, fun u hu => a3 u (c5 u hu).1, by omega, fun a b u h1 h2 h3 hu => ?_, (a6.tr p2.ff.s).tr c6⟩
    · by_cases e : t < mm
      · rw [c3 t e]; exact a2 t e
      · rw [c4 t (by omega) ht]; exact (a2 i (by omega)).mul (a2 j (by omega))
    · rw [c3 a (by omega), c3 b (by omega)]
      by_cases e : a = i ∧ b = j
      · rw [e.1, e.2]; exact (c5 u hu).2
      · exact a5 a b u h1 h2 (by omega) (c5 u hu).1
theorem l_spn_i {x y d : Nat} {l1 l2 l3 : Option Value} {Pr : Int32 → AH → Prop} (hk : Wok W) (hd : d ≤ 5)
    (kk : ∀ h, SpG hh h m W s x y d d 0 → VI MX11_span sz Pr h 43 [some (.ref m), l1, l2, l3, some (.int (nI d)), none, none] []) :
    ∀ (t i : Nat), t = d - i → i ≤ d → ∀ h, SpG hh h m W s x y d i 0 → VI MX11_span sz Pr h 61 [some (.ref m), l1, l2, l3, some (.int (nI d)), some (.int (nI i)), none] [] := by
  intro t
  induction t with
  | zero =>
    intro i e1 e2 h hG
    have e' : i = d := by omega
    subst e'
    refine e_iload (pc := 61) dX11_span_61 rfl ?_
    refine e_iload (pc := 63) dX11_span_63 rfl ?_
    refine n_icmp_ge (pc := 65) (tgt := 112) dX11_span_65 (by decide) (by omega) (by omega) (fun hb_ => ?_) (fun c => absurd c (by omega))
    refine e_goto (pc := 112) (tgt := 43) dX11_span_112 (by decide) ?_
    refine V.mask [true, true, true, true, true, false, false] ?_
    exact kk h hG
  | succ t ih =>
    intro i e1 e2 h hG
    refine e_iload (pc := 61) dX11_span_61 rfl ?_
    refine e_iload (pc := 63) dX11_span_63 rfl ?_
    refine n_icmp_ge (pc := 65) (tgt := 112) dX11_span_65 (by decide) (by omega) (by omega) (fun c => absurd c (by omega)) (fun hb_ => ?_)
    refine n_iconst (pc := 68) 0 dX11_span_68 (by decide) ?_
    refine e_istore (pc := 69) dX11_span_69 (by decide) ?_
    refine l_spn_j hk (show i < d by omega) hd (fun h2 hG2 => ?_) d 0 rfl (Nat.zero_le _) h hG
    refine n_inc (pc := 106) dX11_span_106 rfl (by decide) ?_
    refine e_goto (pc := 109) (tgt := 61) dX11_span_109 (by decide) ?_
    exact ih (i + 1) (by omega) (by omega) h2 hG2
theorem l_spn_f {x y v mm : Nat} {ms : Nat → Nat} {h : AH} {l1 l2 l3 l4 : Option Value} (hk : Wok W) (a1 : SpI h m W (s.setSp v) mm ms) (a2 : ∀ t, t < mm → Gen W x y (ms t)) (a3 : ∀ u, SM W.1 W.2.1 mm ms u → dot W.2.1 (dg W.1 x) u % W.1 = 0 ∧ dot W.2.1 (dg W.1 y) u % W.1 = 0) (a5 : ∀ a b u, a < mm → b < mm → SM W.1 W.2.1 mm ms u → dot W.2.1 (dg W.1 (mul W (ms a) (ms b))) u % W.1 = 0) (a6 : FmS m hh h) : VI MX11_span sz (fun z h' => Span W x y z ∧ ∃ v, Lay h' m W (s.setSp v) ∧ FmS m hh h') h 115 [some (.ref m), l1, l2, l3, l4, none, none] [] := by
  have b := hk.b
  have le := a1.le hk
  obtain ⟨hL, hs, -, -, hr⟩ := id a1
  refine e_aload_n (pc := 115) dX11_span_115 rfl rfl ?_
  refine e_get (pc := 116) fl_X11_106 dX11_span_116 (by repeat (first | assumption | exact hset_eq _ _ _ | (apply Lay.hd; assumption) | rw [hset_ne _ _ (by omega)])) (by rfl) ?_
  refine e_aload_n (pc := 119) dX11_span_119 rfl rfl ?_
  refine e_get (pc := 120) fl_X11_315 dX11_span_120 (by repeat (first | assumption | exact hset_eq _ _ _ | (apply Lay.hd; assumption) | rw [hset_ne _ _ (by omega)])) (by rfl) ?_
  refine e_top (congrArg nI hs) ?_
  refine n_SP (pc := 123) (c_X11_power (show mm < 2 ^ 31 by omega)) bX11_power q_st_X11_power q_m_X11_102 dX11_span_123 rfl rfl (by exact Nat.le_of_ble_eq_true rfl) ⟨by decide, by decide⟩ ⟨rfl, rfl, Nat.zero_le _, Nat.zero_le _⟩ ?_
  exact n_iret (pc := 126) dX11_span_126 rfl ⟨⟨mm, rfl, hr.congr (gen_sol hk a2 (fun u q => (a3 u q).1) (fun u q => (a3 u q).2) a5)⟩, v, hL, a6⟩
theorem l_spn {x y : Nat} {l1 l2 l3 : Option Value} (hk : Wok W) :
    ∀ (t d : Nat), 5 - d ≤ t → d ≤ 5 → ∀ h, SpG hh h m W s x y d d 0 → VI MX11_span sz (fun z h' => Span W x y z ∧ ∃ v, Lay h' m W (s.setSp v) ∧ FmS m hh h') h 43 [some (.ref m), l1, l2, l3, some (.int (nI d)), none, none] [] := by
  obtain ⟨b1, b2, b3, b4, b5⟩ := hk.b
  intro t
  induction t with
  | zero =>
    intro d e1 e2 h hG
    obtain ⟨v, mm, ms, a1, a2, a3, a4, a5, a6⟩ := id hG
    have le := a1.le hk
    obtain ⟨hL, hs, -⟩ := id a1
    refine e_iload (pc := 43) dX11_span_43 rfl ?_
    refine e_aload_n (pc := 45) dX11_span_45 rfl rfl ?_
    refine e_get (pc := 46) fl_X11_315 dX11_span_46 (by repeat (first | assumption | exact hset_eq _ _ _ | (apply Lay.hd; assumption) | rw [hset_ne _ _ (by omega)])) (by rfl) ?_
    refine e_top (congrArg nI hs) ?_
    refine n_icmp_eq (pc := 49) (tgt := 115) dX11_span_49 (by decide) (by omega) (by omega) (fun hb_ => ?_) (fun c => absurd c (by omega))
    exact l_spn_f hk a1 a2 a3 (fun a b u h1 h2 q => a5 a b u (by omega) (by omega) (by omega) q) a6
  | succ t ih =>
    intro d e1 e2 h hG
    obtain ⟨v, mm, ms, a1, a2, a3, a4, a5, a6⟩ := id hG
    have le := a1.le hk
    obtain ⟨hL, hs, -⟩ := id a1
    refine e_iload (pc := 43) dX11_span_43 rfl ?_
    refine e_aload_n (pc := 45) dX11_span_45 rfl rfl ?_
    refine e_get (pc := 46) fl_X11_315 dX11_span_46 (by repeat (first | assumption | exact hset_eq _ _ _ | (apply Lay.hd; assumption) | rw [hset_ne _ _ (by omega)])) (by rfl) ?_
    refine e_top (congrArg nI hs) ?_
    refine n_icmp_eq (pc := 49) (tgt := 115) dX11_span_49 (by decide) (by omega) (by omega) (fun c => ?_) (fun c => ?_)
    · exact l_spn_f hk a1 a2 a3 (fun a b u h1 h2 q => a5 a b u (by omega) (by omega) (by omega) q) a6
    · refine e_aload_n (pc := 52) dX11_span_52 rfl rfl ?_
      refine e_get (pc := 53) fl_X11_315 dX11_span_53 (by repeat (first | assumption | exact hset_eq _ _ _ | (apply Lay.hd; assumption) | rw [hset_ne _ _ (by omega)])) (by rfl) ?_
      refine e_top (congrArg nI hs) ?_
      refine e_istore (pc := 56) dX11_span_56 (by decide) ?_
      refine n_iconst (pc := 58) 0 dX11_span_58 (by decide) ?_
      refine e_istore (pc := 59) dX11_span_59 (by decide) ?_
      exact l_spn_i hk (show mm ≤ 5 by omega) (fun h2 hG2 => ih mm (by omega) (by omega) h2 hG2) mm 0 rfl (Nat.zero_le _) h ⟨v, mm, ms, a1, a2, a3, Nat.le_refl _, fun a b u h1 h2 h3 => absurd h3 (by omega), a6⟩
end SPN
section SPX
variable {h : AH} {m : Nat} {x y : Sx} {ik : Bool} {len : Nat} {f : Nat → Nat} {ft fp : Int32}
theorem c_X11_span (hX : MAt h m x y ik len f ft fp) (hx : SxOk x) (w u v : Int32) : CI yX11_span MX11_span [.ref m, .int w, .int u, .int v] h (fun z h' => Q_span x w u v z ∧ MAt h' m x y ik len f ft fp ∧ Er m (m + 107) h h') := by
  obtain ⟨⟨p, n, q, s, hM, hs⟩, hR, ⟨g, hw, hg⟩, -⟩ := id hX
  have no : (okI w 6 && (okI u ((wld x w).1 ^ (wld x w).2.1) && okI v ((wld x w).1 ^ (wld x w).2.1))) = false → ∀ (sz : Nat) (l : List (Option Value)), VI MX11_span sz (fun z h' => Q_span x w u v z ∧ MAt h' m x y ik len f ft fp ∧ Er m (m + 107) h h') h 18 l [] := fun q sz l => by
    refine e_iconst (pc := 18) (v := -1) dX11_span_18 (by decide) ?_
    exact n_iret (pc := 19) dX11_span_19 rfl ⟨qF q rfl, hX, Er.rf _ _ _⟩
  refine CI.ofV (by decide) rfl rfl (by simp [Value.category]) (by exact Nat.le_of_ble_eq_true rfl) (fun sz => ?_)
  refine e_aload_n (pc := 0) dX11_span_0 rfl rfl ?_
  refine e_iload_n (pc := 1) dX11_span_1 rfl rfl ?_
  refine e_iload_n (pc := 2) dX11_span_2 rfl rfl ?_
  refine n_VP (pc := 3) (c_X11_isElement hX hx w u) bX11_isElement q_i_X11_isElement q_s_X11_isElement q_m_X11_312 dX11_span_3 rfl rfl (by repeat (first | assumption | exact hset_eq _ _ _ | (apply Lay.hd; assumption) | rw [hset_ne _ _ (by omega)])) rfl rfl (by exact Nat.le_of_ble_eq_true rfl) ⟨by decide, by decide⟩ ⟨rfl, rfl, Nat.zero_le _, Nat.zero_le _⟩ ?_
  refine n_bif_eq (pc := 6) (tgt := 18) dX11_span_6 (by decide) (fun c => ?_) (fun c => ?_)
  · refine no ?_ sz _
    unfold elB at c
    cases e : okI w 6 with
    | false => rfl
    | true => rw [e, Bool.true_and] at c; rw [c]; rfl
  refine e_aload_n (pc := 9) dX11_span_9 rfl rfl ?_
  refine e_iload_n (pc := 10) dX11_span_10 rfl rfl ?_
  refine e_iload_n (pc := 11) dX11_span_11 rfl rfl ?_
  refine n_VP (pc := 12) (c_X11_isElement hX hx w v) bX11_isElement q_i_X11_isElement q_s_X11_isElement q_m_X11_312 dX11_span_12 rfl rfl (by repeat (first | assumption | exact hset_eq _ _ _ | (apply Lay.hd; assumption) | rw [hset_ne _ _ (by omega)])) rfl rfl (by exact Nat.le_of_ble_eq_true rfl) ⟨by decide, by decide⟩ ⟨rfl, rfl, Nat.zero_le _, Nat.zero_le _⟩ ?_
  have d := c
  unfold elB at d
  rw [Bool.and_eq_true] at d
  obtain ⟨d1, d2⟩ := d
  refine n_bif_ne (pc := 15) (tgt := 20) dX11_span_15 (by decide) (fun c2 => ?_) (fun c2 => ?_)
  · unfold elB at c2
    rw [d1, Bool.true_and] at c2
    obtain ⟨a, ha, rfl⟩ := okI_of (by decide) d1
    rw [wld_nI ha] at d2 c2
    have wk := hx.1 a (by omega)
    have b := wk.b
    obtain ⟨u', hu, rfl⟩ := okI_of (by omega) d2
    obtain ⟨v', hv, rfl⟩ := okI_of (by omega) c2
    refine e_aload_n (pc := 20) dX11_span_20 rfl rfl ?_
    refine e_iload_n (pc := 21) dX11_span_21 rfl rfl ?_
    refine n_Vv (pc := 22) (c_X11_laysOut hM hR hw (hg.1 a ha) wk ha) bX11_laysOut q_i_X11_laysOut q_s_X11_laysOut q_m_X11_147 dX11_span_22 rfl rfl (by repeat (first | assumption | exact hset_eq _ _ _ | (apply Lay.hd; assumption) | rw [hset_ne _ _ (by omega)])) rfl rfl (by exact Nat.le_of_ble_eq_true rfl) ⟨by decide, by decide⟩ ⟨rfl, rfl, Nat.zero_le _, Nat.zero_le _⟩ (fun h2 hp => ?_)
    obtain ⟨l2, -⟩ := id hp
    obtain ⟨g96, r96⟩ := l2.2.2.row (k := 96) (isR_d _ (by decide))
    refine e_aload_n (pc := 25) dX11_span_25 rfl rfl ?_
    refine n_iconst (pc := 26) 0 dX11_span_26 (by decide) ?_
    refine e_put (pc := 27) pl_X11_315 dX11_span_27 (by repeat (first | assumption | exact hset_eq _ _ _ | (apply Lay.hd; assumption) | rw [hset_ne _ _ (by omega)])) (by rfl) (by rfl) (by exact Nat.le_of_ble_eq_true rfl) ?_
    have lz : Lay (hset h2 m (ob 10 (mfs m (x.ws a).1 (x.ws a).2.1 ((x.ws a).1 ^ (x.ws a).2.1) (s.setSp 0)))) m (x.ws a) (s.setSp 0) := ⟨hset_eq _ _ _, l2.2.1.keep (hset_ne _ _ (by omega)), l2.2.2.hd⟩
    have i0 : SpI (hset h2 m (ob 10 (mfs m (x.ws a).1 (x.ws a).2.1 ((x.ws a).1 ^ (x.ws a).2.1) (s.setSp 0)))) m (x.ws a) (s.setSp 0) 0 (fun _ => 0) := ⟨lz, rfl, ⟨g96, (hset_ne _ _ (by omega)).trans r96, fun i hi => absurd hi (Nat.not_lt_zero i)⟩, fun i hi => absurd hi (Nat.not_lt_zero i), _, _, EOk_0 _ _, (rk_0 _).symm, fun u => ⟨fun _ i hi => absurd hi (Nat.not_lt_zero i), fun _ => Sol_0 _ _ u⟩⟩
    have f0 : FmS m h2 (hset h2 m (ob 10 (mfs m (x.ws a).1 (x.ws a).2.1 ((x.ws a).1 ^ (x.ws a).2.1) (s.setSp 0)))) := fun b q1 q2 => hset_ne _ _ q1
    show VI MX11_span sz _ (hset h2 m (ob 10 (mfs m (x.ws a).1 (x.ws a).2.1 ((x.ws a).1 ^ (x.ws a).2.1) (s.setSp 0)))) 30 _ _
    generalize hset h2 m (ob 10 (mfs m (x.ws a).1 (x.ws a).2.1 ((x.ws a).1 ^ (x.ws a).2.1) (s.setSp 0))) = h3 at lz i0 f0 ⊢
    refine e_aload_n (pc := 30) dX11_span_30 rfl rfl ?_
    refine e_iload_n (pc := 31) dX11_span_31 rfl rfl ?_
    refine n_Vv (pc := 32) (c_X11_spans i0 wk hu) bX11_spans q_i_X11_spans q_s_X11_spans q_m_X11_318 dX11_span_32 rfl rfl (by repeat (first | assumption | exact hset_eq _ _ _ | (apply Lay.hd; assumption) | rw [hset_ne _ _ (by omega)])) rfl rfl (by exact Nat.le_of_ble_eq_true rfl) ⟨by decide, by decide⟩ ⟨rfl, rfl, Nat.zero_le _, Nat.zero_le _⟩ (fun h4 hp4 => ?_)
    obtain ⟨v4, m4, ms4, c1, c2', c3, c4, c5, c6⟩ := hp4
    have l4 := c1.1
    refine e_aload_n (pc := 35) dX11_span_35 rfl rfl ?_
    refine e_iload_n (pc := 36) dX11_span_36 rfl rfl ?_
    refine n_Vv (pc := 37) (c_X11_spans c1 wk hv) bX11_spans q_i_X11_spans q_s_X11_spans q_m_X11_318 dX11_span_37 rfl rfl (by repeat (first | assumption | exact hset_eq _ _ _ | (apply Lay.hd; assumption) | rw [hset_ne _ _ (by omega)])) rfl rfl (by exact Nat.le_of_ble_eq_true rfl) ⟨by decide, by decide⟩ ⟨rfl, rfl, Nat.zero_le _, Nat.zero_le _⟩ (fun h5 hp5 => ?_)
    obtain ⟨v5, m5, ms5, e1, e2, e3, e4, e5, e6⟩ := hp5
    have l5 := e1.1
    have s5 := e1.2.1
    have le5 := e1.le wk
    have gen5 : ∀ t, t < m5 → Gen (x.ws a) u' v' (ms5 t) := fun t ht => by
      by_cases t3 : t < m4
      · rw [e3 t t3, c4 t (Nat.zero_le _) t3]; exact Gen.x
      · rw [e4 t (by omega) ht]; exact Gen.y
    refine e_iconst (pc := 40) (v := -1) dX11_span_40 (by decide) ?_
    refine e_istore (pc := 41) dX11_span_41 (by decide) ?_
    refine e_iload (pc := 43) dX11_span_43 rfl ?_
    refine e_aload_n (pc := 45) dX11_span_45 rfl rfl ?_
    refine e_get (pc := 46) fl_X11_315 dX11_span_46 (by repeat (first | assumption | exact hset_eq _ _ _ | (apply Lay.hd; assumption) | rw [hset_ne _ _ (by omega)])) (by rfl) ?_
    refine e_top (congrArg nI s5) ?_
    refine e_icmp_eq (pc := 49) (tgt := 115) dX11_span_49 (by decide) (fun c => absurd c.symm (nI_ne (by omega))) (fun _ => ?_)
    refine e_aload_n (pc := 52) dX11_span_52 rfl rfl ?_
    refine e_get (pc := 53) fl_X11_315 dX11_span_53 (by repeat (first | assumption | exact hset_eq _ _ _ | (apply Lay.hd; assumption) | rw [hset_ne _ _ (by omega)])) (by rfl) ?_
    refine e_top (congrArg nI s5) ?_
    refine e_istore (pc := 56) dX11_span_56 (by decide) ?_
    refine n_iconst (pc := 58) 0 dX11_span_58 (by decide) ?_
    refine e_istore (pc := 59) dX11_span_59 (by decide) ?_
    have f5 := (f0.tr c6).tr e6
    refine V.post ?_ (l_spn_i (hh := h2) (s := s) (x := u') (y := v') wk (show m5 ≤ 5 by omega) (fun h6 hG6 => l_spn (hh := h2) (s := s) wk 5 m5 (by omega) (by omega) h6 hG6) m5 0 rfl (Nat.zero_le _) h5 ⟨v5, m5, ms5, e1, gen5, fun u hu => ⟨(c5 u (e5 u hu).1).2, (e5 u hu).2⟩, Nat.le_refl _, fun a b u h1 h2 h3 => absurd h3 (by omega), f5⟩)
    intro rr h' z qq
    obtain ⟨k1, z', k2, k0, v7, k3, k4⟩ := qq
    obtain ⟨hX2, q2⟩ := hX.laid (p := p) (n := n) (q := q) hs hp
    refine ⟨k1, _, k2, qT (by rw [ok6 ha, wld_nI ha, d2, c2]; rfl) ?_, hX2.re k3.1 hs k3.2.2 k4.qf, (q2.tr k4.qf).er⟩
    rw [wld_nI ha, cl_nI (by omega), cl_nI (by omega)]
    exact k0
  · refine no ?_ sz _
    unfold elB at c2
    rw [d1, Bool.true_and] at c2
    rw [c2, Bool.and_false, Bool.and_false]
end SPX
