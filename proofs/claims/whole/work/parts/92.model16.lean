/-! ===== the reference: a world made to have a unit ===== -/
section UNI
variable {m : Nat} {s : Ms} {W : Wd} {sz : Nat} {hh : AH}
theorem side_f {W : Wd} {e x : Nat} : side W e false x = mul W x e := by unfold side; rw [if_neg (by decide)]
theorem side_t {W : Wd} {e x : Nat} : side W e true x = mul W e x := by unfold side; rw [if_pos rfl]
theorem Lay.row {h : AH} (l : Lay h m W s) {k : Nat} {g : Nat → Int32} {n : Nat} (hk : isR k) (hn : n = szM k) (h4 : 4 ≤ k) (h9 : k ≠ 9) : Lay (hset h (m + k) (aI n g)) m W s := l.fq ((FmB.rf m h).set (by have := hk.2.1; omega)) (l.2.2.set hk hn)
/-- the turned-back base elements told so far: all before i, and i itself when it comes before x -/
def UnB (hh h : AH) (m : Nat) (W : Wd) (s : Ms) (e i x y : Nat) : Prop := Lay h m W s ∧ FmB m hh h ∧ (∃ g, h (m + 98) = some (aI 5 g) ∧ (∀ k, k < i → g k = nI (qz W e false (W.1 ^ k))) ∧ (qz W e false (W.1 ^ i) < x → g i = nI (qz W e false (W.1 ^ i)))) ∧ ∃ g, h (m + 99) = some (aI 5 g) ∧ (∀ k, k < i → g k = nI (qz W e true (W.1 ^ k))) ∧ (qz W e true (W.1 ^ i) < y → g i = nI (qz W e true (W.1 ^ i)))
theorem UnB.fd {h h2 : AH} {e i x y : Nat} (q : UnB hh h m W s e i x y) (l : Lay h2 m W s) (f : FdM m h h2) : UnB hh h2 m W s e i x y := by
  obtain ⟨q1, q2, ⟨g, q3, q4⟩, g2, q5, q6⟩ := q
  exact ⟨l, q2.tr f.ff.fq, ⟨g, (f _ (by omega) (by omega) (by omega)).trans q3, q4⟩, g2, (f _ (by omega) (by omega) (by omega)).trans q5, q6⟩
theorem l_uni_r {e i x : Nat} {l1 l2 : Option Value} {Pr : Int32 → AH → Prop} {h : AH} (hk : Wok W) (hD : Div W) (h0 : 0 < e) (he : e < W.1 ^ W.2.1) (hi : i < W.2.1) (hx : x < W.1 ^ W.2.1) (hU : UnB hh h m W s e i (x + 1) x)
    (kk : ∀ h, UnB hh h m W s e i (x + 1) (x + 1) → VI MX11_unital sz Pr h 111 [some (.ref m), l1, l2, some (.int (nI e)), some (.int (nI i)), some (.int (nI x)), none] []) : VI MX11_unital sz Pr h 86 [some (.ref m), l1, l2, some (.int (nI e)), some (.int (nI i)), some (.int (nI x)), none] [] := by
  obtain ⟨b1, b2, b3, b4, b5⟩ := hk.b
  have ml := mul_lt hk e x
  have pi := pow_q hk hi
  have hL := hU.1
  refine e_aload_n (pc := 86) dX11_unital_86 rfl rfl ?_
  refine e_iload_n (pc := 87) dX11_unital_87 rfl rfl ?_
  refine e_iload (pc := 88) dX11_unital_88 rfl ?_
  refine n_V (pc := 90) (c_X11_times hL hk (show e < 2 ^ 31 by omega) (show x < 2 ^ 31 by omega)) bX11_times q_i_X11_times q_s_X11_times q_m_X11_266 dX11_unital_90 rfl rfl (by repeat (first | assumption | exact hset_eq _ _ _ | (apply Lay.hd; assumption) | rw [hset_ne _ _ (by omega)])) rfl rfl (by exact Nat.le_of_ble_eq_true rfl) ⟨by decide, by decide⟩ ⟨rfl, rfl, Nat.zero_le _, Nat.zero_le _⟩ (fun z h2 hp => ?_)
  obtain ⟨rfl, p1, p2⟩ := hp
  have hU2 := hU.fd p1 p2
  refine e_aload_n (pc := 93) dX11_unital_93 rfl rfl ?_
  refine e_iload (pc := 94) dX11_unital_94 rfl ?_
  refine n_VP (pc := 96) (p1.base (show i < 2 ^ 31 by omega)) bX11_base q_i_X11_base q_s_X11_base q_m_X11_223 dX11_unital_96 rfl rfl (by repeat (first | assumption | exact hset_eq _ _ _ | (apply Lay.hd; assumption) | rw [hset_ne _ _ (by omega)])) rfl rfl (by exact Nat.le_of_ble_eq_true rfl) ⟨by decide, by decide⟩ ⟨rfl, rfl, Nat.zero_le _, Nat.zero_le _⟩ ?_
  refine n_icmp_ne (pc := 99) (tgt := 111) dX11_unital_99 (by decide) (by omega) (by omega) (fun c => ?_) (fun c => ?_)
  · refine kk h2 ?_
    obtain ⟨q1, q2, q3, g2, q5, q6, q7⟩ := hU2
    refine ⟨q1, q2, q3, g2, q5, q6, fun z => ?_⟩
    by_cases e2 : qz W e true (W.1 ^ i) = x
    · exact absurd (by have := (qz_ok hk hD h0 he true pi).2; rw [e2, side_t] at this; exact this) c
    · exact q7 (by omega)
  · obtain ⟨q1, q2, ⟨g1, q3, q4⟩, g2, q5, q6, q7⟩ := hU2
    refine e_aload_n (pc := 102) dX11_unital_102 rfl rfl ?_
    refine e_get (pc := 103) fl_X11_71 dX11_unital_103 (by repeat (first | assumption | exact hset_eq _ _ _ | (apply Lay.hd; assumption) | rw [hset_ne _ _ (by omega)])) (by rfl) ?_
    refine e_iload (pc := 106) dX11_unital_106 rfl ?_
    refine e_iload (pc := 108) dX11_unital_108 rfl ?_
    refine e_iastN (pc := 110) i dX11_unital_110 (by repeat (first | assumption | exact hset_eq _ _ _ | (apply Lay.hd; assumption) | rw [hset_ne _ _ (by omega)])) (by rfl) (by omega) (by first | decide | omega) ?_
    refine kk _ ⟨q1.row (isR_d 99 (by decide)) rfl (by decide) (by decide), q2.set (by decide), ⟨g1, (hset_ne _ _ (by omega)).trans q3, q4⟩, _, hset_eq _ _ _, fun k hk2 => ?_, fun _ => ?_⟩
    · rw [pk_un (by omega)]; exact q6 k hk2
    · rw [pk_us, qz_eq hk hD h0 he (l := true) hx (side_t.trans c)]
theorem l_uni_x {e i : Nat} {l1 l2 : Option Value} {Pr : Int32 → AH → Prop} (hk : Wok W) (hD : Div W) (h0 : 0 < e) (he : e < W.1 ^ W.2.1) (hi : i < W.2.1)
    (kk : ∀ h, UnB hh h m W s e (i + 1) 0 0 → VI MX11_unital sz Pr h 117 [some (.ref m), l1, l2, some (.int (nI e)), some (.int (nI i)), none, none] []) :
    ∀ (t x : Nat), t = W.1 ^ W.2.1 - x → x ≤ W.1 ^ W.2.1 → ∀ h, UnB hh h m W s e i x x → VI MX11_unital sz Pr h 52 [some (.ref m), l1, l2, some (.int (nI e)), some (.int (nI i)), some (.int (nI x)), none] [] := by
  obtain ⟨b1, b2, b3, b4, b5⟩ := hk.b
  have pi := pow_q hk hi
  intro t
  induction t with
  | zero =>
    intro x e1 e2 h hU
    have hL := hU.1
    refine e_iload (pc := 52) dX11_unital_52 rfl ?_
    refine e_aload_n (pc := 54) dX11_unital_54 rfl rfl ?_
    refine e_get (pc := 55) fl_X11_112 dX11_unital_55 (by repeat (first | assumption | exact hset_eq _ _ _ | (apply Lay.hd; assumption) | rw [hset_ne _ _ (by omega)])) (by rfl) ?_
    refine n_icmp_ge (pc := 58) (tgt := 117) dX11_unital_58 (by decide) (by omega) (by omega) (fun hb_ => ?_) (fun c => absurd c (by omega))
    refine V.mask [true, true, true, true, true, false, false] ?_
    obtain ⟨q1, q2, ⟨g1, q3, q4, q5⟩, g2, q6, q7, q8⟩ := hU
    refine kk h ⟨q1, q2, ⟨g1, q3, fun k hk2 => ?_, fun z => absurd z (Nat.not_lt_zero _)⟩, g2, q6, fun k hk2 => ?_, fun z => absurd z (Nat.not_lt_zero _)⟩
    · by_cases e5 : k = i
      · subst e5; exact q5 (by have := (qz_ok hk hD h0 he false pi).1; omega)
      · exact q4 k (by omega)
    · by_cases e5 : k = i
      · subst e5; exact q8 (by have := (qz_ok hk hD h0 he true pi).1; omega)
      · exact q7 k (by omega)
  | succ t ih =>
    intro x e1 e2 h hU
    have ml := mul_lt hk x e
    have hL := hU.1
    have nxt : ∀ h, UnB hh h m W s e i (x + 1) (x + 1) → VI MX11_unital sz Pr h 111 [some (.ref m), l1, l2, some (.int (nI e)), some (.int (nI i)), some (.int (nI x)), none] [] := fun h3 u3 => by
      refine n_inc (pc := 111) dX11_unital_111 rfl (by decide) ?_
      refine e_goto (pc := 114) (tgt := 52) dX11_unital_114 (by decide) ?_
      exact ih (x + 1) (by omega) (by omega) h3 u3
    refine e_iload (pc := 52) dX11_unital_52 rfl ?_
    refine e_aload_n (pc := 54) dX11_unital_54 rfl rfl ?_
    refine e_get (pc := 55) fl_X11_112 dX11_unital_55 (by repeat (first | assumption | exact hset_eq _ _ _ | (apply Lay.hd; assumption) | rw [hset_ne _ _ (by omega)])) (by rfl) ?_
    refine n_icmp_ge (pc := 58) (tgt := 117) dX11_unital_58 (by decide) (by omega) (by omega) (fun c => absurd c (by omega)) (fun hb_ => ?_)
    refine e_aload_n (pc := 61) dX11_unital_61 rfl rfl ?_
    refine e_iload (pc := 62) dX11_unital_62 rfl ?_
    refine e_iload_n (pc := 64) dX11_unital_64 rfl rfl ?_
    refine n_V (pc := 65) (c_X11_times hL hk (show x < 2 ^ 31 by omega) (show e < 2 ^ 31 by omega)) bX11_times q_i_X11_times q_s_X11_times q_m_X11_266 dX11_unital_65 rfl rfl (by repeat (first | assumption | exact hset_eq _ _ _ | (apply Lay.hd; assumption) | rw [hset_ne _ _ (by omega)])) rfl rfl (by exact Nat.le_of_ble_eq_true rfl) ⟨by decide, by decide⟩ ⟨rfl, rfl, Nat.zero_le _, Nat.zero_le _⟩ (fun z h2 hp => ?_)
    obtain ⟨rfl, p1, p2⟩ := hp
    have hU2 := hU.fd p1 p2
    refine e_aload_n (pc := 68) dX11_unital_68 rfl rfl ?_
    refine e_iload (pc := 69) dX11_unital_69 rfl ?_
    refine n_VP (pc := 71) (p1.base (show i < 2 ^ 31 by omega)) bX11_base q_i_X11_base q_s_X11_base q_m_X11_223 dX11_unital_71 rfl rfl (by repeat (first | assumption | exact hset_eq _ _ _ | (apply Lay.hd; assumption) | rw [hset_ne _ _ (by omega)])) rfl rfl (by exact Nat.le_of_ble_eq_true rfl) ⟨by decide, by decide⟩ ⟨rfl, rfl, Nat.zero_le _, Nat.zero_le _⟩ ?_
    refine n_icmp_ne (pc := 74) (tgt := 86) dX11_unital_74 (by decide) (by omega) (by omega) (fun c => ?_) (fun c => ?_)
    · refine l_uni_r hk hD h0 he hi (show x < W.1 ^ W.2.1 by omega) ?_ nxt
      obtain ⟨q1, q2, ⟨g1, q3, q4, q5⟩, q6⟩ := hU2
      refine ⟨q1, q2, ⟨g1, q3, q4, fun z => ?_⟩, q6⟩
      by_cases e2 : qz W e false (W.1 ^ i) = x
      · exact absurd (by have := (qz_ok hk hD h0 he false pi).2; rw [e2, side_f] at this; exact this) c
      · exact q5 (by omega)
    · obtain ⟨q1, q2, ⟨g1, q3, q4, q5⟩, g2, q6, q7⟩ := hU2
      refine e_aload_n (pc := 77) dX11_unital_77 rfl rfl ?_
      refine e_get (pc := 78) fl_X11_68 dX11_unital_78 (by repeat (first | assumption | exact hset_eq _ _ _ | (apply Lay.hd; assumption) | rw [hset_ne _ _ (by omega)])) (by rfl) ?_
      refine e_iload (pc := 81) dX11_unital_81 rfl ?_
      refine e_iload (pc := 83) dX11_unital_83 rfl ?_
      refine e_iastN (pc := 85) i dX11_unital_85 (by repeat (first | assumption | exact hset_eq _ _ _ | (apply Lay.hd; assumption) | rw [hset_ne _ _ (by omega)])) (by rfl) (by omega) (by first | decide | omega) ?_
      refine l_uni_r hk hD h0 he hi (show x < W.1 ^ W.2.1 by omega) ⟨q1.row (isR_d 98 (by decide)) rfl (by decide) (by decide), q2.set (by decide), ⟨_, hset_eq _ _ _, fun k hk2 => ?_, fun _ => ?_⟩, g2, (hset_ne _ _ (by omega)).trans q6, q7⟩ nxt
      · rw [pk_un (by omega)]; exact q4 k hk2
      · rw [pk_us, qz_eq hk hD h0 he (l := false) (show x < W.1 ^ W.2.1 by omega) (side_f.trans c)]
theorem l_uni_i {e : Nat} {l1 l2 : Option Value} {Pr : Int32 → AH → Prop} (hk : Wok W) (hD : Div W) (h0 : 0 < e) (he : e < W.1 ^ W.2.1)
    (kk : ∀ h, UnB hh h m W s e W.2.1 0 0 → VI MX11_unital sz Pr h 123 [some (.ref m), l1, l2, some (.int (nI e)), none, none, none] []) :
    ∀ (t i : Nat), t = W.2.1 - i → i ≤ W.2.1 → ∀ h, UnB hh h m W s e i 0 0 → VI MX11_unital sz Pr h 40 [some (.ref m), l1, l2, some (.int (nI e)), some (.int (nI i)), none, none] [] := by
  obtain ⟨b1, b2, b3, b4, b5⟩ := hk.b
  intro t
  induction t with
  | zero =>
    intro i e1 e2 h hU
    have hL := hU.1
    have e' : i = W.2.1 := by omega
    refine e_iload (pc := 40) dX11_unital_40 rfl ?_
    refine e_aload_n (pc := 42) dX11_unital_42 rfl rfl ?_
    refine e_get (pc := 43) fl_X11_109 dX11_unital_43 (by repeat (first | assumption | exact hset_eq _ _ _ | (apply Lay.hd; assumption) | rw [hset_ne _ _ (by omega)])) (by rfl) ?_
    refine n_icmp_ge (pc := 46) (tgt := 123) dX11_unital_46 (by decide) (by omega) (by omega) (fun hb_ => ?_) (fun c => absurd c (by omega))
    refine V.mask [true, true, true, true, false, false, false] ?_
    exact kk h (by rw [← e']; exact hU)
  | succ t ih =>
    intro i e1 e2 h hU
    have hL := hU.1
    refine e_iload (pc := 40) dX11_unital_40 rfl ?_
    refine e_aload_n (pc := 42) dX11_unital_42 rfl rfl ?_
    refine e_get (pc := 43) fl_X11_109 dX11_unital_43 (by repeat (first | assumption | exact hset_eq _ _ _ | (apply Lay.hd; assumption) | rw [hset_ne _ _ (by omega)])) (by rfl) ?_
    refine n_icmp_ge (pc := 46) (tgt := 123) dX11_unital_46 (by decide) (by omega) (by omega) (fun c => absurd c (by omega)) (fun hb_ => ?_)
    refine n_iconst (pc := 49) 0 dX11_unital_49 (by decide) ?_
    refine e_istore (pc := 50) dX11_unital_50 (by decide) ?_
    refine l_uni_x hk hD h0 he (show i < W.2.1 by omega) (fun h2 u2 => ?_) (W.1 ^ W.2.1) 0 rfl (Nat.zero_le _) h hU
    refine n_inc (pc := 117) dX11_unital_117 rfl (by decide) ?_
    refine e_goto (pc := 120) (tgt := 40) dX11_unital_120 (by decide) ?_
    exact ih (i + 1) (by omega) (by omega) h2 u2
theorem l_uni_z {e : Nat} {l1 l2 : Option Value} {Pr : Int32 → AH → Prop} {h : AH} (hL : Lay h m W s)
    (kk : ∀ g, (∀ t, t < 125 → g t = nI 0) → VI MX11_unital sz Pr (hset h (m + 97) (aI 125 g)) 147 [some (.ref m), l1, l2, some (.int (nI e)), none, none, none] []) :
    ∀ (t k : Nat), t = 125 - k → k ≤ 125 → ∀ g, (∀ t, t < k → g t = nI 0) → VI MX11_unital sz Pr (hset h (m + 97) (aI 125 g)) 126 [some (.ref m), l1, l2, some (.int (nI e)), some (.int (nI k)), none, none] [] := by
  intro t
  induction t with
  | zero =>
    intro k e1 e2 g hg
    have e' : k = 125 := by omega
    subst e'
    refine e_iload (pc := 126) dX11_unital_126 rfl ?_
    refine n_bipush (pc := 128) 125 dX11_unital_128 (by decide) ?_
    refine n_icmp_ge (pc := 130) (tgt := 147) dX11_unital_130 (by decide) (by omega) (by omega) (fun hb_ => ?_) (fun c => absurd c (by omega))
    refine V.mask [true, true, true, true, false, false, false] ?_
    exact kk g hg
  | succ t ih =>
    intro k e1 e2 g hg
    refine e_iload (pc := 126) dX11_unital_126 rfl ?_
    refine n_bipush (pc := 128) 125 dX11_unital_128 (by decide) ?_
    refine n_icmp_ge (pc := 130) (tgt := 147) dX11_unital_130 (by decide) (by omega) (by omega) (fun c => absurd c (by omega)) (fun hb_ => ?_)
    refine e_aload_n (pc := 133) dX11_unital_133 rfl rfl ?_
    refine e_get (pc := 134) fl_X11_65 dX11_unital_134 (by repeat (first | assumption | exact hset_eq _ _ _ | (apply Lay.hd; assumption) | rw [hset_ne _ _ (by omega)])) (by rfl) ?_
    refine e_iload (pc := 137) dX11_unital_137 rfl ?_
    refine n_iconst (pc := 139) 0 dX11_unital_139 (by decide) ?_
    refine e_iastN (pc := 140) k dX11_unital_140 (by repeat (first | assumption | exact hset_eq _ _ _ | (apply Lay.hd; assumption) | rw [hset_ne _ _ (by omega)])) (by rfl) (by omega) (by first | decide | omega) ?_
    refine e_heap (hset_hset h (m + 97) _ _) ?_
    refine n_inc (pc := 141) dX11_unital_141 rfl (by decide) ?_
    refine e_goto (pc := 144) (tgt := 126) dX11_unital_144 (by decide) ?_
    refine ih (k + 1) (by omega) (by omega) _ (fun t ht => ?_)
    by_cases c : t = k
    · subst c; rw [pk_us]
    · rw [pk_un c]; exact hg t (by omega)
/-- the cube that is made, up to a place -/
def UnM (h : AH) (m : Nat) (W : Wd) (e i j k : Nat) : Prop := ∃ g, h (m + 97) = some (aI 125 g) ∧ ∀ t, t < 125 → g t = nI (if inC W.2.1 t ∧ (t / 25 < i ∨ t / 25 = i ∧ (t / 5 % 5 < j ∨ t / 5 % 5 = j ∧ t % 5 < k)) then uD W e t else 0)
theorem UnM.step {h : AH} {e i j k i2 j2 k2 : Nat} (q : UnM h m W e i j k) (c : ∀ t, inC W.2.1 t → ((t / 25 < i ∨ t / 25 = i ∧ (t / 5 % 5 < j ∨ t / 5 % 5 = j ∧ t % 5 < k)) ↔ (t / 25 < i2 ∨ t / 25 = i2 ∧ (t / 5 % 5 < j2 ∨ t / 5 % 5 = j2 ∧ t % 5 < k2)))) : UnM h m W e i2 j2 k2 := by
  obtain ⟨g, g1, g2⟩ := q
  refine ⟨g, g1, fun t ht => ?_⟩
  rw [g2 t ht]
  by_cases e1 : inC W.2.1 t ∧ (t / 25 < i ∨ t / 25 = i ∧ (t / 5 % 5 < j ∨ t / 5 % 5 = j ∧ t % 5 < k))
  · rw [if_pos e1, if_pos ⟨e1.1, (c t e1.1).mp e1.2⟩]
  · rw [if_neg e1, if_neg (fun z => e1 ⟨z.1, (c t z.1).mpr z.2⟩)]
/-- the rows of turned-back base elements -/
def UnR (h : AH) (m : Nat) (W : Wd) (e : Nat) : Prop := (∃ g, h (m + 98) = some (aI 5 g) ∧ ∀ k, k < W.2.1 → g k = nI (qz W e false (W.1 ^ k))) ∧ ∃ g, h (m + 99) = some (aI 5 g) ∧ ∀ k, k < W.2.1 → g k = nI (qz W e true (W.1 ^ k))
theorem UnR.keep {h h2 : AH} {e : Nat} (q : UnR h m W e) (c : ∀ a, a = m + 98 ∨ a = m + 99 → h2 a = h a) : UnR h2 m W e := by
  obtain ⟨⟨g, q1, q2⟩, g2, q3, q4⟩ := q
  exact ⟨⟨g, (c _ (Or.inl rfl)).trans q1, q2⟩, g2, (c _ (Or.inr rfl)).trans q3, q4⟩
theorem l_uni_k {e i j v : Nat} {l1 l2 : Option Value} {Pr : Int32 → AH → Prop} {h0 : AH} (hk : Wok W) (hi : i < W.2.1) (hj : j < W.2.1) (hL : Lay h0 m W s) (hv : v = mul W (qz W e false (W.1 ^ i)) (qz W e true (W.1 ^ j))) (hz : ∃ g, h0 (m + 6) = some (aI 5 g) ∧ ∀ k, k < 5 → g k = nI (dgn W.1 W.2.1 v k))
    (kk : ∀ h, Lay h m W s → (∀ b, b ≠ m + 97 → h b = h0 b) → UnM h m W e i (j + 1) 0 → VI MX11_unital sz Pr h 240 [some (.ref m), l1, l2, some (.int (nI e)), some (.int (nI i)), some (.int (nI j)), none] []) :
    ∀ (t k : Nat), t = W.2.1 - k → k ≤ W.2.1 → ∀ h, Lay h m W s → (∀ b, b ≠ m + 97 → h b = h0 b) → UnM h m W e i j k → VI MX11_unital sz Pr h 200 [some (.ref m), l1, l2, some (.int (nI e)), some (.int (nI i)), some (.int (nI j)), some (.int (nI k))] [] := by
  obtain ⟨b1, b2, b3, b4, b5⟩ := hk.b
  obtain ⟨gz, z1, z2⟩ := hz
  intro t
  induction t with
  | zero =>
    intro k e1 e2 h l1' fr hM
    refine e_iload (pc := 200) dX11_unital_200 rfl ?_
    refine e_aload_n (pc := 202) dX11_unital_202 rfl rfl ?_
    refine e_get (pc := 203) fl_X11_109 dX11_unital_203 (by repeat (first | assumption | exact hset_eq _ _ _ | (apply Lay.hd; assumption) | rw [hset_ne _ _ (by omega)])) (by rfl) ?_
    refine n_icmp_ge (pc := 206) (tgt := 240) dX11_unital_206 (by decide) (by omega) (by omega) (fun hb_ => ?_) (fun c => absurd c (by omega))
    refine V.mask [true, true, true, true, true, true, false] ?_
    exact kk h l1' fr (hM.step (fun t ht => by have e' : k = W.2.1 := by omega
                                               have := ht.2.2.2
                                               omega))
  | succ t ih =>
    intro k e1 e2 h l1' fr hM
    have z1' : h (m + 6) = some (aI 5 gz) := (fr _ (by omega)).trans z1
    have z := z2 k (by omega)
    rw [show dgn W.1 W.2.1 v k = dg W.1 v k from if_pos (by omega)] at z
    obtain ⟨g, g1, g2⟩ := hM
    refine e_iload (pc := 200) dX11_unital_200 rfl ?_
    refine e_aload_n (pc := 202) dX11_unital_202 rfl rfl ?_
    refine e_get (pc := 203) fl_X11_109 dX11_unital_203 (by repeat (first | assumption | exact hset_eq _ _ _ | (apply Lay.hd; assumption) | rw [hset_ne _ _ (by omega)])) (by rfl) ?_
    refine n_icmp_ge (pc := 206) (tgt := 240) dX11_unital_206 (by decide) (by omega) (by omega) (fun c => absurd c (by omega)) (fun hb_ => ?_)
    refine e_aload_n (pc := 209) dX11_unital_209 rfl rfl ?_
    refine e_get (pc := 210) fl_X11_65 dX11_unital_210 (by repeat (first | assumption | exact hset_eq _ _ _ | (apply Lay.hd; assumption) | rw [hset_ne _ _ (by omega)])) (by rfl) ?_
    refine n_bipush (pc := 213) 25 dX11_unital_213 (by decide) ?_
    refine e_iload (pc := 215) dX11_unital_215 rfl ?_
    refine n_imul (pc := 217) dX11_unital_217 ?_
    refine n_iconst (pc := 218) 5 dX11_unital_218 (by decide) ?_
    refine e_iload (pc := 219) dX11_unital_219 rfl ?_
    refine n_imul (pc := 221) dX11_unital_221 ?_
    refine n_iadd (pc := 222) dX11_unital_222 ?_
    refine e_iload (pc := 223) dX11_unital_223 rfl ?_
    refine n_iadd (pc := 225) dX11_unital_225 ?_
    refine e_aload_n (pc := 226) dX11_unital_226 rfl rfl ?_
    refine e_get (pc := 227) fl_X11_25 dX11_unital_227 (by repeat (first | assumption | exact hset_eq _ _ _ | (apply Lay.hd; assumption) | rw [hset_ne _ _ (by omega)])) (by rfl) ?_
    refine e_iload (pc := 230) dX11_unital_230 rfl ?_
    refine e_ialdN (pc := 232) k dX11_unital_232 (by repeat (first | assumption | exact hset_eq _ _ _ | (apply Lay.hd; assumption) | rw [hset_ne _ _ (by omega)])) (by rfl) (by omega) (by first | decide | omega) ?_
    rw [z]
    refine e_iastN (pc := 233) (25 * i + 5 * j + k) dX11_unital_233 (by repeat (first | assumption | exact hset_eq _ _ _ | (apply Lay.hd; assumption) | rw [hset_ne _ _ (by omega)])) (by rfl) (by omega) (by first | decide | omega) ?_
    refine n_inc (pc := 234) dX11_unital_234 rfl (by decide) ?_
    refine e_goto (pc := 237) (tgt := 200) dX11_unital_237 (by decide) ?_
    refine ih (k + 1) (by omega) (by omega) _ (l1'.row (isR_d 97 (by decide)) rfl (by decide) (by decide)) (fun b q => (hset_ne _ _ q).trans (fr b q)) ⟨_, hset_eq _ _ _, fun t ht => ?_⟩
    by_cases c : t = 25 * i + 5 * j + k
    · have t1 : t / 25 = i := by omega
      have t2 : t / 5 % 5 = j := by omega
      have t3 : t % 5 = k := by omega
      rw [c, pk_us, ← c, if_pos ⟨⟨ht, by omega, by omega, by omega⟩, by omega⟩]
      unfold uD
      rw [t1, t2, t3, hv]
    · rw [pk_un c, g2 t ht]
      refine congrArg nI ?_
      by_cases e3 : inC W.2.1 t ∧ (t / 25 < i ∨ t / 25 = i ∧ (t / 5 % 5 < j ∨ t / 5 % 5 = j ∧ t % 5 < k))
      · rw [if_pos e3, if_pos ⟨e3.1, by omega⟩]
      · rw [if_neg e3, if_neg (fun z => e3 ⟨z.1, by omega⟩)]
theorem l_uni_j {e i : Nat} {l1 l2 : Option Value} {Pr : Int32 → AH → Prop} (hk : Wok W) (hD : Div W) (h0 : 0 < e) (he : e < W.1 ^ W.2.1) (hi : i < W.2.1)
    (kk : ∀ h, Lay h m W s → FmB m hh h → UnR h m W e → UnM h m W e (i + 1) 0 0 → VI MX11_unital sz Pr h 246 [some (.ref m), l1, l2, some (.int (nI e)), some (.int (nI i)), none, none] []) :
    ∀ (t j : Nat), t = W.2.1 - j → j ≤ W.2.1 → ∀ h, Lay h m W s → FmB m hh h → UnR h m W e → UnM h m W e i j 0 → VI MX11_unital sz Pr h 162 [some (.ref m), l1, l2, some (.int (nI e)), some (.int (nI i)), some (.int (nI j)), none] [] := by
  obtain ⟨b1, b2, b3, b4, b5⟩ := hk.b
  intro t
  induction t with
  | zero =>
    intro j e1 e2 h hL fm hR hM
    refine e_iload (pc := 162) dX11_unital_162 rfl ?_
    refine e_aload_n (pc := 164) dX11_unital_164 rfl rfl ?_
    refine e_get (pc := 165) fl_X11_109 dX11_unital_165 (by repeat (first | assumption | exact hset_eq _ _ _ | (apply Lay.hd; assumption) | rw [hset_ne _ _ (by omega)])) (by rfl) ?_
    refine n_icmp_ge (pc := 168) (tgt := 246) dX11_unital_168 (by decide) (by omega) (by omega) (fun hb_ => ?_) (fun c => absurd c (by omega))
    refine V.mask [true, true, true, true, true, false, false] ?_
    exact kk h hL fm hR (hM.step (fun t ht => by have e' : j = W.2.1 := by omega
                                                 have := ht.2.2.1
                                                 omega))
  | succ t ih =>
    intro j e1 e2 h hL fm hR hM
    have pi := pow_q hk hi
    have pj := pow_q hk (show j < W.2.1 by omega)
    obtain ⟨⟨gl, r1, r2⟩, gr, r3, r4⟩ := id hR
    have z1 := r2 i hi
    have z2 := r4 j (by omega)
    have q1 := (qz_ok hk hD h0 he false pi).1
    have q2 := (qz_ok hk hD h0 he true pj).1
    have ml := mul_lt hk (qz W e false (W.1 ^ i)) (qz W e true (W.1 ^ j))
    refine e_iload (pc := 162) dX11_unital_162 rfl ?_
    refine e_aload_n (pc := 164) dX11_unital_164 rfl rfl ?_
    refine e_get (pc := 165) fl_X11_109 dX11_unital_165 (by repeat (first | assumption | exact hset_eq _ _ _ | (apply Lay.hd; assumption) | rw [hset_ne _ _ (by omega)])) (by rfl) ?_
    refine n_icmp_ge (pc := 168) (tgt := 246) dX11_unital_168 (by decide) (by omega) (by omega) (fun c => absurd c (by omega)) (fun hb_ => ?_)
    refine e_aload_n (pc := 171) dX11_unital_171 rfl rfl ?_
    refine e_aload_n (pc := 172) dX11_unital_172 rfl rfl ?_
    refine e_aload_n (pc := 173) dX11_unital_173 rfl rfl ?_
    refine e_get (pc := 174) fl_X11_68 dX11_unital_174 (by repeat (first | assumption | exact hset_eq _ _ _ | (apply Lay.hd; assumption) | rw [hset_ne _ _ (by omega)])) (by rfl) ?_
    refine e_iload (pc := 177) dX11_unital_177 rfl ?_
    refine e_ialdN (pc := 179) i dX11_unital_179 (by repeat (first | assumption | exact hset_eq _ _ _ | (apply Lay.hd; assumption) | rw [hset_ne _ _ (by omega)])) (by rfl) (by omega) (by first | decide | omega) ?_
    rw [z1]
    refine e_aload_n (pc := 180) dX11_unital_180 rfl rfl ?_
    refine e_get (pc := 181) fl_X11_71 dX11_unital_181 (by repeat (first | assumption | exact hset_eq _ _ _ | (apply Lay.hd; assumption) | rw [hset_ne _ _ (by omega)])) (by rfl) ?_
    refine e_iload (pc := 184) dX11_unital_184 rfl ?_
    refine e_ialdN (pc := 186) j dX11_unital_186 (by repeat (first | assumption | exact hset_eq _ _ _ | (apply Lay.hd; assumption) | rw [hset_ne _ _ (by omega)])) (by rfl) (by omega) (by first | decide | omega) ?_
    rw [z2]
    refine n_V (pc := 187) (c_X11_times hL hk (show qz W e false (W.1 ^ i) < 2 ^ 31 by omega) (show qz W e true (W.1 ^ j) < 2 ^ 31 by omega)) bX11_times q_i_X11_times q_s_X11_times q_m_X11_266 dX11_unital_187 rfl rfl (by repeat (first | assumption | exact hset_eq _ _ _ | (apply Lay.hd; assumption) | rw [hset_ne _ _ (by omega)])) rfl rfl (by exact Nat.le_of_ble_eq_true rfl) ⟨by decide, by decide⟩ ⟨rfl, rfl, Nat.zero_le _, Nat.zero_le _⟩ (fun z h2 hp => ?_)
    obtain ⟨rfl, p1, p2⟩ := hp
    obtain ⟨g6, r6⟩ := p1.2.2.row (k := 6) (isR_d _ (by decide))
    refine e_aload_n (pc := 190) dX11_unital_190 rfl rfl ?_
    refine e_get (pc := 191) fl_X11_25 dX11_unital_191 (by repeat (first | assumption | exact hset_eq _ _ _ | (apply Lay.hd; assumption) | rw [hset_ne _ _ (by omega)])) (by rfl) ?_
    refine n_Vv (pc := 194) (c_X11_digits p1.1 ⟨b1, b2⟩ b4 (show mul W (qz W e false (W.1 ^ i)) (qz W e true (W.1 ^ j)) < 2 ^ 31 by omega) (by omega) r6) bX11_digits q_i_X11_digits q_s_X11_digits q_m_X11_115 dX11_unital_194 rfl rfl (by repeat (first | assumption | exact hset_eq _ _ _ | (apply Lay.hd; assumption) | rw [hset_ne _ _ (by omega)])) rfl rfl (by exact Nat.le_of_ble_eq_true rfl) ⟨by decide, by decide⟩ ⟨rfl, rfl, Nat.zero_le _, Nat.zero_le _⟩ (fun h3 hp => ?_)
    obtain ⟨gz, rfl, y2⟩ := hp
    have l3 : Lay (hset h2 (m + 6) (aI 5 gz)) m W s := p1.row (isR_d 6 (by decide)) rfl (by decide) (by decide)
    have f3 : FmB m hh (hset h2 (m + 6) (aI 5 gz)) := (fm.tr p2.ff.fq).set (by decide)
    have R3 : UnR (hset h2 (m + 6) (aI 5 gz)) m W e := hR.keep (fun a ha => (hset_ne _ _ (by omega)).trans (p2 _ (by omega) (by omega) (by omega)))
    have M3' : UnM (hset h2 (m + 6) (aI 5 gz)) m W e i j 0 := by
      obtain ⟨g, g1, g2⟩ := hM
      exact ⟨g, ((hset_ne _ _ (by omega)).trans (p2 _ (by omega) (by omega) (by omega))).trans g1, g2⟩
    have z6 : ∃ g, hset h2 (m + 6) (aI 5 gz) (m + 6) = some (aI 5 g) ∧ ∀ k, k < 5 → g k = nI (dgn W.1 W.2.1 (mul W (qz W e false (W.1 ^ i)) (qz W e true (W.1 ^ j))) k) := ⟨gz, hset_eq _ _ _, y2⟩
    generalize hset h2 (m + 6) (aI 5 gz) = h3 at l3 f3 R3 M3' z6 ⊢
    refine n_iconst (pc := 197) 0 dX11_unital_197 (by decide) ?_
    refine e_istore (pc := 198) dX11_unital_198 (by decide) ?_
    refine l_uni_k hk hi (show j < W.2.1 by omega) l3 rfl z6 (fun h4 l4 fr4 M4 => ?_) W.2.1 0 rfl (Nat.zero_le _) h3 l3 (fun _ _ => rfl) M3'
    refine n_inc (pc := 240) dX11_unital_240 rfl (by decide) ?_
    refine e_goto (pc := 243) (tgt := 162) dX11_unital_243 (by decide) ?_
    exact ih (j + 1) (by omega) (by omega) h4 l4 (fun b hb => (fr4 b (by omega)).trans (f3 b hb)) (R3.keep (fun a ha => fr4 a (by omega))) M4
theorem l_uni_m {e : Nat} {l1 l2 : Option Value} {Pr : Int32 → AH → Prop} (hk : Wok W) (hD : Div W) (h0 : 0 < e) (he : e < W.1 ^ W.2.1)
    (kk : ∀ h, Lay h m W s → FmB m hh h → CuA h (m + 97) (wuni W e) → VI MX11_unital sz Pr h 252 [some (.ref m), l1, l2, some (.int (nI e)), none, none, none] []) :
    ∀ (t i : Nat), t = W.2.1 - i → i ≤ W.2.1 → ∀ h, Lay h m W s → FmB m hh h → UnR h m W e → UnM h m W e i 0 0 → VI MX11_unital sz Pr h 150 [some (.ref m), l1, l2, some (.int (nI e)), some (.int (nI i)), none, none] [] := by
  obtain ⟨b1, b2, b3, b4, b5⟩ := hk.b
  intro t
  induction t with
  | zero =>
    intro i e1 e2 h hL fm hR hM
    have e' : i = W.2.1 := by omega
    refine e_iload (pc := 150) dX11_unital_150 rfl ?_
    refine e_aload_n (pc := 152) dX11_unital_152 rfl rfl ?_
    refine e_get (pc := 153) fl_X11_109 dX11_unital_153 (by repeat (first | assumption | exact hset_eq _ _ _ | (apply Lay.hd; assumption) | rw [hset_ne _ _ (by omega)])) (by rfl) ?_
    refine n_icmp_ge (pc := 156) (tgt := 252) dX11_unital_156 (by decide) (by omega) (by omega) (fun hb_ => ?_) (fun c => absurd c (by omega))
    refine V.mask [true, true, true, true, false, false, false] ?_
    refine kk h hL fm ?_
    obtain ⟨g, g1, g2⟩ := hM
    refine ⟨g, g1, fun t ht => ?_⟩
    rw [g2 t ht]
    show _ = nI (if inC W.2.1 t then uD W e t else 0)
    by_cases c : inC W.2.1 t
    · rw [if_pos ⟨c, by have := c.2.1; omega⟩, if_pos c]
    · rw [if_neg (fun z => c z.1), if_neg c]
  | succ t ih =>
    intro i e1 e2 h hL fm hR hM
    refine e_iload (pc := 150) dX11_unital_150 rfl ?_
    refine e_aload_n (pc := 152) dX11_unital_152 rfl rfl ?_
    refine e_get (pc := 153) fl_X11_109 dX11_unital_153 (by repeat (first | assumption | exact hset_eq _ _ _ | (apply Lay.hd; assumption) | rw [hset_ne _ _ (by omega)])) (by rfl) ?_
    refine n_icmp_ge (pc := 156) (tgt := 252) dX11_unital_156 (by decide) (by omega) (by omega) (fun c => absurd c (by omega)) (fun hb_ => ?_)
    refine n_iconst (pc := 159) 0 dX11_unital_159 (by decide) ?_
    refine e_istore (pc := 160) dX11_unital_160 (by decide) ?_
    refine l_uni_j hk hD h0 he (show i < W.2.1 by omega) (fun h2 l2' f2 r2 m2 => ?_) W.2.1 0 rfl (Nat.zero_le _) h hL fm hR hM
    refine n_inc (pc := 246) dX11_unital_246 rfl (by decide) ?_
    refine e_goto (pc := 249) (tgt := 150) dX11_unital_249 (by decide) ?_
    exact ih (i + 1) (by omega) (by omega) h2 l2' f2 r2 m2
end UNI
section UNX
variable {h : AH} {m : Nat} {x y : Sx} {ik : Bool} {len : Nat} {f : Nat → Nat} {ft fp : Int32}
theorem c_X11_unital (hX : MAt h m x y ik len f ft fp) (hx : SxOk x) (a b e : Int32) : CI yX11_unital MX11_unital [.ref m, .int a, .int b, .int e] h (fun z h' => ∃ x2, QS_uni x a b e z x2 ∧ MAt h' m x2 y ik len f ft fp ∧ Er m (m + 107) h h') := by
  obtain ⟨⟨p, n, q, s, hM, hs⟩, hR, ⟨g, hw, hg⟩, -⟩ := id hX
  have no : (okI a 6 && (okI b 6 && (decide (e ≠ nI 0) && (okI e ((wld x a).1 ^ (wld x a).2.1) && bl (Div (wld x a)))))) = false → ∀ (sz : Nat) (l : List (Option Value)), VI MX11_unital sz (fun z h' => ∃ x2, QS_uni x a b e z x2 ∧ MAt h' m x2 y ik len f ft fp ∧ Er m (m + 107) h h') h 20 l [] := fun q sz l => by
    refine e_iconst (pc := 20) (v := -1) dX11_unital_20 (by decide) ?_
    exact n_iret (pc := 21) dX11_unital_21 rfl ⟨x, qF q ⟨rfl, rfl⟩, hX, Er.rf _ _ _⟩
  refine CI.ofV (by decide) rfl rfl (by simp [Value.category]) (by exact Nat.le_of_ble_eq_true rfl) (fun sz => ?_)
  refine e_aload_n (pc := 0) dX11_unital_0 rfl rfl ?_
  refine e_iload_n (pc := 1) dX11_unital_1 rfl rfl ?_
  refine e_iload_n (pc := 2) dX11_unital_2 rfl rfl ?_
  refine n_VP (pc := 3) (c_X11_isElement hX hx a e) bX11_isElement q_i_X11_isElement q_s_X11_isElement q_m_X11_312 dX11_unital_3 rfl rfl (by repeat (first | assumption | exact hset_eq _ _ _ | (apply Lay.hd; assumption) | rw [hset_ne _ _ (by omega)])) rfl rfl (by exact Nat.le_of_ble_eq_true rfl) ⟨by decide, by decide⟩ ⟨rfl, rfl, Nat.zero_le _, Nat.zero_le _⟩ ?_
  refine n_bif_eq (pc := 6) (tgt := 20) dX11_unital_6 (by decide) (fun c => ?_) (fun c => ?_)
  · refine no ?_ sz _
    unfold elB at c
    cases e1 : okI a 6 with
    | false => rfl
    | true => rw [e1, Bool.true_and] at c; rw [c, Bool.false_and, Bool.and_false, Bool.and_false]; rfl
  have d := c
  unfold elB at d
  rw [Bool.and_eq_true] at d
  obtain ⟨d1, d2⟩ := d
  refine e_iload_n (pc := 9) dX11_unital_9 rfl rfl ?_
  refine n_SP (pc := 10) (c_X11_isWorld b) bX11_isWorld q_st_X11_isWorld q_m_X11_143 dX11_unital_10 rfl rfl (by exact Nat.le_of_ble_eq_true rfl) ⟨by decide, by decide⟩ ⟨rfl, rfl, Nat.zero_le _, Nat.zero_le _⟩ ?_
  refine n_bif_eq (pc := 13) (tgt := 20) dX11_unital_13 (by decide) (fun c2 => ?_) (fun c2 => ?_)
  · exact no (by rw [c2, Bool.false_and, Bool.and_false]) sz _
  refine e_iload_n (pc := 16) dX11_unital_16 rfl rfl ?_
  refine e_if_ne (pc := 17) (tgt := 22) dX11_unital_17 (by decide) (fun c3 => ?_) (fun c3 => no (by rw [decide_eq_false (fun z => z (c3.trans nI_0.symm)), Bool.false_and, Bool.and_false, Bool.and_false]) sz _)
  obtain ⟨a', ha, rfl⟩ := okI_of (by decide) d1
  obtain ⟨b', hb, rfl⟩ := okI_of (by decide) c2
  rw [wld_nI ha] at d2
  have wk := hx.1 a' (by omega)
  have bb := wk.b
  obtain ⟨e', he, rfl⟩ := okI_of (by omega) d2
  have ne0 : decide (nI e' ≠ nI 0) = true := decide_eq_true (show nI e' ≠ nI 0 from fun z => c3 (z.trans nI_0))
  have e0 : 0 < e' := Nat.pos_of_ne_zero (fun z => c3 (by rw [z]; exact nI_0))
  refine e_aload_n (pc := 22) dX11_unital_22 rfl rfl ?_
  refine e_iload_n (pc := 23) dX11_unital_23 rfl rfl ?_
  refine n_Vv (pc := 24) (c_X11_laysOut hM hR hw (hg.1 a' ha) wk ha) bX11_laysOut q_i_X11_laysOut q_s_X11_laysOut q_m_X11_147 dX11_unital_24 rfl rfl (by repeat (first | assumption | exact hset_eq _ _ _ | (apply Lay.hd; assumption) | rw [hset_ne _ _ (by omega)])) rfl rfl (by exact Nat.le_of_ble_eq_true rfl) ⟨by decide, by decide⟩ ⟨rfl, rfl, Nat.zero_le _, Nat.zero_le _⟩ (fun h2 hp => ?_)
  obtain ⟨l2, -⟩ := id hp
  obtain ⟨hX2, q2⟩ := hX.laid (p := p) (n := n) (q := q) hs hp
  refine e_aload_n (pc := 27) dX11_unital_27 rfl rfl ?_
  refine n_V (pc := 28) (c_X11_firstFail l2 wk) bX11_firstFail q_i_X11_firstFail q_s_X11_firstFail q_m_X11_275 dX11_unital_28 rfl rfl (by repeat (first | assumption | exact hset_eq _ _ _ | (apply Lay.hd; assumption) | rw [hset_ne _ _ (by omega)])) rfl rfl (by exact Nat.le_of_ble_eq_true rfl) ⟨by decide, by decide⟩ ⟨rfl, rfl, Nat.zero_le _, Nat.zero_le _⟩ (fun z h3 hp3 => ?_)
  obtain ⟨p1, p2, p3⟩ := hp3
  refine e_iconst (pc := 31) (v := -1) dX11_unital_31 (by decide) ?_
  refine e_icmp_eq (pc := 32) (tgt := 37) dX11_unital_32 (by decide) (fun c4 => ?_) (fun c4 => ?_)
  · have hD : Div (x.ws a') := (p1.div wk).mp c4
    obtain ⟨g98, r98⟩ := p2.2.2.row (k := 98) (isR_d _ (by decide))
    obtain ⟨g99, r99⟩ := p2.2.2.row (k := 99) (isR_d _ (by decide))
    refine n_iconst (pc := 37) 0 dX11_unital_37 (by decide) ?_
    refine e_istore (pc := 38) dX11_unital_38 (by decide) ?_
    refine l_uni_i (hh := h2) (s := s) wk hD e0 he (fun h4 u4 => ?_) (x.ws a').2.1 0 rfl (Nat.zero_le _) h3 ⟨p2, p3.fq, ⟨g98, r98, fun k hk => absurd hk (Nat.not_lt_zero k), fun z => absurd z (Nat.not_lt_zero _)⟩, g99, r99, fun k hk => absurd hk (Nat.not_lt_zero k), fun z => absurd z (Nat.not_lt_zero _)⟩
    obtain ⟨l4, f4, ⟨gl, k1, k2, -⟩, gr, k3, k4, -⟩ := u4
    obtain ⟨g97, r97⟩ := l4.2.2.row (k := 97) (isR_d _ (by decide))
    refine n_iconst (pc := 123) 0 dX11_unital_123 (by decide) ?_
    refine e_istore (pc := 124) dX11_unital_124 (by decide) ?_
    refine e_heap (hset_self r97).symm ?_
    refine l_uni_z l4 (fun gm hgm => ?_) 125 0 rfl (Nat.zero_le _) g97 (fun t ht => absurd ht (Nat.not_lt_zero t))
    refine n_iconst (pc := 147) 0 dX11_unital_147 (by decide) ?_
    refine e_istore (pc := 148) dX11_unital_148 (by decide) ?_
    refine l_uni_m (hh := h2) (s := s) wk hD e0 he (fun h5 l5 f5 cu => ?_) (x.ws a').2.1 0 rfl (Nat.zero_le _) (hset h4 (m + 97) (aI 125 gm)) (l4.row (isR_d 97 (by decide)) rfl (by decide) (by decide)) (f4.set (by decide)) ⟨⟨gl, (hset_ne _ _ (by omega)).trans k1, k2⟩, gr, (hset_ne _ _ (by omega)).trans k3, k4⟩ ⟨gm, hset_eq _ _ _, fun t ht => by rw [hgm t ht, if_neg (fun z => by omega)]⟩
    have ml := mul_lt wk e' e'
    refine e_aload_n (pc := 252) dX11_unital_252 rfl rfl ?_
    refine e_iload_n (pc := 253) dX11_unital_253 rfl rfl ?_
    refine e_iload_n (pc := 254) dX11_unital_254 rfl rfl ?_
    refine n_V (pc := 255) (c_X11_times l5 wk (show e' < 2 ^ 31 by omega) (show e' < 2 ^ 31 by omega)) bX11_times q_i_X11_times q_s_X11_times q_m_X11_266 dX11_unital_255 rfl rfl (by repeat (first | assumption | exact hset_eq _ _ _ | (apply Lay.hd; assumption) | rw [hset_ne _ _ (by omega)])) rfl rfl (by exact Nat.le_of_ble_eq_true rfl) ⟨by decide, by decide⟩ ⟨rfl, rfl, Nat.zero_le _, Nat.zero_le _⟩ (fun z6 h6 hp6 => ?_)
    obtain ⟨rfl, l6, f6⟩ := hp6
    have cu6 : CuA h6 (m + 97) (wuni (x.ws a') e') := cu.keep (f6 _ (by omega) (by omega) (by omega))
    have fc := (q2.tr f5.qf).tr f6.ff.qf
    have hX6 : MAt h6 m x y ik len f ft fp := hX.re l6.1 hs l6.2.2 fc
    have hM6 : MH h6 m (wuni (x.ws a') e').1 (wuni (x.ws a') e').2.1 ((x.ws a').1 ^ (x.ws a').2.1) s := l6.1
    refine e_istore (pc := 258) dX11_unital_258 (by decide) ?_
    refine e_aload_n (pc := 260) dX11_unital_260 rfl rfl ?_
    refine e_iload_n (pc := 261) dX11_unital_261 rfl rfl ?_
    refine e_aload_n (pc := 262) dX11_unital_262 rfl rfl ?_
    refine e_get (pc := 263) fl_X11_65 dX11_unital_263 (by repeat (first | assumption | exact hset_eq _ _ _ | (apply Lay.hd; assumption) | rw [hset_ne _ _ (by omega)])) (by rfl) ?_
    refine n_Vv (pc := 266) (c_X11_becomes (W := wuni (x.ws a') e') hM6 ((fc _ (by omega)).trans hw) hx hg hb cu6 (by omega)) bX11_becomes q_i_X11_becomes q_s_X11_becomes q_m_X11_154 dX11_unital_266 rfl rfl (by repeat (first | assumption | exact hset_eq _ _ _ | (apply Lay.hd; assumption) | rw [hset_ne _ _ (by omega)])) rfl rfl (by exact Nat.le_of_ble_eq_true rfl) ⟨by decide, by decide⟩ ⟨rfl, rfl, Nat.zero_le _, Nat.zero_le _⟩ (fun h7 hp7 => ?_)
    obtain ⟨g7, t1, t2⟩ := hp7
    have up := hX6.nw t1 t2
    refine e_iload (pc := 269) dX11_unital_269 rfl ?_
    refine n_iret (pc := 271) dX11_unital_271 rfl ⟨_, qT (by rw [wld_nI ha, ok6 ha, ok6 hb, d2, bl_t hD, ne0]; rfl) ⟨?_, ?_⟩, up.1, fc.er.tr up.2⟩
    · rw [wld_nI ha, cl_nI (by omega)]
    · rw [wld_nI ha, cl_nI (by omega), cl_nI (by omega)]
  · have hD : ¬ Div (x.ws a') := fun z => c4 ((p1.div wk).mpr z)
    refine e_iconst (pc := 35) (v := -1) dX11_unital_35 (by decide) ?_
    exact n_iret (pc := 36) dX11_unital_36 rfl ⟨x, qF (by rw [wld_nI ha, bl_f hD, Bool.and_false, Bool.and_false, Bool.and_false, Bool.and_false]) ⟨rfl, rfl⟩, hX2.re p2.1 hs p2.2.2 p3.qf, (q2.tr p3.qf).er⟩
end UNX
