/-! ===== forms: ranks of elements ===== -/
/-- nothing changed but between two addresses -/
def Er (lo hi : Nat) (h h' : AH) : Prop := ∀ a, (a < lo ∨ hi ≤ a) → h' a = h a
theorem Er.rf (lo hi : Nat) (h : AH) : Er lo hi h h := fun _ _ => rfl
theorem Er.tr {lo hi : Nat} {h h1 h2 : AH} (a : Er lo hi h h1) (b : Er lo hi h1 h2) : Er lo hi h h2 := fun q x => (b q x).trans (a q x)
theorem Er.set {lo hi : Nat} {h h1 : AH} {a : Nat} {x : AE} (e : Er lo hi h h1) (ha : lo ≤ a ∧ a < hi) : Er lo hi h (hset h1 a x) := fun q p1 => by
  rw [hset_ne _ _ (by omega)]
  exact e q p1
theorem Er.mono {lo hi lo2 hi2 : Nat} {h h1 : AH} (e : Er lo hi h h1) (a1 : lo2 ≤ lo) (a2 : hi ≤ hi2) : Er lo2 hi2 h h1 := fun q p1 => e q (by omega)
theorem Ee.er {E : Nat} {h h1 : AH} (e : Ee E h h1) : Er E (E + 79) h h1 := e
theorem WAt.er {h h2 : AH} {o : Nat} {W : Wd} {f : Int32} {lo hi : Nat} (hW : WAt h o W f) (e : Er lo hi h h2) (d : o + 3 ≤ lo ∨ hi ≤ o) : WAt h2 o W f := by
  refine hW.kept (e _ (by omega)) (e _ (by omega)) ?_
  obtain ⟨g, hg⟩ := hW.2.2
  exact ⟨g, by rw [e _ (by omega)]; exact hg⟩
/-- the Forms object stands behind its Echelon: E + 79, its arrays behind it -/
def FSh (h : AH) (E : Nat) : Prop := ESh h E ∧ h (E + 79) = some (ob 1 [.ref E, .ref (E + 80), .ref (E + 81), .ref (E + 82)]) ∧ (∃ f, h (E + 80) = some (aI 5 f)) ∧ (∃ f, h (E + 81) = some (aI 6 f)) ∧ ∃ f, h (E + 82) = some (aI 6 f)
theorem FSh.far {h h2 : AH} {E : Nat} (q : FSh h E) (e : ∀ a, E ≤ a → a < E + 83 → h2 a = h a) : FSh h2 E := by
  obtain ⟨h1, h2', ⟨f3, h3⟩, ⟨f4, h4⟩, ⟨f5, h5⟩⟩ := q
  exact ⟨h1.far (fun a x y => e a x (by omega)), by rw [e _ (by omega) (by omega)]; exact h2', ⟨f3, by rw [e _ (by omega) (by omega)]; exact h3⟩, ⟨f4, by rw [e _ (by omega) (by omega)]; exact h4⟩, ⟨f5, by rw [e _ (by omega) (by omega)]; exact h5⟩⟩
/-- one of the arrays of ranks is written -/
theorem FSh.far2 {h : AH} {E a : Nat} {g : Nat → Int32} (q : FSh h E) (ha : a = E + 81 ∨ a = E + 82) : FSh (hset h a (aI 6 g)) E := by
  obtain ⟨h1, h2', ⟨f3, h3⟩, ⟨f4, h4⟩, ⟨f5, h5⟩⟩ := q
  refine ⟨h1.far (fun b x y => hset_ne _ _ (by omega)), by rw [hset_ne _ _ (by omega)]; exact h2', ⟨f3, by rw [hset_ne _ _ (by omega)]; exact h3⟩, ?_, ?_⟩
  · rcases ha with rfl | rfl
    · exact ⟨g, hset_eq _ _ _⟩
    · exact ⟨f4, by rw [hset_ne _ _ (by omega)]; exact h4⟩
  · rcases ha with rfl | rfl
    · exact ⟨f5, by rw [hset_ne _ _ (by omega)]; exact h5⟩
    · exact ⟨g, hset_eq _ _ _⟩
theorem FSh.ee {h h2 : AH} {E : Nat} (q : FSh h E) (s : ESh h2 E) (e : Ee E h h2) : FSh h2 E := by
  obtain ⟨h1, h2', ⟨f3, h3⟩, ⟨f4, h4⟩, ⟨f5, h5⟩⟩ := q
  exact ⟨s, by rw [e _ (by omega)]; exact h2', ⟨f3, by rw [e _ (by omega)]; exact h3⟩, ⟨f4, by rw [e _ (by omega)]; exact h4⟩, ⟨f5, by rw [e _ (by omega)]; exact h5⟩⟩
/-- the entry of an element's matrix: of its left products (0), right ones (1), its form (2), both products (3) -/
def ent1 (W : Wd) (side s a b : Nat) : Nat := match side with
  | 0 => W.2.2 (25 * s + 5 * a + b)
  | 1 => W.2.2 (25 * a + 5 * s + b)
  | 2 => W.2.2 (25 * a + 5 * b + s)
  | _ => W.2.2 (25 * s + 5 * a + b) + W.2.2 (25 * a + 5 * s + b)
def ent (W : Wd) (side x a b : Nat) : Nat := sg W.2.1 (fun s => dg W.1 x s * ent1 W side s a b)
theorem ent1_le {W : Wd} (hk : Wok W) (side s a b : Nat) : ent1 W side s a b ≤ 10 := by
  have h1 := hk.c (25 * s + 5 * a + b)
  have h2 := hk.c (25 * a + 5 * s + b)
  have h3 := hk.c (25 * a + 5 * b + s)
  have h4 := hk.b
  unfold ent1
  split <;> omega
theorem ent_le {W : Wd} (hk : Wok W) (side x a b : Nat) : ent W side x a b ≤ 250 := by
  have h4 := hk.b
  refine Nat.le_trans (sg_le (b := 50) (fun s _ => ?_)) (show W.2.1 * 50 ≤ 250 by omega)
  have h1 := dg_lt (p := W.1) (by omega) x s
  exact Nat.mul_le_mul (show _ ≤ 5 by omega) (ent1_le hk side s a b)
/-- r is the rank of what has these solutions -/
def isRank (p w : Nat) (S : (Nat → Nat) → Prop) (r : Nat) : Prop := ∃ led rows, EOk p w led rows ∧ r = rk w led ∧ ∀ u, Sol p w led rows u ↔ S u
/-- a solution of the first m rows of a matrix -/
def SolM (p n m : Nat) (A : Nat → Nat → Nat) (u : Nat → Nat) : Prop := ∀ a, a < m → dot n (A a) u % p = 0
section FO
variable {h : AH} {E o : Nat} {W : Wd} {f : Int32}
theorem l_entry {sz side a b x : Nat} (hF : FSh h E) (hW : WAt h o W f) (hk : Wok W) (hs : side < 4) (ha : a < W.2.1) (hb : b < W.2.1) {fd : Nat → Int32} (hd : h (E + 80) = some (aI 5 fd)) (hfd : ∀ t, t < 5 → fd t = nI (dg W.1 x t)) :
    ∀ (n s : Nat), n = W.2.1 - s → s ≤ W.2.1 → VI MX1_entry sz (fun r h' => r = nI (ent W side x a b) ∧ h' = h) h 6 [some (.ref (E + 79)), some (.ref o), some (.int (nI side)), some (.int (nI a)), some (.int (nI b)), some (.int (nI (sg s (fun s => dg W.1 x s * ent1 W side s a b)))), some (.int (nI s)), none] [] := by
  obtain ⟨b1, b2, b3, b4, b5⟩ := hk.b
  obtain ⟨-, q1, -, -, -⟩ := id hF
  obtain ⟨w0, w1, gw, w2⟩ := id hW
  intro n
  induction n with
  | zero =>
    intro s e1 e2
    have e : s = W.2.1 := by omega
    subst e
    refine e_iload (pc := 6) dX1_entry_6 rfl ?_
    refine e_aload_n (pc := 8) dX1_entry_8 rfl rfl ?_
    refine n_VP (pc := 9) (c_X9_size hW) bX9_size q_i_X9_size q_s_X9_size q_m_X1_25 dX1_entry_9 rfl rfl (by repeat (first | assumption | exact hset_eq _ _ _ | rw [hset_ne _ _ (by omega)])) rfl rfl (by exact Nat.le_of_ble_eq_true rfl) ⟨by decide, by decide⟩ ⟨rfl, rfl, Nat.zero_le _, Nat.zero_le _⟩ ?_
    refine n_icmp_ge (pc := 12) (tgt := 144) dX1_entry_12 (by decide) (by omega) (by omega) (fun hb_ => ?_) (fun c => absurd c (by omega))
    refine e_iload (pc := 144) dX1_entry_144 rfl ?_
    exact n_iret (pc := 146) dX1_entry_146 rfl ⟨rfl, rfl⟩
  | succ n ih =>
    intro s e1 e2
    have a1 := hfd s (by omega)
    have a2 := dg_lt (p := W.1) (by omega) x s
    have nxt : VI MX1_entry sz (fun r h' => r = nI (ent W side x a b) ∧ h' = h) h 123 [some (.ref (E + 79)), some (.ref o), some (.int (nI side)), some (.int (nI a)), some (.int (nI b)), some (.int (nI (sg s (fun s => dg W.1 x s * ent1 W side s a b)))), some (.int (nI s)), some (.int (nI (ent1 W side s a b)))] [] := by
      refine e_iload (pc := 123) dX1_entry_123 rfl ?_
      refine e_aload_n (pc := 125) dX1_entry_125 rfl rfl ?_
      refine e_get (pc := 126) fl_X1_9 dX1_entry_126 (by repeat (first | assumption | exact hset_eq _ _ _ | rw [hset_ne _ _ (by omega)])) (by rfl) ?_
      refine e_iload (pc := 129) dX1_entry_129 rfl ?_
      refine e_ialdN (pc := 131) _ dX1_entry_131 (by repeat (first | assumption | exact hset_eq _ _ _ | rw [hset_ne _ _ (by omega)])) (by rfl) (by omega) (by first | decide | omega) ?_
      rw [a1]
      refine e_iload (pc := 132) dX1_entry_132 rfl ?_
      refine n_imul (pc := 134) dX1_entry_134 ?_
      refine n_iadd (pc := 135) dX1_entry_135 ?_
      refine e_istore (pc := 136) dX1_entry_136 (by decide) ?_
      refine n_inc (pc := 138) dX1_entry_138 rfl (by decide) ?_
      refine e_goto (pc := 141) (tgt := 6) dX1_entry_141 (by decide) ?_
      refine V.mask [true, true, true, true, true, true, true, false] ?_
      exact ih (s + 1) (by omega) (by omega)
    refine e_iload (pc := 6) dX1_entry_6 rfl ?_
    refine e_aload_n (pc := 8) dX1_entry_8 rfl rfl ?_
    refine n_VP (pc := 9) (c_X9_size hW) bX9_size q_i_X9_size q_s_X9_size q_m_X1_25 dX1_entry_9 rfl rfl (by repeat (first | assumption | exact hset_eq _ _ _ | rw [hset_ne _ _ (by omega)])) rfl rfl (by exact Nat.le_of_ble_eq_true rfl) ⟨by decide, by decide⟩ ⟨rfl, rfl, Nat.zero_le _, Nat.zero_le _⟩ ?_
    refine n_icmp_ge (pc := 12) (tgt := 144) dX1_entry_12 (by decide) (by omega) (by omega) (fun c => absurd c (by omega)) (fun hb_ => ?_)
    refine e_aload_n (pc := 15) dX1_entry_15 rfl rfl ?_
    refine e_get (pc := 16) fl_X1_9 dX1_entry_16 (by repeat (first | assumption | exact hset_eq _ _ _ | rw [hset_ne _ _ (by omega)])) (by rfl) ?_
    refine e_iload (pc := 19) dX1_entry_19 rfl ?_
    refine e_ialdN (pc := 21) _ dX1_entry_21 (by repeat (first | assumption | exact hset_eq _ _ _ | rw [hset_ne _ _ (by omega)])) (by rfl) (by omega) (by first | decide | omega) ?_
    rw [a1]
    refine n_if_ne (pc := 22) (tgt := 28) dX1_entry_22 (by decide) (by omega) (fun hd0 => ?_) (fun hd0 => ?_)
    · refine n_iconst (pc := 28) 0 dX1_entry_28 (by decide) ?_
      refine e_istore (pc := 29) dX1_entry_29 (by decide) ?_
      refine e_iload_n (pc := 31) dX1_entry_31 rfl rfl ?_
      rcases (show side = 0 ∨ side = 1 ∨ side = 2 ∨ side = 3 by omega) with rfl | rfl | rfl | rfl
      · refine e_switchIn (pc := 32) (off := 28) (tgt := 60) dX1_entry_32 (by decide) (by decide) (by decide) (by decide) ?_
        refine e_aload_n (pc := 60) dX1_entry_60 rfl rfl ?_
        refine e_iload (pc := 61) dX1_entry_61 rfl ?_
        refine e_iload_n (pc := 63) dX1_entry_63 rfl rfl ?_
        refine e_iload (pc := 64) dX1_entry_64 rfl ?_
        refine n_VP (pc := 66) (c_X9_cell hW hk (show s < W.2.1 by omega) ha hb) bX9_cell q_i_X9_cell q_s_X9_cell q_m_X1_60 dX1_entry_66 rfl rfl (by repeat (first | assumption | exact hset_eq _ _ _ | rw [hset_ne _ _ (by omega)])) rfl rfl (by exact Nat.le_of_ble_eq_true rfl) ⟨by decide, by decide⟩ ⟨rfl, rfl, Nat.zero_le _, Nat.zero_le _⟩ ?_
        refine e_istore (pc := 69) dX1_entry_69 (by decide) ?_
        refine e_goto (pc := 71) (tgt := 123) dX1_entry_71 (by decide) ?_
        exact nxt
      · refine e_switchIn (pc := 32) (off := 42) (tgt := 74) dX1_entry_32 (by decide) (by decide) (by decide) (by decide) ?_
        refine e_aload_n (pc := 74) dX1_entry_74 rfl rfl ?_
        refine e_iload_n (pc := 75) dX1_entry_75 rfl rfl ?_
        refine e_iload (pc := 76) dX1_entry_76 rfl ?_
        refine e_iload (pc := 78) dX1_entry_78 rfl ?_
        refine n_VP (pc := 80) (c_X9_cell hW hk ha (show s < W.2.1 by omega) hb) bX9_cell q_i_X9_cell q_s_X9_cell q_m_X1_60 dX1_entry_80 rfl rfl (by repeat (first | assumption | exact hset_eq _ _ _ | rw [hset_ne _ _ (by omega)])) rfl rfl (by exact Nat.le_of_ble_eq_true rfl) ⟨by decide, by decide⟩ ⟨rfl, rfl, Nat.zero_le _, Nat.zero_le _⟩ ?_
        refine e_istore (pc := 83) dX1_entry_83 (by decide) ?_
        refine e_goto (pc := 85) (tgt := 123) dX1_entry_85 (by decide) ?_
        exact nxt
      · refine e_switchIn (pc := 32) (off := 56) (tgt := 88) dX1_entry_32 (by decide) (by decide) (by decide) (by decide) ?_
        refine e_aload_n (pc := 88) dX1_entry_88 rfl rfl ?_
        refine e_iload_n (pc := 89) dX1_entry_89 rfl rfl ?_
        refine e_iload (pc := 90) dX1_entry_90 rfl ?_
        refine e_iload (pc := 92) dX1_entry_92 rfl ?_
        refine n_VP (pc := 94) (c_X9_cell hW hk ha hb (show s < W.2.1 by omega)) bX9_cell q_i_X9_cell q_s_X9_cell q_m_X1_60 dX1_entry_94 rfl rfl (by repeat (first | assumption | exact hset_eq _ _ _ | rw [hset_ne _ _ (by omega)])) rfl rfl (by exact Nat.le_of_ble_eq_true rfl) ⟨by decide, by decide⟩ ⟨rfl, rfl, Nat.zero_le _, Nat.zero_le _⟩ ?_
        refine e_istore (pc := 97) dX1_entry_97 (by decide) ?_
        refine e_goto (pc := 99) (tgt := 123) dX1_entry_99 (by decide) ?_
        exact nxt
      · refine e_switchOut (pc := 32) (tgt := 102) dX1_entry_32 (by decide) (by decide) ?_
        refine e_aload_n (pc := 102) dX1_entry_102 rfl rfl ?_
        refine e_iload (pc := 103) dX1_entry_103 rfl ?_
        refine e_iload_n (pc := 105) dX1_entry_105 rfl rfl ?_
        refine e_iload (pc := 106) dX1_entry_106 rfl ?_
        refine n_VP (pc := 108) (c_X9_cell hW hk (show s < W.2.1 by omega) ha hb) bX9_cell q_i_X9_cell q_s_X9_cell q_m_X1_60 dX1_entry_108 rfl rfl (by repeat (first | assumption | exact hset_eq _ _ _ | rw [hset_ne _ _ (by omega)])) rfl rfl (by exact Nat.le_of_ble_eq_true rfl) ⟨by decide, by decide⟩ ⟨rfl, rfl, Nat.zero_le _, Nat.zero_le _⟩ ?_
        refine e_aload_n (pc := 111) dX1_entry_111 rfl rfl ?_
        refine e_iload_n (pc := 112) dX1_entry_112 rfl rfl ?_
        refine e_iload (pc := 113) dX1_entry_113 rfl ?_
        refine e_iload (pc := 115) dX1_entry_115 rfl ?_
        refine n_VP (pc := 117) (c_X9_cell hW hk ha (show s < W.2.1 by omega) hb) bX9_cell q_i_X9_cell q_s_X9_cell q_m_X1_60 dX1_entry_117 rfl rfl (by repeat (first | assumption | exact hset_eq _ _ _ | rw [hset_ne _ _ (by omega)])) rfl rfl (by exact Nat.le_of_ble_eq_true rfl) ⟨by decide, by decide⟩ ⟨rfl, rfl, Nat.zero_le _, Nat.zero_le _⟩ ?_
        refine n_iadd (pc := 120) dX1_entry_120 ?_
        refine e_istore (pc := 121) dX1_entry_121 (by decide) ?_
        exact nxt
    · refine e_goto (pc := 25) (tgt := 138) dX1_entry_25 (by decide) ?_
      refine n_inc (pc := 138) dX1_entry_138 rfl (by decide) ?_
      refine e_goto (pc := 141) (tgt := 6) dX1_entry_141 (by decide) ?_
      have q := ih (s + 1) (by omega) (by omega)
      have e : sg (s + 1) (fun s => dg W.1 x s * ent1 W side s a b) = sg s (fun s => dg W.1 x s * ent1 W side s a b) := by
        show sg s _ + dg W.1 x s * _ = _
        rw [hd0, Nat.zero_mul, Nat.add_zero]
      rw [e] at q
      exact q
theorem c_X1_entry {side a b x : Nat} (hF : FSh h E) (hW : WAt h o W f) (hk : Wok W) (hs : side < 4) (ha : a < W.2.1) (hb : b < W.2.1) {fd : Nat → Int32} (hd : h (E + 80) = some (aI 5 fd)) (hfd : ∀ t, t < 5 → fd t = nI (dg W.1 x t)) : CP yX1_entry MX1_entry [.ref (E + 79), .ref o, .int (nI side), .int (nI a), .int (nI b)] h (nI (ent W side x a b)) := by
  refine CI.ofV (by decide) rfl rfl (by simp [Value.category]) (by exact Nat.le_of_ble_eq_true rfl) (fun sz => ?_)
  refine n_iconst (pc := 0) 0 dX1_entry_0 (by decide) ?_
  refine e_istore (pc := 1) dX1_entry_1 (by decide) ?_
  refine n_iconst (pc := 3) 0 dX1_entry_3 (by decide) ?_
  refine e_istore (pc := 4) dX1_entry_4 (by decide) ?_
  exact l_entry hF hW hk hs ha hb hd hfd W.2.1 0 rfl (by omega)
theorem l_rankOf_b {sz side a x r : Nat} {hh : AH} {led : Nat → Bool} {rows : Nat → Nat → Nat} (hk : Wok W) (hs : side < 4) (ha : a < W.2.1) (d : o + 3 ≤ E ∨ E + 83 ≤ o) {Pr : Int32 → AH → Prop}
    (kk : ∀ h1, FSh h1 E → WAt h1 o W f → EAt h1 E W.1 W.2.1 r led rows (fun t => ent W side x a t % W.1) → (∃ fd, h1 (E + 80) = some (aI 5 fd) ∧ ∀ t, t < 5 → fd t = nI (dg W.1 x t)) → Er E (E + 81) hh h1 → VI MX1_rankOf sz Pr h1 76 [some (.ref (E + 79)), some (.ref o), some (.int (nI side)), none, some (.int (nI W.2.1)), some (.int (nI a)), none] []) :
    ∀ (n b : Nat), n = W.2.1 - b → b ≤ W.2.1 → ∀ h1, FSh h1 E → WAt h1 o W f → EAt h1 E W.1 W.2.1 r led rows (fun t => if t < b then ent W side x a t % W.1 else 0) → (∃ fd, h1 (E + 80) = some (aI 5 fd) ∧ ∀ t, t < 5 → fd t = nI (dg W.1 x t)) → Er E (E + 81) hh h1 → VI MX1_rankOf sz Pr h1 44 [some (.ref (E + 79)), some (.ref o), some (.int (nI side)), none, some (.int (nI W.2.1)), some (.int (nI a)), some (.int (nI b))] [] := by
  obtain ⟨b1, b2, b3, b4, b5⟩ := hk.b
  intro n
  induction n with
  | zero =>
    intro b e1 e2 h1 hF hW hE hd he
    have e : b = W.2.1 := by omega
    subst e
    refine e_iload (pc := 44) dX1_rankOf_44 rfl ?_
    refine e_iload (pc := 46) dX1_rankOf_46 rfl ?_
    refine n_icmp_ge (pc := 48) (tgt := 76) dX1_rankOf_48 (by decide) (by omega) (by omega) (fun hb_ => ?_) (fun c => absurd c (by omega))
    refine V.mask [true, true, true, false, true, true, false] ?_
    refine kk h1 hF hW ?_ hd he
    obtain ⟨a1, a2, a3, a4, ⟨fx, a5, a6⟩⟩ := hE
    exact ⟨a1, a2, a3, a4, fx, a5, fun t ht => by rw [a6 t ht]; exact congrArg nI (if_pos ht)⟩
  | succ n ih =>
    intro b e1 e2 h1 hF hW hE hd he
    obtain ⟨fd, d1, d2⟩ := id hd
    obtain ⟨-, q1, -, -, -⟩ := id hF
    obtain ⟨z0, -, -, -, -⟩ := id hE
    have e9 := ent_le hk side x a b
    refine e_iload (pc := 44) dX1_rankOf_44 rfl ?_
    refine e_iload (pc := 46) dX1_rankOf_46 rfl ?_
    refine n_icmp_ge (pc := 48) (tgt := 76) dX1_rankOf_48 (by decide) (by omega) (by omega) (fun c => absurd c (by omega)) (fun hb_ => ?_)
    refine e_aload_n (pc := 51) dX1_rankOf_51 rfl rfl ?_
    refine e_get (pc := 52) fl_X1_21 dX1_rankOf_52 (by repeat (first | assumption | exact hset_eq _ _ _ | rw [hset_ne _ _ (by omega)])) (by rfl) ?_
    refine e_iload (pc := 55) dX1_rankOf_55 rfl ?_
    refine e_aload_n (pc := 57) dX1_rankOf_57 rfl rfl ?_
    refine e_aload_n (pc := 58) dX1_rankOf_58 rfl rfl ?_
    refine e_iload_n (pc := 59) dX1_rankOf_59 rfl rfl ?_
    refine e_iload (pc := 60) dX1_rankOf_60 rfl ?_
    refine e_iload (pc := 62) dX1_rankOf_62 rfl ?_
    refine n_VP (pc := 64) (c_X1_entry hF hW hk hs ha (show b < W.2.1 by omega) d1 d2) bX1_entry q_i_X1_entry q_s_X1_entry q_m_X1_46 dX1_rankOf_64 rfl rfl (by repeat (first | assumption | exact hset_eq _ _ _ | rw [hset_ne _ _ (by omega)])) rfl rfl (by exact Nat.le_of_ble_eq_true rfl) ⟨by decide, by decide⟩ ⟨rfl, rfl, Nat.zero_le _, Nat.zero_le _⟩ ?_
    refine n_Vv (pc := 67) (c_X0_add hE (by omega) (by omega) (show b < W.2.1 by omega) (by omega) (show (if b < b then ent W side x a b % W.1 else 0) < W.1 by rw [if_neg (Nat.lt_irrefl b)]; omega)) bX0_add q_i_X0_add q_s_X0_add q_m_X1_50 dX1_rankOf_67 rfl rfl (by repeat (first | assumption | exact hset_eq _ _ _ | rw [hset_ne _ _ (by omega)])) rfl rfl (by exact Nat.le_of_ble_eq_true rfl) ⟨by decide, by decide⟩ ⟨rfl, rfl, Nat.zero_le _, Nat.zero_le _⟩ (fun h2 hp => ?_)
    obtain ⟨p1, p2⟩ := hp
    refine n_inc (pc := 70) dX1_rankOf_70 rfl (by decide) ?_
    refine e_goto (pc := 73) (tgt := 44) dX1_rankOf_73 (by decide) ?_
    refine ih (b + 1) (by omega) (by omega) h2 (hF.ee p1.sh p2) (hW.er p2.er (by omega)) ?_ ⟨fd, by rw [p2 _ (by omega)]; exact d1, d2⟩ (he.tr (p2.er.mono (by omega) (by omega)))
    obtain ⟨a1, a2, a3, a4, ⟨fx, a5, a6⟩⟩ := p1
    refine ⟨a1, a2, a3, a4, fx, a5, fun t ht => ?_⟩
    rw [a6 t ht]
    dsimp only
    by_cases e : t = b
    · subst e
      rw [if_pos rfl, if_neg (Nat.lt_irrefl t), if_pos (by omega), Nat.zero_add]
    · rw [if_neg e]
      by_cases e3 : t < b
      · rw [if_pos e3, if_pos (by omega)]
      · rw [if_neg e3, if_neg (by omega)]
theorem l_rankOf_a {sz side x : Nat} {hh : AH} (hk : Wok W) (hs : side < 4) (d : o + 3 ≤ E ∨ E + 83 ≤ o) :
    ∀ (n a : Nat), n = W.2.1 - a → a ≤ W.2.1 → ∀ h1 r led rows, FSh h1 E → WAt h1 o W f → EAt h1 E W.1 W.2.1 r led rows (fun _ => 0) → (∃ fd, h1 (E + 80) = some (aI 5 fd) ∧ ∀ t, t < 5 → fd t = nI (dg W.1 x t)) → Er E (E + 81) hh h1 → EOk W.1 W.2.1 led rows → r = rk W.2.1 led → (∀ u, Sol W.1 W.2.1 led rows u ↔ SolM W.1 W.2.1 a (ent W side x) u) →
      VI MX1_rankOf sz (fun z h' => ∃ r, z = nI r ∧ r ≤ W.2.1 ∧ isRank W.1 W.2.1 (SolM W.1 W.2.1 W.2.1 (ent W side x)) r ∧ FSh h' E ∧ Er E (E + 81) hh h') h1 34 [some (.ref (E + 79)), some (.ref o), some (.int (nI side)), none, some (.int (nI W.2.1)), some (.int (nI a)), none] [] := by
  obtain ⟨b1, b2, b3, b4, b5⟩ := hk.b
  intro n
  induction n with
  | zero =>
    intro a e1 e2 h1 r led rows hF hW hE hd he hO hr hS
    have e : a = W.2.1 := by omega
    subst e
    obtain ⟨-, q1, -, -, -⟩ := id hF
    obtain ⟨z0, -, -, -, -⟩ := id hE
    refine e_iload (pc := 34) dX1_rankOf_34 rfl ?_
    refine e_iload (pc := 36) dX1_rankOf_36 rfl ?_
    refine n_icmp_ge (pc := 38) (tgt := 90) dX1_rankOf_38 (by decide) (by omega) (by omega) (fun hb_ => ?_) (fun c => absurd c (by omega))
    refine e_aload_n (pc := 90) dX1_rankOf_90 rfl rfl ?_
    refine e_get (pc := 91) fl_X1_21 dX1_rankOf_91 (by repeat (first | assumption | exact hset_eq _ _ _ | rw [hset_ne _ _ (by omega)])) (by rfl) ?_
    refine n_VP (pc := 94) (c_X0_rank hE) bX0_rank q_i_X0_rank q_s_X0_rank q_m_X1_57 dX1_rankOf_94 rfl rfl (by repeat (first | assumption | exact hset_eq _ _ _ | rw [hset_ne _ _ (by omega)])) rfl rfl (by exact Nat.le_of_ble_eq_true rfl) ⟨by decide, by decide⟩ ⟨rfl, rfl, Nat.zero_le _, Nat.zero_le _⟩ ?_
    exact n_iret (pc := 97) dX1_rankOf_97 rfl ⟨r, rfl, by rw [hr]; exact rk_le _ _, ⟨led, rows, hO, hr, hS⟩, hF, he⟩
  | succ n ih =>
    intro a e1 e2 h1 r led rows hF hW hE hd he hO hr hS
    refine e_iload (pc := 34) dX1_rankOf_34 rfl ?_
    refine e_iload (pc := 36) dX1_rankOf_36 rfl ?_
    refine n_icmp_ge (pc := 38) (tgt := 90) dX1_rankOf_38 (by decide) (by omega) (by omega) (fun c => absurd c (by omega)) (fun hb_ => ?_)
    refine n_iconst (pc := 41) 0 dX1_rankOf_41 (by decide) ?_
    refine e_istore (pc := 42) dX1_rankOf_42 (by decide) ?_
    refine l_rankOf_b (led := led) (rows := rows) (r := r) (hh := hh) (x := x) hk hs (show a < W.2.1 by omega) d (fun h3 hF3 hW3 hE3 hd3 he3 => ?_) W.2.1 0 rfl (by omega) h1 hF hW ?_ hd he
    · obtain ⟨-, q1, -, -, -⟩ := id hF3
      obtain ⟨z0, -, -, -, -⟩ := id hE3
      obtain ⟨fd, d1, d2⟩ := hd3
      refine e_aload_n (pc := 76) dX1_rankOf_76 rfl rfl ?_
      refine e_get (pc := 77) fl_X1_21 dX1_rankOf_77 (by repeat (first | assumption | exact hset_eq _ _ _ | rw [hset_ne _ _ (by omega)])) (by rfl) ?_
      refine n_V (pc := 80) (c_X0_settle hE3 hk.1 (by omega) hO hr (fun t _ => Nat.mod_lt _ (by omega))) bX0_settle q_i_X0_settle q_s_X0_settle q_m_X1_53 dX1_rankOf_80 rfl rfl (by repeat (first | assumption | exact hset_eq _ _ _ | rw [hset_ne _ _ (by omega)])) rfl rfl (by exact Nat.le_of_ble_eq_true rfl) ⟨by decide, by decide⟩ ⟨rfl, rfl, Nat.zero_le _, Nat.zero_le _⟩ (fun x h2 hp => ?_)
      obtain ⟨bb, r2, led2, rows2, rfl, p1, ⟨s1, s2, s3, s4, s5⟩, p2⟩ := hp
      refine e_pop (pc := 83) dX1_rankOf_83 rfl ?_
      refine n_inc (pc := 84) dX1_rankOf_84 rfl (by decide) ?_
      refine e_goto (pc := 87) (tgt := 34) dX1_rankOf_87 (by decide) ?_
      refine ih (a + 1) (by omega) (by omega) h2 r2 led2 rows2 (hF3.ee p1.sh p2) (hW3.er p2.er (by omega)) p1 ⟨fd, by rw [p2 _ (by omega)]; exact d1, d2⟩ (he3.tr (p2.er.mono (by omega) (by omega))) s3 s4 (fun u => ?_)
      rw [s5 u, hS u, dot_mod (b := ent W side x a) u (fun t _ => Nat.mod_mod _ _)]
      constructor
      · intro ⟨y1, y2⟩ c hc
        by_cases e : c = a
        · subst e; exact y2
        · exact y1 c (by omega)
      · intro y
        exact ⟨fun c hc => y c (by omega), y a (by omega)⟩
    · obtain ⟨a1, a2, a3, a4, ⟨fx, a5, a6⟩⟩ := hE
      exact ⟨a1, a2, a3, a4, fx, a5, fun t ht => by rw [a6 t ht]; exact congrArg nI (if_neg (Nat.not_lt_zero t)).symm⟩
theorem c_X1_rankOf {side x : Nat} (hF : FSh h E) (hW : WAt h o W f) (hk : Wok W) (hs : side < 4) (hx : x < 3125) (d : o + 3 ≤ E ∨ E + 83 ≤ o) : CI yX1_rankOf MX1_rankOf [.ref (E + 79), .ref o, .int (nI side), .int (nI x)] h (fun z h' => ∃ r, z = nI r ∧ r ≤ W.2.1 ∧ isRank W.1 W.2.1 (SolM W.1 W.2.1 W.2.1 (ent W side x)) r ∧ FSh h' E ∧ Er E (E + 81) h h') := by
  obtain ⟨b1, b2, b3, b4, b5⟩ := hk.b
  obtain ⟨g1, q1, ⟨fd, q2⟩, g3, g4⟩ := id hF
  obtain ⟨w0, w1, gw, w2⟩ := id hW
  refine CI.ofV (by decide) rfl rfl (by simp [Value.category]) (by exact Nat.le_of_ble_eq_true rfl) (fun sz => ?_)
  refine e_aload_n (pc := 0) dX1_rankOf_0 rfl rfl ?_
  refine n_VP (pc := 1) (c_X9_size hW) bX9_size q_i_X9_size q_s_X9_size q_m_X1_25 dX1_rankOf_1 rfl rfl (by repeat (first | assumption | exact hset_eq _ _ _ | rw [hset_ne _ _ (by omega)])) rfl rfl (by exact Nat.le_of_ble_eq_true rfl) ⟨by decide, by decide⟩ ⟨rfl, rfl, Nat.zero_le _, Nat.zero_le _⟩ ?_
  refine e_istore (pc := 4) dX1_rankOf_4 (by decide) ?_
  refine e_aload_n (pc := 6) dX1_rankOf_6 rfl rfl ?_
  refine n_VP (pc := 7) (c_X9_prime hW) bX9_prime q_i_X9_prime q_s_X9_prime q_m_X1_31 dX1_rankOf_7 rfl rfl (by repeat (first | assumption | exact hset_eq _ _ _ | rw [hset_ne _ _ (by omega)])) rfl rfl (by exact Nat.le_of_ble_eq_true rfl) ⟨by decide, by decide⟩ ⟨rfl, rfl, Nat.zero_le _, Nat.zero_le _⟩ ?_
  refine e_iload_n (pc := 10) dX1_rankOf_10 rfl rfl ?_
  refine e_aload_n (pc := 11) dX1_rankOf_11 rfl rfl ?_
  refine e_get (pc := 12) fl_X1_9 dX1_rankOf_12 (by repeat (first | assumption | exact hset_eq _ _ _ | rw [hset_ne _ _ (by omega)])) (by rfl) ?_
  refine n_Sv (pc := 15) (c_X8_unpack (by omega) hx (by omega) q2) bX8_unpack q_st_X8_unpack q_m_X1_34 dX1_rankOf_15 rfl rfl (by exact Nat.le_of_ble_eq_true rfl) ⟨by decide, by decide⟩ ⟨rfl, rfl, Nat.zero_le _, Nat.zero_le _⟩ (fun h2 hp => ?_)
  obtain ⟨g, rfl, hg⟩ := hp
  have hF2 : FSh (hset h (E + 80) (aI 5 g)) E := by
    obtain ⟨h1, h2', ⟨f3, h3⟩, ⟨f4, h4⟩, ⟨f5, h5⟩⟩ := hF
    exact ⟨h1.far (fun a x y => by rw [hset_ne _ _ (by omega)]), by rw [hset_ne _ _ (by omega)]; exact h2', ⟨g, hset_eq _ _ _⟩, ⟨f4, by rw [hset_ne _ _ (by omega)]; exact h4⟩, ⟨f5, by rw [hset_ne _ _ (by omega)]; exact h5⟩⟩
  have he2 : Er E (E + 81) h (hset h (E + 80) (aI 5 g)) := (Er.rf _ _ h).set (by omega)
  have hW2 : WAt (hset h (E + 80) (aI 5 g)) o W f := by
    refine hW.kept (hset_ne _ _ (by omega)) (hset_ne _ _ (by omega)) ⟨gw, ?_⟩
    rw [hset_ne _ _ (by omega)]; exact w2
  obtain ⟨k0, k1, kg, k2⟩ := id hW2
  obtain ⟨⟨⟨s1, s2, s3, s4⟩, -⟩, t1, -⟩ := id hF2
  refine e_aload_n (pc := 18) dX1_rankOf_18 rfl rfl ?_
  refine e_get (pc := 19) fl_X1_21 dX1_rankOf_19 (by repeat (first | assumption | exact hset_eq _ _ _ | rw [hset_ne _ _ (by omega)])) (by rfl) ?_
  refine e_aload_n (pc := 22) dX1_rankOf_22 rfl rfl ?_
  refine n_VP (pc := 23) (c_X9_prime hW2) bX9_prime q_i_X9_prime q_s_X9_prime q_m_X1_31 dX1_rankOf_23 rfl rfl (by repeat (first | assumption | exact hset_eq _ _ _ | rw [hset_ne _ _ (by omega)])) rfl rfl (by exact Nat.le_of_ble_eq_true rfl) ⟨by decide, by decide⟩ ⟨rfl, rfl, Nat.zero_le _, Nat.zero_le _⟩ ?_
  refine e_iload (pc := 26) dX1_rankOf_26 rfl ?_
  refine n_Vv (pc := 28) (c_X0_start hF2.1 hk.1 (by omega)) bX0_start q_i_X0_start q_s_X0_start q_m_X1_40 dX1_rankOf_28 rfl rfl (by repeat (first | assumption | exact hset_eq _ _ _ | rw [hset_ne _ _ (by omega)])) rfl rfl (by exact Nat.le_of_ble_eq_true rfl) ⟨by decide, by decide⟩ ⟨rfl, rfl, Nat.zero_le _, Nat.zero_le _⟩ (fun h2 hp => ?_)
  obtain ⟨p1, p2⟩ := hp
  refine n_iconst (pc := 31) 0 dX1_rankOf_31 (by decide) ?_
  refine e_istore (pc := 32) dX1_rankOf_32 (by decide) ?_
  refine V.mask [true, true, true, false, true, true, false] ?_
  exact l_rankOf_a hk hs d W.2.1 0 rfl (by omega) h2 0 _ _ (hF2.ee p1.sh p2) (hW2.er p2.er (by omega)) p1 ⟨g, by rw [p2 _ (by omega)]; exact hset_eq _ _ _, hg⟩ (he2.tr (p2.er.mono (by omega) (by omega))) (EOk_0 _ _) (rk_0 _).symm (fun u => ⟨fun _ c hc => absurd hc (Nat.not_lt_zero c), fun _ => Sol_0 _ _ u⟩)
end FO
