/-! ===== the reference: numbers, the order ===== -/
section NU
variable {h : AH} {m p n q len sz : Nat} {s : Ms} {f : Nat → Nat}
theorem tK_2 (i : Nat) : tK f len i = 2 ↔ tC f len i = 2 := by
  unfold tK
  constructor
  · intro h
    by_cases c : tC f len i = 1
    · rw [if_pos c] at h
      (repeat' split at h) <;> omega
    · rw [if_neg c] at h
      split at h <;> omega
  · intro h
    rw [if_neg (by omega), if_neg (by omega)]
    exact h
theorem tK_3 (i : Nat) : tK f len i = 3 ↔ tC f len i = 3 := by
  unfold tK
  constructor
  · intro h
    by_cases c : tC f len i = 1
    · rw [if_pos c] at h
      (repeat' split at h) <;> omega
    · rw [if_neg c] at h
      split at h <;> omega
  · intro h
    rw [if_neg (by omega), if_neg (by omega)]
    exact h
/-- the token at j is the one read -/
def TkS (s : Ms) (f : Nat → Nat) (len j : Nat) : Prop := s.2.1 = len ∧ j ≤ len ∧ s.2.2.1 = tE f len j ∧ s.2.2.2.1 = tK f len j ∧ s.2.2.2.2.1 = tS f len j ∧ (tC f len j = 2 → s.2.2.2.2.2.1 = tV f len j)
abbrev Ms.bd (s : Ms) (k b : Nat) : Ms := (s.1, s.2.1, s.2.2.1, s.2.2.2.1, s.2.2.2.2.1, s.2.2.2.2.2.1, k, b, s.2.2.2.2.2.2.2.2)
/-- what a text does not touch while it is read -/
def Sst (s s2 : Ms) : Prop := s2.1 = s.1 ∧ s2.2.1 = s.2.1 ∧ s2.2.2.2.2.2.2.2.2 = s.2.2.2.2.2.2.2.2
def Tkd (s s2 : Ms) : Prop := Sst s s2 ∧ s2.2.2.2.2.2.2.1 = s.2.2.2.2.2.2.1
theorem Sst.rf (s : Ms) : Sst s s := ⟨rfl, rfl, rfl⟩
theorem Tkd.rf (s : Ms) : Tkd s s := ⟨Sst.rf s, rfl⟩
theorem Sst.tr {s s1 s2 : Ms} (a : Sst s s1) (b : Sst s1 s2) : Sst s s2 := ⟨b.1.trans a.1, b.2.1.trans a.2.1, b.2.2.trans a.2.2⟩
theorem Tkd.tr {s s1 s2 : Ms} (a : Tkd s s1) (b : Tkd s1 s2) : Tkd s s2 := ⟨a.1.tr b.1, b.2.trans a.2⟩
def Wr (s : Ms) (x : Nat × Nat) : Prop := s.2.2.2.2.2.2.1 = x.1 ∧ s.2.2.2.2.2.2.2.1 = x.2
theorem c_X11_bad {k : Nat} (hM : MH h m p n q s) : CI yX11_bad MX11_bad [.ref m, .int (nI k)] h (fun z h' => z = bI false ∧ ∃ s2, h' = hset h m (oM m p n q s2) ∧ Sst s s2 ∧ Wr s2 (k, s.2.2.2.2.1)) := by
  have hM0 : h m = some (ob 10 (mfs m p n q s)) := hM
  refine CI.ofV (by decide) rfl rfl (by simp [Value.category]) (by exact Nat.le_of_ble_eq_true rfl) (fun sz => ?_)
  refine e_aload_n (pc := 0) dX11_bad_0 rfl rfl ?_
  refine e_iload_n (pc := 1) dX11_bad_1 rfl rfl ?_
  refine e_put (pc := 2) pl_X11_207 dX11_bad_2 (by repeat (first | assumption | exact hset_eq _ _ _ | (apply Lay.hd; assumption) | rw [hset_ne _ _ (by omega)])) (by rfl) (by rfl) (by exact Nat.le_of_ble_eq_true rfl) ?_
  refine e_aload_n (pc := 5) dX11_bad_5 rfl rfl ?_
  refine e_aload_n (pc := 6) dX11_bad_6 rfl rfl ?_
  refine e_get (pc := 7) fl_X11_163 dX11_bad_7 (by repeat (first | assumption | exact hset_eq _ _ _ | (apply Lay.hd; assumption) | rw [hset_ne _ _ (by omega)])) (by rfl) ?_
  refine e_put (pc := 10) pl_X11_210 dX11_bad_10 (by repeat (first | assumption | exact hset_eq _ _ _ | (apply Lay.hd; assumption) | rw [hset_ne _ _ (by omega)])) (by rfl) (by rfl) (by exact Nat.le_of_ble_eq_true rfl) ?_
  refine e_heap (hset_hset h m _ _) ?_
  refine n_iconst (pc := 13) 0 dX11_bad_13 (by decide) ?_
  exact n_zret (pc := 14) dX11_bad_14 rfl rfl ⟨rfl, s.bd k s.2.2.2.2.1, rfl, ⟨rfl, rfl, rfl⟩, rfl, rfl⟩
theorem TpM.tVl {i : Nat} (hT : TpM h m f len) (hi : i ≤ len) : tV f len i < 2 ^ 30 := by
  obtain ⟨l6, g, g1, g2⟩ := id hT
  have sb := tE_b (f := f) hi
  have hb := run_b (f := f) (P := digB) sb.2.2.2
  show dv f (tS f len i) (min 4 (run f len digB (tS f len i) - tS f len i)) < 2 ^ 30
  have h1 := dv_lt (f := f) (s := tS f len i) (min 4 (run f len digB (tS f len i) - tS f len i)) (fun t ht => by
    have q : digB (f (tS f len i + t)) = true := run_in _ _ _ (Nat.le_add_right _ _) (show tS f len i + t < run f len digB (tS f len i) by omega)
    have := of_decide_eq_true q
    omega)
  have h2 : 10 ^ (min 4 (run f len digB (tS f len i) - tS f len i)) ≤ 10 ^ 4 := Nat.pow_le_pow_right (by decide) (Nat.min_le_left _ _)
  omega
theorem c_X11_number {lo hi j : Nat} (hM : MH h m p n q s) (hT : TpM h m f len) (hs : TkS s f len j) (hlo : lo < 2 ^ 31) (hhi : hi < 2 ^ 31) : CI yX11_number MX11_number [.ref m, .int (nI lo), .int (nI hi)] h (fun z h' => ∃ s2, h' = hset h m (oM m p n q s2) ∧ ((tC f len j = 2 ∧ (lo ≤ tV f len j ∧ tV f len j ≤ hi) ∧ z = bI true ∧ Tkd s s2 ∧ TkS s2 f len (nt f len j 1)) ∨ (tC f len j = 2 ∧ ¬ (lo ≤ tV f len j ∧ tV f len j ≤ hi) ∧ z = bI false ∧ Sst s s2 ∧ Wr s2 (2, tS f len j)) ∨ (tC f len j ≠ 2 ∧ z = bI false ∧ Sst s s2 ∧ Wr s2 (1, tS f len j)))) := by
  obtain ⟨s0, s1, s2, s3, s4, s5⟩ := id hs
  have hM0 : h m = some (ob 10 (mfs m p n q s)) := hM
  have kv := tK_v (f := f) (len := len) j
  have tb := tE_b (f := f) s1
  refine CI.ofV (by decide) rfl rfl (by simp [Value.category]) (by exact Nat.le_of_ble_eq_true rfl) (fun sz => ?_)
  refine e_aload_n (pc := 0) dX11_number_0 rfl rfl ?_
  refine e_get (pc := 1) fl_X11_192 dX11_number_1 (by repeat (first | assumption | exact hset_eq _ _ _ | (apply Lay.hd; assumption) | rw [hset_ne _ _ (by omega)])) (by rfl) ?_
  rw [s3]
  refine n_iconst (pc := 4) 2 dX11_number_4 (by decide) ?_
  by_cases c2 : tC f len j = 2
  · have k2 := (tK_2 (f := f) (len := len) j).mpr c2
    rw [k2]
    refine n_icmp_eq (pc := 5) (tgt := 14) dX11_number_5 (by decide) (by omega) (by omega) (fun hb_ => ?_) (fun c => absurd c (by omega))
    refine e_aload_n (pc := 14) dX11_number_14 rfl rfl ?_
    refine e_get (pc := 15) fl_X11_204 dX11_number_15 (by repeat (first | assumption | exact hset_eq _ _ _ | (apply Lay.hd; assumption) | rw [hset_ne _ _ (by omega)])) (by rfl) ?_
    rw [s5 c2]
    refine e_iload_n (pc := 18) dX11_number_18 rfl rfl ?_
    refine e_iload_n (pc := 19) dX11_number_19 rfl rfl ?_
    refine n_SP (pc := 20) (c_X11_isIn (nI (tV f len j)) (nI lo) (nI hi)) bX11_isIn q_st_X11_isIn q_m_X11_98 dX11_number_20 rfl rfl (by exact Nat.le_of_ble_eq_true rfl) ⟨by decide, by decide⟩ ⟨rfl, rfl, Nat.zero_le _, Nat.zero_le _⟩ ?_
    have vl := hT.tVl s1
    rw [inB_nat (by omega) hlo hhi]
    refine n_bif_ne (pc := 23) (tgt := 32) dX11_number_23 (by decide) (fun c => ?_) (fun c => ?_)
    · refine e_aload_n (pc := 32) dX11_number_32 rfl rfl ?_
      refine n_Vv (pc := 33) (c_X11_next0 hM hT s0 s2 tb.2.2.1) bX11_next0 q_i_X11_next0 q_s_X11_next0 q_m_X11_216 dX11_number_33 rfl rfl (by repeat (first | assumption | exact hset_eq _ _ _ | (apply Lay.hd; assumption) | rw [hset_ne _ _ (by omega)])) rfl rfl (by exact Nat.le_of_ble_eq_true rfl) ⟨by decide, by decide⟩ ⟨rfl, rfl, Nat.zero_le _, Nat.zero_le _⟩ (fun h2 hp => ?_)
      obtain ⟨v, rfl, hv⟩ := hp
      have tb2 := tE_b (f := f) tb.2.2.1
      refine n_iconst (pc := 36) 1 dX11_number_36 (by decide) ?_
      exact n_zret (pc := 37) dX11_number_37 rfl rfl ⟨_, rfl, Or.inl ⟨c2, of_decide_eq_true c, rfl, ⟨⟨rfl, rfl, rfl⟩, rfl⟩, s0, tb.2.2.1, rfl, rfl, rfl, hv⟩⟩
    · refine e_aload_n (pc := 26) dX11_number_26 rfl rfl ?_
      refine n_iconst (pc := 27) 2 dX11_number_27 (by decide) ?_
      refine n_V (pc := 28) (c_X11_bad (k := 2) hM) bX11_bad q_i_X11_bad q_s_X11_bad q_m_X11_213 dX11_number_28 rfl rfl (by repeat (first | assumption | exact hset_eq _ _ _ | (apply Lay.hd; assumption) | rw [hset_ne _ _ (by omega)])) rfl rfl (by exact Nat.le_of_ble_eq_true rfl) ⟨by decide, by decide⟩ ⟨rfl, rfl, Nat.zero_le _, Nat.zero_le _⟩ (fun z h2 hp => ?_)
      obtain ⟨rfl, s6, rfl, p1, p2⟩ := hp
      rw [s4] at p2
      exact n_zret (pc := 31) dX11_number_31 rfl (bI_nar _) ⟨_, rfl, Or.inr (Or.inl ⟨c2, of_decide_eq_false c, rfl, p1, p2⟩)⟩
  · have k2 : tK f len j ≠ 2 := fun q => c2 ((tK_2 (f := f) (len := len) j).mp q)
    refine n_icmp_eq (pc := 5) (tgt := 14) dX11_number_5 (by decide) (by omega) (by omega) (fun c => absurd c (by omega)) (fun hb_ => ?_)
    refine e_aload_n (pc := 8) dX11_number_8 rfl rfl ?_
    refine n_iconst (pc := 9) 1 dX11_number_9 (by decide) ?_
    refine n_V (pc := 10) (c_X11_bad (k := 1) hM) bX11_bad q_i_X11_bad q_s_X11_bad q_m_X11_213 dX11_number_10 rfl rfl (by repeat (first | assumption | exact hset_eq _ _ _ | (apply Lay.hd; assumption) | rw [hset_ne _ _ (by omega)])) rfl rfl (by exact Nat.le_of_ble_eq_true rfl) ⟨by decide, by decide⟩ ⟨rfl, rfl, Nat.zero_le _, Nat.zero_le _⟩ (fun z h2 hp => ?_)
    obtain ⟨rfl, s6, rfl, p1, p2⟩ := hp
    rw [s4] at p2
    exact n_zret (pc := 13) dX11_number_13 rfl (bI_nar _) ⟨_, rfl, Or.inr (Or.inr ⟨c2, rfl, p1, p2⟩)⟩
/-- so many numbers of a statement have been read and told -/
def NuS (hh h : AH) (m p n q : Nat) (s0 : Ms) (f : Nat → Nat) (len i : Nat) (b : Nat → Nat) (a : Nat) : Prop := ∃ s2, MH h m p n q s2 ∧ TkS s2 f len (nt f len i (a + 1)) ∧ Tkd s0 s2 ∧ (∃ g, h (m + 10) = some (aI 7 g) ∧ ∀ t, t < a → g t = nI (vl f len i t)) ∧ nF f len i b a = none ∧ ∀ c, c ≠ m → c ≠ m + 10 → h c = hh c
/-- a fault has been found -/
def FtS (hh h : AH) (m p n q : Nat) (s0 : Ms) (x : Nat × Nat) : Prop := ∃ s2, MH h m p n q s2 ∧ Sst s0 s2 ∧ Wr s2 x ∧ (∃ g, h (m + 10) = some (aI 7 g)) ∧ ∀ c, c ≠ m → c ≠ m + 10 → h c = hh c
theorem l_nums {hh : AH} {i a0 many hi : Nat} {b : Nat → Nat} (hT : TpM hh m f len) (ha : a0 + many ≤ 7) (hhi : hi < 2 ^ 30) (hb : ∀ t, a0 ≤ t → t < a0 + many → b t = hi + 1) :
    ∀ (t k : Nat), t = many - k → k ≤ many → ∀ h, NuS hh h m p n q s f len i b (a0 + k) → VI MX11_numbers sz (fun z h' => (z = bI true ∧ NuS hh h' m p n q s f len i b (a0 + many)) ∨ (z = bI false ∧ ∃ x, nF f len i b (a0 + many) = some x ∧ FtS hh h' m p n q s x)) h 3 [some (.ref m), some (.int (nI a0)), some (.int (nI many)), some (.int (nI hi)), some (.int (nI k))] [] := by
  intro t
  induction t with
  | zero =>
    intro k e1 e2 h hN
    have e' : k = many := by omega
    subst e'
    refine e_iload (pc := 3) dX11_numbers_3 rfl ?_
    refine e_iload_n (pc := 5) dX11_numbers_5 rfl rfl ?_
    refine n_icmp_ge (pc := 6) (tgt := 39) dX11_numbers_6 (by decide) (by omega) (by omega) (fun hb_ => ?_) (fun c => absurd c (by omega))
    refine n_iconst (pc := 39) 1 dX11_numbers_39 (by decide) ?_
    exact n_zret (pc := 40) dX11_numbers_40 rfl rfl (Or.inl ⟨rfl, hN⟩)
  | succ t ih =>
    intro k e1 e2 h hN
    obtain ⟨s2, hM, hk, hd, ⟨g, g1, g2⟩, hn, hf⟩ := hN
    have hM0 : h m = some (ob 10 (mfs m p n q s2)) := hM
    have bk := hb (a0 + k) (by omega) (by omega)
    refine e_iload (pc := 3) dX11_numbers_3 rfl ?_
    refine e_iload_n (pc := 5) dX11_numbers_5 rfl rfl ?_
    refine n_icmp_ge (pc := 6) (tgt := 39) dX11_numbers_6 (by decide) (by omega) (by omega) (fun c => absurd c (by omega)) (fun hb_ => ?_)
    refine e_aload_n (pc := 9) dX11_numbers_9 rfl rfl ?_
    refine e_get (pc := 10) fl_X11_41 dX11_numbers_10 (by repeat (first | assumption | exact hset_eq _ _ _ | (apply Lay.hd; assumption) | rw [hset_ne _ _ (by omega)])) (by rfl) ?_
    refine e_iload_n (pc := 13) dX11_numbers_13 rfl rfl ?_
    refine e_iload (pc := 14) dX11_numbers_14 rfl ?_
    refine n_iadd (pc := 16) dX11_numbers_16 ?_
    refine e_aload_n (pc := 17) dX11_numbers_17 rfl rfl ?_
    refine e_get (pc := 18) fl_X11_204 dX11_numbers_18 (by repeat (first | assumption | exact hset_eq _ _ _ | (apply Lay.hd; assumption) | rw [hset_ne _ _ (by omega)])) (by rfl) ?_
    refine e_iastN (pc := 21) (a0 + k) dX11_numbers_21 (by repeat (first | assumption | exact hset_eq _ _ _ | (apply Lay.hd; assumption) | rw [hset_ne _ _ (by omega)])) (by rfl) (by omega) (by first | decide | omega) ?_
    have hM1 : MH (hset h (m + 10) (aI 7 (upd g (a0 + k) (nI s2.2.2.2.2.2.1)))) m p n q s2 := (hset_ne _ _ (by omega)).trans hM
    have hT1 : TpM (hset h (m + 10) (aI 7 (upd g (a0 + k) (nI s2.2.2.2.2.2.1)))) m f len := hT.keep ((hset_ne _ _ (by omega)).trans (hf _ (by omega) (by omega)))
    refine e_aload_n (pc := 22) dX11_numbers_22 rfl rfl ?_
    refine n_iconst (pc := 23) 0 dX11_numbers_23 (by decide) ?_
    refine e_iload_n (pc := 24) dX11_numbers_24 rfl rfl ?_
    refine n_V (pc := 25) (c_X11_number (lo := 0) hM1 hT1 hk (by decide) (by omega)) bX11_number q_i_X11_number q_s_X11_number q_m_X11_219 dX11_numbers_25 rfl rfl (by repeat (first | assumption | exact hset_eq _ _ _ | (apply Lay.hd; assumption) | rw [hset_ne _ _ (by omega)])) rfl rfl (by exact Nat.le_of_ble_eq_true rfl) ⟨by decide, by decide⟩ ⟨rfl, rfl, Nat.zero_le _, Nat.zero_le _⟩ (fun z h2 hp => ?_)
    obtain ⟨s3, rfl, hp⟩ := hp
    have fr : ∀ c, c ≠ m → c ≠ m + 10 → hset (hset h (m + 10) (aI 7 (upd g (a0 + k) (nI s2.2.2.2.2.2.1)))) m (oM m p n q s3) c = hh c := fun c c1 c2 => by rw [hset_ne _ _ c1, hset_ne _ _ c2]; exact hf c c1 c2
    have told : hset (hset h (m + 10) (aI 7 (upd g (a0 + k) (nI s2.2.2.2.2.2.1)))) m (oM m p n q s3) (m + 10) = some (aI 7 (upd g (a0 + k) (nI s2.2.2.2.2.2.1))) := (hset_ne _ _ (by omega)).trans (hset_eq _ _ _)
    have bad : ∀ x, tokF f len (nt f len i (a0 + k + 1)) (b (a0 + k)) = some x → Sst s2 s3 → Wr s3 x → ∃ x, nF f len i b (a0 + many) = some x ∧ FtS hh (hset (hset h (m + 10) (aI 7 (upd g (a0 + k) (nI s2.2.2.2.2.2.1)))) m (oM m p n q s3)) m p n q s x := fun x q1 q2 q3 => by
      refine ⟨x, ?_, s3, hset_eq _ _ _, hd.1.tr q2, q3, ⟨_, told⟩, fr⟩
      have e := nF_some (b := b) (x := x) ((nF_s hn).trans q1) (many - (k + 1))
      rw [show a0 + k + 1 + (many - (k + 1)) = a0 + many by omega] at e
      exact e
    rcases hp with ⟨c2, c3, rfl, q1, q2⟩ | ⟨c2, c3, rfl, q1, q2⟩ | ⟨c2, rfl, q1, q2⟩
    · refine n_bif_ne (pc := 28) (tgt := 33) dX11_numbers_28 (by decide) (fun _ => ?_) (fun c => by cases c)
      refine n_inc (pc := 33) dX11_numbers_33 rfl (by decide) ?_
      refine e_goto (pc := 36) (tgt := 3) dX11_numbers_36 (by decide) ?_
      have tn : tokF f len (nt f len i (a0 + k + 1)) (b (a0 + k)) = none := by unfold tokF; rw [if_pos c2, if_pos (by omega)]
      refine ih (k + 1) (by omega) (by omega) _ ⟨s3, hset_eq _ _ _, q2, hd.tr q1, ⟨_, told, fun t ht => ?_⟩, (nF_s hn).trans tn, fr⟩
      by_cases e : t = a0 + k
      · rw [e, pk_us, hk.2.2.2.2.2 c2]; rfl
      · rw [pk_un e]; exact g2 t (by omega)
    · refine n_bif_ne (pc := 28) (tgt := 33) dX11_numbers_28 (by decide) (fun c => by cases c) (fun _ => ?_)
      refine n_iconst (pc := 31) 0 dX11_numbers_31 (by decide) ?_
      exact n_zret (pc := 32) dX11_numbers_32 rfl rfl (Or.inr ⟨rfl, bad _ (by unfold tokF; rw [if_pos c2, if_neg (by omega)]) q1 q2⟩)
    · refine n_bif_ne (pc := 28) (tgt := 33) dX11_numbers_28 (by decide) (fun c => by cases c) (fun _ => ?_)
      refine n_iconst (pc := 31) 0 dX11_numbers_31 (by decide) ?_
      exact n_zret (pc := 32) dX11_numbers_32 rfl rfl (Or.inr ⟨rfl, bad _ (by unfold tokF; rw [if_neg c2]) q1 q2⟩)
theorem c_X11_numbers {hh : AH} {i a0 many hi : Nat} {b : Nat → Nat} (hN : NuS hh h m p n q s f len i b a0) (hT : TpM hh m f len) (ha : a0 + many ≤ 7) (hhi : hi < 2 ^ 30) (hb : ∀ t, a0 ≤ t → t < a0 + many → b t = hi + 1) : CI yX11_numbers MX11_numbers [.ref m, .int (nI a0), .int (nI many), .int (nI hi)] h (fun z h' => (z = bI true ∧ NuS hh h' m p n q s f len i b (a0 + many)) ∨ (z = bI false ∧ ∃ x, nF f len i b (a0 + many) = some x ∧ FtS hh h' m p n q s x)) := by
  refine CI.ofV (by decide) rfl rfl (by simp [Value.category]) (by exact Nat.le_of_ble_eq_true rfl) (fun sz => ?_)
  refine n_iconst (pc := 0) 0 dX11_numbers_0 (by decide) ?_
  refine e_istore (pc := 1) dX11_numbers_1 (by decide) ?_
  exact l_nums hT ha hhi hb many 0 rfl (Nat.zero_le _) h hN
theorem c_X11_order {i : Nat} (hM : MH h m p n q s) (hT : TpM h m f len) (hs : TkS s f len (nt f len i 1)) : CI yX11_order MX11_order [.ref m] h (fun z h' => (z = bI true ∧ ordF f len i = none ∧ ∃ s2, h' = hset h m (oM m (vl f len i 0) (vl f len i 1) (vl f len i 0 ^ vl f len i 1) s2) ∧ Tkd s s2 ∧ TkS s2 f len (nt f len i 3)) ∨ (z = bI false ∧ ∃ x p2 n2 q2 s2, ordF f len i = some x ∧ h' = hset h m (oM m p2 n2 q2 s2) ∧ Sst s s2 ∧ Wr s2 x)) := by
  obtain ⟨s0, s1, s2, s3, s4, s5⟩ := id hs
  have hM0 : h m = some (ob 10 (mfs m p n q s)) := hM
  have kv := tK_v (f := f) (len := len) (nt f len i 1)
  have v0 : tV f len (nt f len i 1) = vl f len i 0 := rfl
  have v0l := hT.tVl s1
  refine CI.ofV (by decide) rfl rfl (by simp [Value.category]) (by exact Nat.le_of_ble_eq_true rfl) (fun sz => ?_)
  refine e_aload_n (pc := 0) dX11_order_0 rfl rfl ?_
  refine e_aload_n (pc := 1) dX11_order_1 rfl rfl ?_
  refine e_get (pc := 2) fl_X11_204 dX11_order_2 (by repeat (first | assumption | exact hset_eq _ _ _ | (apply Lay.hd; assumption) | rw [hset_ne _ _ (by omega)])) (by rfl) ?_
  refine e_put (pc := 5) pl_X11_106 dX11_order_5 (by repeat (first | assumption | exact hset_eq _ _ _ | (apply Lay.hd; assumption) | rw [hset_ne _ _ (by omega)])) (by rfl) (by rfl) (by exact Nat.le_of_ble_eq_true rfl) ?_
  have hM1 : MH (hset h m (oM m s.2.2.2.2.2.1 n q s)) m s.2.2.2.2.2.1 n q s := hset_eq _ _ _
  show VI MX11_order sz _ (hset h m (oM m s.2.2.2.2.2.1 n q s)) 8 _ _
  have go : (tC f len (nt f len i 1) = 2 → vl f len i 0 = 2 ∨ vl f len i 0 = 3 ∨ vl f len i 0 = 5) → VI MX11_order sz (fun z h' => (z = bI true ∧ ordF f len i = none ∧ ∃ s2, h' = hset h m (oM m (vl f len i 0) (vl f len i 1) (vl f len i 0 ^ vl f len i 1) s2) ∧ Tkd s s2 ∧ TkS s2 f len (nt f len i 3)) ∨ (z = bI false ∧ ∃ x p2 n2 q2 s2, ordF f len i = some x ∧ h' = hset h m (oM m p2 n2 q2 s2) ∧ Sst s s2 ∧ Wr s2 x)) (hset h m (oM m s.2.2.2.2.2.1 n q s)) 46 [some (.ref m)] [] := fun hgo => by
    refine e_aload_n (pc := 46) dX11_order_46 rfl rfl ?_
    refine n_iconst (pc := 47) 2 dX11_order_47 (by decide) ?_
    refine n_iconst (pc := 48) 5 dX11_order_48 (by decide) ?_
    refine n_V (pc := 49) (c_X11_number (lo := 2) (hi := 5) hM1 hT.hm hs (by decide) (by decide)) bX11_number q_i_X11_number q_s_X11_number q_m_X11_219 dX11_order_49 rfl rfl (by repeat (first | assumption | exact hset_eq _ _ _ | (apply Lay.hd; assumption) | rw [hset_ne _ _ (by omega)])) rfl rfl (by exact Nat.le_of_ble_eq_true rfl) ⟨by decide, by decide⟩ ⟨rfl, rfl, Nat.zero_le _, Nat.zero_le _⟩ (fun z h2 hp => ?_)
    obtain ⟨sa, rfl, hp⟩ := hp
    rcases hp with ⟨c2, c3, rfl, q1, q2⟩ | ⟨c2, c3, rfl, q1, q2⟩ | ⟨c2, rfl, q1, q2⟩
    rotate_left
    · exact absurd (by have := hgo c2; omega) c3
    · refine n_bif_ne (pc := 52) (tgt := 57) dX11_order_52 (by decide) (fun c => by cases c) (fun _ => ?_)
      refine e_heap (hset_hset h m _ _) ?_
      refine n_iconst (pc := 55) 0 dX11_order_55 (by decide) ?_
      exact n_zret (pc := 56) dX11_order_56 rfl rfl (Or.inr ⟨rfl, _, _, _, _, _, by unfold ordF; rw [if_neg c2], rfl, q1, q2⟩)
    have hg := hgo c2
    have sv := s5 c2
    rw [v0] at sv
    have q2 : TkS sa f len (nt f len i 2) := q2
    obtain ⟨a0, a1, a2, a3, a4, a5⟩ := id q2
    have v1 : tV f len (nt f len i 2) = vl f len i 1 := rfl
    have v1l := hT.tVl a1
    refine n_bif_ne (pc := 52) (tgt := 57) dX11_order_52 (by decide) (fun _ => ?_) (fun c => by cases c)
    refine e_heap (hset_hset h m _ _) ?_
    rw [sv]
    refine e_aload_n (pc := 57) dX11_order_57 rfl rfl ?_
    refine e_aload_n (pc := 58) dX11_order_58 rfl rfl ?_
    refine e_get (pc := 59) fl_X11_204 dX11_order_59 (by repeat (first | assumption | exact hset_eq _ _ _ | (apply Lay.hd; assumption) | rw [hset_ne _ _ (by omega)])) (by rfl) ?_
    refine e_put (pc := 62) pl_X11_109 dX11_order_62 (by repeat (first | assumption | exact hset_eq _ _ _ | (apply Lay.hd; assumption) | rw [hset_ne _ _ (by omega)])) (by rfl) (by rfl) (by exact Nat.le_of_ble_eq_true rfl) ?_
    refine e_heap (hset_hset h m _ _) ?_
    show VI MX11_order sz _ (hset h m (oM m (vl f len i 0) sa.2.2.2.2.2.1 q sa)) 65 _ _
    have hM2 : MH (hset h m (oM m (vl f len i 0) sa.2.2.2.2.2.1 q sa)) m (vl f len i 0) sa.2.2.2.2.2.1 q sa := hset_eq _ _ _
    have nx : ∀ hi, hi < 2 ^ 31 → (tC f len (nt f len i 2) = 2 → ((1 ≤ vl f len i 1 ∧ vl f len i 1 ≤ hi) ↔ canBe (vl f len i 0) (vl f len i 1))) → VI MX11_order sz (fun z h' => (z = bI true ∧ ordF f len i = none ∧ ∃ s2, h' = hset h m (oM m (vl f len i 0) (vl f len i 1) (vl f len i 0 ^ vl f len i 1) s2) ∧ Tkd s s2 ∧ TkS s2 f len (nt f len i 3)) ∨ (z = bI false ∧ ∃ x p2 n2 q2 s2, ordF f len i = some x ∧ h' = hset h m (oM m p2 n2 q2 s2) ∧ Sst s s2 ∧ Wr s2 x)) (hset h m (oM m (vl f len i 0) sa.2.2.2.2.2.1 q sa)) 88 [some (.ref m)] [.int (nI hi), .int (nI 1), .ref m] := fun hi hhi hcb => by
      refine n_V (pc := 88) (c_X11_number (lo := 1) (hi := hi) hM2 hT.hm q2 (by decide) hhi) bX11_number q_i_X11_number q_s_X11_number q_m_X11_219 dX11_order_88 rfl rfl (by repeat (first | assumption | exact hset_eq _ _ _ | (apply Lay.hd; assumption) | rw [hset_ne _ _ (by omega)])) rfl rfl (by exact Nat.le_of_ble_eq_true rfl) ⟨by decide, by decide⟩ ⟨rfl, rfl, Nat.zero_le _, Nat.zero_le _⟩ (fun z h2 hp => ?_)
      obtain ⟨sb, rfl, hp⟩ := hp
      rcases hp with ⟨d2, d3, rfl, r1, r2⟩ | ⟨d2, d3, rfl, r1, r2⟩ | ⟨d2, rfl, r1, r2⟩
      · refine n_bif_ne (pc := 91) (tgt := 96) dX11_order_91 (by decide) (fun _ => ?_) (fun c => by cases c)
        refine e_heap (hset_hset h m _ _) ?_
        have sv1 := a5 d2
        rw [v1] at sv1 d3
        rw [sv1]
        have cb := (hcb d2).mp d3
        refine e_aload_n (pc := 96) dX11_order_96 rfl rfl ?_
        refine e_aload_n (pc := 97) dX11_order_97 rfl rfl ?_
        refine e_get (pc := 98) fl_X11_106 dX11_order_98 (by repeat (first | assumption | exact hset_eq _ _ _ | (apply Lay.hd; assumption) | rw [hset_ne _ _ (by omega)])) (by rfl) ?_
        refine e_aload_n (pc := 101) dX11_order_101 rfl rfl ?_
        refine e_get (pc := 102) fl_X11_109 dX11_order_102 (by repeat (first | assumption | exact hset_eq _ _ _ | (apply Lay.hd; assumption) | rw [hset_ne _ _ (by omega)])) (by rfl) ?_
        refine n_SP (pc := 105) (c_X11_power (show vl f len i 1 < 2 ^ 31 by omega)) bX11_power q_st_X11_power q_m_X11_102 dX11_order_105 rfl rfl (by exact Nat.le_of_ble_eq_true rfl) ⟨by decide, by decide⟩ ⟨rfl, rfl, Nat.zero_le _, Nat.zero_le _⟩ ?_
        refine e_put (pc := 108) pl_X11_112 dX11_order_108 (by repeat (first | assumption | exact hset_eq _ _ _ | (apply Lay.hd; assumption) | rw [hset_ne _ _ (by omega)])) (by rfl) (by rfl) (by exact Nat.le_of_ble_eq_true rfl) ?_
        refine e_heap (hset_hset h m _ _) ?_
        refine n_iconst (pc := 111) 1 dX11_order_111 (by decide) ?_
        exact n_zret (pc := 112) dX11_order_112 rfl rfl (Or.inl ⟨rfl, by unfold ordF; rw [if_pos c2, if_pos hg, if_pos d2, if_pos (bl_t cb)], _, rfl, q1.tr r1, r2⟩)
      · refine n_bif_ne (pc := 91) (tgt := 96) dX11_order_91 (by decide) (fun c => by cases c) (fun _ => ?_)
        refine e_heap (hset_hset h m _ _) ?_
        rw [v1] at d3
        refine n_iconst (pc := 94) 0 dX11_order_94 (by decide) ?_
        exact n_zret (pc := 95) dX11_order_95 rfl rfl (Or.inr ⟨rfl, _, _, _, _, _, by unfold ordF; rw [if_pos c2, if_pos hg, if_pos d2, if_neg (by rw [bl_f (fun z => d3 ((hcb d2).mpr z))]; decide)], rfl, q1.1.tr r1, r2⟩)
      · refine n_bif_ne (pc := 91) (tgt := 96) dX11_order_91 (by decide) (fun c => by cases c) (fun _ => ?_)
        refine e_heap (hset_hset h m _ _) ?_
        refine n_iconst (pc := 94) 0 dX11_order_94 (by decide) ?_
        exact n_zret (pc := 95) dX11_order_95 rfl rfl (Or.inr ⟨rfl, _, _, _, _, _, by unfold ordF; rw [if_pos c2, if_pos hg, if_neg d2], rfl, q1.1.tr r1, r2⟩)
    have cb23 : vl f len i 0 = 2 ∨ vl f len i 0 = 3 → ((1 ≤ vl f len i 1 ∧ vl f len i 1 ≤ 5) ↔ canBe (vl f len i 0) (vl f len i 1)) := fun e => by
      unfold canBe
      constructor
      · intro z
        have : vl f len i 1 = 1 ∨ vl f len i 1 = 2 ∨ vl f len i 1 = 3 ∨ vl f len i 1 = 4 ∨ vl f len i 1 = 5 := by omega
        rcases e with e | e <;> rw [e] <;> rcases this with e2 | e2 | e2 | e2 | e2 <;> rw [e2] <;> decide
      · intro z; exact ⟨z.2.1, z.2.2.1⟩
    have cb5 : vl f len i 0 = 5 → ((1 ≤ vl f len i 1 ∧ vl f len i 1 ≤ 3) ↔ canBe (vl f len i 0) (vl f len i 1)) := fun e => by
      unfold canBe
      rw [e]
      constructor
      · intro z
        have : vl f len i 1 = 1 ∨ vl f len i 1 = 2 ∨ vl f len i 1 = 3 := by omega
        rcases this with e2 | e2 | e2 <;> rw [e2] <;> decide
      · intro z
        refine ⟨z.2.1, ?_⟩
        rcases Nat.lt_or_ge 3 (vl f len i 1) with c | c
        · have := Nat.pow_le_pow_right (show 0 < 5 by decide) (show 4 ≤ vl f len i 1 by omega)
          have z3 := z.2.2.2
          omega
        · exact c
    refine e_aload_n (pc := 65) dX11_order_65 rfl rfl ?_
    refine n_iconst (pc := 66) 1 dX11_order_66 (by decide) ?_
    refine e_aload_n (pc := 67) dX11_order_67 rfl rfl ?_
    refine e_get (pc := 68) fl_X11_106 dX11_order_68 (by repeat (first | assumption | exact hset_eq _ _ _ | (apply Lay.hd; assumption) | rw [hset_ne _ _ (by omega)])) (by rfl) ?_
    refine n_iconst (pc := 71) 2 dX11_order_71 (by decide) ?_
    refine n_icmp_eq (pc := 72) (tgt := 83) dX11_order_72 (by decide) (by omega) (by omega) (fun e2 => ?_) (fun e2 => ?_)
    · refine n_iconst (pc := 83) 5 dX11_order_83 (by decide) ?_
      refine e_goto (pc := 84) (tgt := 88) dX11_order_84 (by decide) ?_
      exact nx 5 (by decide) (fun _ => cb23 (Or.inl e2))
    · refine e_aload_n (pc := 75) dX11_order_75 rfl rfl ?_
      refine e_get (pc := 76) fl_X11_106 dX11_order_76 (by repeat (first | assumption | exact hset_eq _ _ _ | (apply Lay.hd; assumption) | rw [hset_ne _ _ (by omega)])) (by rfl) ?_
      refine n_iconst (pc := 79) 3 dX11_order_79 (by decide) ?_
      refine n_icmp_ne (pc := 80) (tgt := 87) dX11_order_80 (by decide) (by omega) (by omega) (fun e3 => ?_) (fun e3 => ?_)
      · refine n_iconst (pc := 87) 3 dX11_order_87 (by decide) ?_
        exact nx 3 (by decide) (fun _ => cb5 (by omega))
      · refine n_iconst (pc := 83) 5 dX11_order_83 (by decide) ?_
        refine e_goto (pc := 84) (tgt := 88) dX11_order_84 (by decide) ?_
        exact nx 5 (by decide) (fun _ => cb23 (Or.inr e3))
  refine e_aload_n (pc := 8) dX11_order_8 rfl rfl ?_
  refine e_get (pc := 9) fl_X11_192 dX11_order_9 (by repeat (first | assumption | exact hset_eq _ _ _ | (apply Lay.hd; assumption) | rw [hset_ne _ _ (by omega)])) (by rfl) ?_
  rw [s3]
  refine n_iconst (pc := 12) 2 dX11_order_12 (by decide) ?_
  by_cases c2 : tC f len (nt f len i 1) = 2
  · have k2 := (tK_2 (f := f) (len := len) (nt f len i 1)).mpr c2
    have sv := s5 c2
    rw [v0] at sv v0l
    rw [k2]
    refine n_icmp_ne (pc := 13) (tgt := 46) dX11_order_13 (by decide) (by omega) (by omega) (fun c => absurd c (by omega)) (fun hb_ => ?_)
    rw [sv] at go hM1 ⊢
    refine e_aload_n (pc := 16) dX11_order_16 rfl rfl ?_
    refine e_get (pc := 17) fl_X11_106 dX11_order_17 (by repeat (first | assumption | exact hset_eq _ _ _ | (apply Lay.hd; assumption) | rw [hset_ne _ _ (by omega)])) (by rfl) ?_
    refine n_iconst (pc := 20) 2 dX11_order_20 (by decide) ?_
    refine n_icmp_eq (pc := 21) (tgt := 46) dX11_order_21 (by decide) (by omega) (by omega) (fun d2 => ?_) (fun d2 => ?_)
    · exact go (fun _ => Or.inl d2)
    · refine e_aload_n (pc := 24) dX11_order_24 rfl rfl ?_
      refine e_get (pc := 25) fl_X11_106 dX11_order_25 (by repeat (first | assumption | exact hset_eq _ _ _ | (apply Lay.hd; assumption) | rw [hset_ne _ _ (by omega)])) (by rfl) ?_
      refine n_iconst (pc := 28) 3 dX11_order_28 (by decide) ?_
      refine n_icmp_eq (pc := 29) (tgt := 46) dX11_order_29 (by decide) (by omega) (by omega) (fun d3 => ?_) (fun d3 => ?_)
      · exact go (fun _ => Or.inr (Or.inl d3))
      · refine e_aload_n (pc := 32) dX11_order_32 rfl rfl ?_
        refine e_get (pc := 33) fl_X11_106 dX11_order_33 (by repeat (first | assumption | exact hset_eq _ _ _ | (apply Lay.hd; assumption) | rw [hset_ne _ _ (by omega)])) (by rfl) ?_
        refine n_iconst (pc := 36) 5 dX11_order_36 (by decide) ?_
        refine n_icmp_eq (pc := 37) (tgt := 46) dX11_order_37 (by decide) (by omega) (by omega) (fun d5 => ?_) (fun d5 => ?_)
        · exact go (fun _ => Or.inr (Or.inr d5))
        · refine e_aload_n (pc := 40) dX11_order_40 rfl rfl ?_
          refine n_iconst (pc := 41) 2 dX11_order_41 (by decide) ?_
          refine n_V (pc := 42) (c_X11_bad (k := 2) hM1) bX11_bad q_i_X11_bad q_s_X11_bad q_m_X11_213 dX11_order_42 rfl rfl (by repeat (first | assumption | exact hset_eq _ _ _ | (apply Lay.hd; assumption) | rw [hset_ne _ _ (by omega)])) rfl rfl (by exact Nat.le_of_ble_eq_true rfl) ⟨by decide, by decide⟩ ⟨rfl, rfl, Nat.zero_le _, Nat.zero_le _⟩ (fun z h2 hp => ?_)
          obtain ⟨rfl, s6, rfl, p1, p2⟩ := hp
          rw [s4] at p2
          refine e_heap (hset_hset h m _ _) ?_
          exact n_zret (pc := 45) dX11_order_45 rfl (bI_nar _) (Or.inr ⟨rfl, _, _, _, _, _, by unfold ordF; rw [if_pos c2, if_neg (by omega)], rfl, p1, p2⟩)
  · have k2 : tK f len (nt f len i 1) ≠ 2 := fun q => c2 ((tK_2 (f := f) (len := len) _).mp q)
    refine n_icmp_ne (pc := 13) (tgt := 46) dX11_order_13 (by decide) (by omega) (by omega) (fun hb_ => ?_) (fun c => absurd c (by omega))
    exact go (fun q => absurd q c2)
end NU
