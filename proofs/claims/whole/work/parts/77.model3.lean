/-! ===== the reference: its row of worlds, acts, images ===== -/
/-- a world in a row of ints -/
def WdR (g : Nat → Int32) (b : Nat) (W : Wd) : Prop := g b = nI W.1 ∧ g (b + 1) = nI W.2.1 ∧ ∀ c, c < 125 → g (b + 2 + c) = nI (W.2.2 c)
theorem WdR.kp {g g2 : Nat → Int32} {b : Nat} {W : Wd} (q : WdR g b W) (e : ∀ t, b ≤ t → t < b + 127 → g2 t = g t) : WdR g2 b W := by
  obtain ⟨q1, q2, q3⟩ := q
  exact ⟨(e _ (by omega) (by omega)).trans q1, (e _ (by omega) (by omega)).trans q2, fun c hc => (e _ (by omega) (by omega)).trans (q3 c hc)⟩
theorem WdR.mv {g g2 : Nat → Int32} {b b2 : Nat} {W : Wd} (q : WdR g b W) (e : ∀ k, k < 130 → g2 (b2 + k) = g (b + k)) : WdR g2 b2 W := by
  obtain ⟨q1, q2, q3⟩ := q
  refine ⟨(e 0 (by omega)).trans q1, (e 1 (by omega)).trans q2, fun c hc => ?_⟩
  have := e (2 + c) (by omega)
  rw [← Nat.add_assoc, ← Nat.add_assoc] at this
  exact this.trans (q3 c hc)
/-- the row of numbers tells a state -/
def WR (g : Nat → Int32) (x : Sx) : Prop := (∀ k, k < 6 → WdR g (130 * k) (x.ws k)) ∧ (∀ t, t < 15 → g (800 + t) = x.im t) ∧ g 820 = nI x.dn ∧ g 821 = nI x.un ∧ (∀ a, a < x.dn → g (830 + 131 * a) = nI (x.who a) ∧ WdR g (830 + 131 * a + 1) (x.ws (6 + a))) ∧ (∀ r, r < x.un → g (3450 + 131 * r) = nI (x.who (x.dn + x.un - 1 - r)) ∧ WdR g (3450 + 131 * r + 1) (x.ws (6 + (x.dn + x.un - 1 - r))))
section M3
variable {h : AH} {m p n q : Nat} {s : Ms} {g : Nat → Int32} {x : Sx}
theorem l_cop {sz fr to : Nat} (hM : MH h m p n q s) (hf : fr + 130 ≤ 6070) (ht : to + 130 ≤ 6070) (d : fr + 130 ≤ to ∨ to + 130 ≤ fr) :
    ∀ (t k : Nat), t = 130 - k → k ≤ 130 → ∀ g1, (∀ j, j < k → g1 (to + j) = g (fr + j)) → (∀ j, (j < to ∨ to + k ≤ j) → g1 j = g j) → VV MX11_copies sz (fun h' => ∃ g2, h' = hset h (m + 1) (aI 6070 g2) ∧ (∀ k, k < 130 → g2 (to + k) = g (fr + k)) ∧ ∀ t, (t < to ∨ to + 130 ≤ t) → g2 t = g t) (hset h (m + 1) (aI 6070 g1)) 2 [some (.ref m), some (.int (nI fr)), some (.int (nI to)), some (.int (nI k))] [] := by
  intro t
  induction t with
  | zero =>
    intro k e1 e2 g1 h1 h2
    have e' : k = 130 := by omega
    subst e'
    refine e_iload_n (pc := 2) dX11_copies_2 rfl rfl ?_
    refine n_sipush (pc := 3) 130 dX11_copies_3 (by decide) ?_
    refine n_icmp_ge (pc := 6) (tgt := 31) dX11_copies_6 (by decide) (by omega) (by omega) (fun hb_ => ?_) (fun c => absurd c (by omega))
    exact n_vret (pc := 31) dX11_copies_31 rfl ⟨g1, rfl, h1, h2⟩
  | succ t ih =>
    intro k e1 e2 g1 h1 h2
    have hM1 : MH (hset h (m + 1) (aI 6070 g1)) m p n q s := (hset_ne _ _ (by omega)).trans hM
    have z := h2 (fr + k) (by omega)
    refine e_iload_n (pc := 2) dX11_copies_2 rfl rfl ?_
    refine n_sipush (pc := 3) 130 dX11_copies_3 (by decide) ?_
    refine n_icmp_ge (pc := 6) (tgt := 31) dX11_copies_6 (by decide) (by omega) (by omega) (fun c => absurd c (by omega)) (fun hb_ => ?_)
    refine e_aload_n (pc := 9) dX11_copies_9 rfl rfl ?_
    refine e_get (pc := 10) fl_X11_7 dX11_copies_10 (by repeat (first | assumption | exact hset_eq _ _ _ | (apply WAt.hd; assumption) | rw [hset_ne _ _ (by omega)])) (by rfl) ?_
    refine e_iload_n (pc := 13) dX11_copies_13 rfl rfl ?_
    refine e_iload_n (pc := 14) dX11_copies_14 rfl rfl ?_
    refine n_iadd (pc := 15) dX11_copies_15 ?_
    refine e_aload_n (pc := 16) dX11_copies_16 rfl rfl ?_
    refine e_get (pc := 17) fl_X11_7 dX11_copies_17 (by repeat (first | assumption | exact hset_eq _ _ _ | (apply WAt.hd; assumption) | rw [hset_ne _ _ (by omega)])) (by rfl) ?_
    refine e_iload_n (pc := 20) dX11_copies_20 rfl rfl ?_
    refine e_iload_n (pc := 21) dX11_copies_21 rfl rfl ?_
    refine n_iadd (pc := 22) dX11_copies_22 ?_
    refine e_ialdN (pc := 23) (fr + k) dX11_copies_23 (by repeat (first | assumption | exact hset_eq _ _ _ | (apply WAt.hd; assumption) | rw [hset_ne _ _ (by omega)])) (by rfl) (by omega) (by first | decide | omega) ?_
    rw [z]
    refine e_iastN (pc := 24) (to + k) dX11_copies_24 (by repeat (first | assumption | exact hset_eq _ _ _ | (apply WAt.hd; assumption) | rw [hset_ne _ _ (by omega)])) (by rfl) (by omega) (by first | decide | omega) ?_
    refine e_heap (hset_hset h (m + 1) _ _) ?_
    refine n_inc (pc := 25) dX11_copies_25 rfl (by decide) ?_
    refine e_goto (pc := 28) (tgt := 2) dX11_copies_28 (by decide) ?_
    refine ih (k + 1) (by omega) (by omega) _ (fun j hj => ?_) (fun j hj => ?_)
    · by_cases e : j = k
      · subst e; rw [pk_us]
      · rw [pk_un (by omega)]; exact h1 j (by omega)
    · rw [pk_un (by omega)]; exact h2 j (by omega)
theorem c_X11_copies {fr to : Nat} (hM : MH h m p n q s) (hw : h (m + 1) = some (aI 6070 g)) (hf : fr + 130 ≤ 6070) (ht : to + 130 ≤ 6070) (d : fr + 130 ≤ to ∨ to + 130 ≤ fr) : CV yX11_copies MX11_copies [.ref m, .int (nI fr), .int (nI to)] h (fun h' => ∃ g2, h' = hset h (m + 1) (aI 6070 g2) ∧ (∀ k, k < 130 → g2 (to + k) = g (fr + k)) ∧ ∀ t, (t < to ∨ to + 130 ≤ t) → g2 t = g t) := by
  refine CV.ofV (by decide) rfl rfl (by simp [Value.category]) (by exact Nat.le_of_ble_eq_true rfl) (fun sz => ?_)
  refine n_iconst (pc := 0) 0 dX11_copies_0 (by decide) ?_
  refine e_istore_n (pc := 1) dX11_copies_1 rfl (by decide) ?_
  refine e_heap (hset_self hw).symm ?_
  exact l_cop hM hf ht d 130 0 rfl (Nat.zero_le _) g (fun j hj => absurd hj (Nat.not_lt_zero j)) (fun j _ => rfl)
/-- a row comes to the last ones -/
def Psh (g g2 : Nat → Int32) (mn row a d e : Nat) : Prop := ((d < 20 ∧ e = d) ∨ (d = 20 ∧ e = 19)) ∧ g2 mn = nI (e + 1) ∧ g2 (row + 131 * e) = nI a ∧ (∀ k, k < 130 → g2 (row + 131 * e + 1 + k) = g (130 * a + k)) ∧ (∀ t, t ≠ mn → (t < row ∨ row + 2620 ≤ t) → g2 t = g t) ∧ (∀ t, row ≤ t → t < row + 131 * e → g2 t = if d = 20 then g (t + 131) else g t)
theorem l_push {sz mn row a e d : Nat} {g1 : Nat → Int32} {v : Option Value} (hM : MH h m p n q s) (hmn : mn = 820 ∨ mn = 821) (hr : 830 ≤ row) (hr2 : row + 2620 ≤ 6070) (ha : a < 6) (he : (d < 20 ∧ e = d) ∨ (d = 20 ∧ e = 19)) (hg : g1 mn = nI e) (h1 : ∀ t, t ≠ mn → (t < row ∨ row + 2620 ≤ t) → g1 t = g t) (h2 : ∀ t, row ≤ t → t < row + 131 * e → g1 t = if d = 20 then g (t + 131) else g t) :
    VV MX11_pushes sz (fun h' => ∃ g2 e, h' = hset h (m + 1) (aI 6070 g2) ∧ Psh g g2 mn row a d e) (hset h (m + 1) (aI 6070 g1)) 58 [some (.ref m), some (.int (nI mn)), some (.int (nI row)), some (.int (nI a)), v] [] := by
  have hM1 : MH (hset h (m + 1) (aI 6070 g1)) m p n q s := (hset_ne _ _ (by omega)).trans hM
  refine e_iload_n (pc := 58) dX11_pushes_58 rfl rfl ?_
  refine n_sipush (pc := 59) 131 dX11_pushes_59 (by decide) ?_
  refine e_aload_n (pc := 62) dX11_pushes_62 rfl rfl ?_
  refine e_get (pc := 63) fl_X11_7 dX11_pushes_63 (by repeat (first | assumption | exact hset_eq _ _ _ | (apply WAt.hd; assumption) | rw [hset_ne _ _ (by omega)])) (by rfl) ?_
  refine e_iload_n (pc := 66) dX11_pushes_66 rfl rfl ?_
  refine e_ialdN (pc := 67) mn dX11_pushes_67 (by repeat (first | assumption | exact hset_eq _ _ _ | (apply WAt.hd; assumption) | rw [hset_ne _ _ (by omega)])) (by rfl) (by omega) (by first | decide | omega) ?_
  rw [hg]
  refine n_imul (pc := 68) dX11_pushes_68 ?_
  refine n_iadd (pc := 69) dX11_pushes_69 ?_
  refine e_istore (pc := 70) dX11_pushes_70 (by decide) ?_
  refine e_aload_n (pc := 72) dX11_pushes_72 rfl rfl ?_
  refine e_get (pc := 73) fl_X11_7 dX11_pushes_73 (by repeat (first | assumption | exact hset_eq _ _ _ | (apply WAt.hd; assumption) | rw [hset_ne _ _ (by omega)])) (by rfl) ?_
  refine e_iload (pc := 76) dX11_pushes_76 rfl ?_
  refine e_iload_n (pc := 78) dX11_pushes_78 rfl rfl ?_
  refine e_iastN (pc := 79) (row + 131 * e) dX11_pushes_79 (by repeat (first | assumption | exact hset_eq _ _ _ | (apply WAt.hd; assumption) | rw [hset_ne _ _ (by omega)])) (by rfl) (by omega) (by first | decide | omega) ?_
  refine e_heap (hset_hset h (m + 1) _ _) ?_
  have hM2 : MH (hset h (m + 1) (aI 6070 (upd g1 (row + 131 * e) (nI a)))) m p n q s := (hset_ne _ _ (by omega)).trans hM
  refine e_aload_n (pc := 80) dX11_pushes_80 rfl rfl ?_
  refine n_sipush (pc := 81) 130 dX11_pushes_81 (by decide) ?_
  refine e_iload_n (pc := 84) dX11_pushes_84 rfl rfl ?_
  refine n_imul (pc := 85) dX11_pushes_85 ?_
  refine e_iload (pc := 86) dX11_pushes_86 rfl ?_
  refine n_iconst (pc := 88) 1 dX11_pushes_88 (by decide) ?_
  refine n_iadd (pc := 89) dX11_pushes_89 ?_
  refine n_Vv (pc := 90) (c_X11_copies (fr := 130 * a) (to := row + 131 * e + 1) hM2 (hset_eq _ _ _) (by omega) (by omega) (by omega)) bX11_copies q_i_X11_copies q_s_X11_copies q_m_X11_131 dX11_pushes_90 rfl rfl (by repeat (first | assumption | exact hset_eq _ _ _ | (apply WAt.hd; assumption) | rw [hset_ne _ _ (by omega)])) rfl rfl (by exact Nat.le_of_ble_eq_true rfl) ⟨by decide, by decide⟩ ⟨rfl, rfl, Nat.zero_le _, Nat.zero_le _⟩ (fun h2 hp => ?_)
  obtain ⟨g3, rfl, p1, p2⟩ := hp
  refine e_heap (hset_hset h (m + 1) _ _) ?_
  have hM3 : MH (hset h (m + 1) (aI 6070 g3)) m p n q s := (hset_ne _ _ (by omega)).trans hM
  have z : g3 mn = nI e := by rw [p2 mn (by omega), pk_un (by omega), hg]
  refine e_aload_n (pc := 93) dX11_pushes_93 rfl rfl ?_
  refine e_get (pc := 94) fl_X11_7 dX11_pushes_94 (by repeat (first | assumption | exact hset_eq _ _ _ | (apply WAt.hd; assumption) | rw [hset_ne _ _ (by omega)])) (by rfl) ?_
  refine e_iload_n (pc := 97) dX11_pushes_97 rfl rfl ?_
  refine e_dup2 (pc := 98) dX11_pushes_98 rfl rfl ?_
  refine e_ialdN (pc := 99) mn dX11_pushes_99 (by repeat (first | assumption | exact hset_eq _ _ _ | (apply WAt.hd; assumption) | rw [hset_ne _ _ (by omega)])) (by rfl) (by omega) (by first | decide | omega) ?_
  rw [z]
  refine n_iconst (pc := 100) 1 dX11_pushes_100 (by decide) ?_
  refine n_iadd (pc := 101) dX11_pushes_101 ?_
  refine e_iastN (pc := 102) mn dX11_pushes_102 (by repeat (first | assumption | exact hset_eq _ _ _ | (apply WAt.hd; assumption) | rw [hset_ne _ _ (by omega)])) (by rfl) (by omega) (by first | decide | omega) ?_
  refine e_heap (hset_hset h (m + 1) _ _) ?_
  refine n_vret (pc := 103) dX11_pushes_103 rfl ⟨_, e, rfl, he, ?_, ?_, fun k hk => ?_, fun t t1 t2 => ?_, fun t t1 t2 => ?_⟩
  · rw [pk_us]
  · rw [pk_un (by omega), p2 _ (by omega), pk_us]
  · rw [pk_un (by omega), p1 k hk, pk_un (by omega)]
    exact h1 _ (by omega) (by omega)
  · rw [pk_un t1, p2 _ (by omega), pk_un (by omega)]
    exact h1 t t1 t2
  · rw [pk_un (by omega), p2 _ (by omega), pk_un (by omega)]
    exact h2 t t1 t2
theorem l_shift {sz mn row a : Nat} (hM : MH h m p n q s) (hmn : mn = 820 ∨ mn = 821) (hr : 830 ≤ row) (hr2 : row + 2620 ≤ 6070) (ha : a < 6) (hg : g mn = nI 20) :
    ∀ (t k : Nat), t = row + 2489 - k → row ≤ k → k ≤ row + 2489 → ∀ g1, (∀ j, row ≤ j → j < k → g1 j = g (j + 131)) → (∀ j, (j < row ∨ k ≤ j) → g1 j = g j) → VV MX11_pushes sz (fun h' => ∃ g2 e, h' = hset h (m + 1) (aI 6070 g2) ∧ Psh g g2 mn row a 20 e) (hset h (m + 1) (aI 6070 g1)) 14 [some (.ref m), some (.int (nI mn)), some (.int (nI row)), some (.int (nI a)), some (.int (nI k))] [] := by
  intro t
  induction t with
  | zero =>
    intro k e1 e2 e3 g1 h1 h2
    have e' : k = row + 2489 := by omega
    subst e'
    have hM1 : MH (hset h (m + 1) (aI 6070 g1)) m p n q s := (hset_ne _ _ (by omega)).trans hM
    have z := h2 mn (by omega)
    rw [hg] at z
    refine e_iload (pc := 14) dX11_pushes_14 rfl ?_
    refine e_iload_n (pc := 16) dX11_pushes_16 rfl rfl ?_
    refine n_sipush (pc := 17) 2489 dX11_pushes_17 (by decide) ?_
    refine n_iadd (pc := 20) dX11_pushes_20 ?_
    refine n_icmp_ge (pc := 21) (tgt := 48) dX11_pushes_21 (by decide) (by omega) (by omega) (fun hb_ => ?_) (fun c => absurd c (by omega))
    refine e_aload_n (pc := 48) dX11_pushes_48 rfl rfl ?_
    refine e_get (pc := 49) fl_X11_7 dX11_pushes_49 (by repeat (first | assumption | exact hset_eq _ _ _ | (apply WAt.hd; assumption) | rw [hset_ne _ _ (by omega)])) (by rfl) ?_
    refine e_iload_n (pc := 52) dX11_pushes_52 rfl rfl ?_
    refine e_dup2 (pc := 53) dX11_pushes_53 rfl rfl ?_
    refine e_ialdN (pc := 54) mn dX11_pushes_54 (by repeat (first | assumption | exact hset_eq _ _ _ | (apply WAt.hd; assumption) | rw [hset_ne _ _ (by omega)])) (by rfl) (by omega) (by first | decide | omega) ?_
    rw [z]
    refine n_iconst (pc := 55) 1 dX11_pushes_55 (by decide) ?_
    refine n_isub (pc := 56) dX11_pushes_56 (by omega) ?_
    refine e_iastN (pc := 57) mn dX11_pushes_57 (by repeat (first | assumption | exact hset_eq _ _ _ | (apply WAt.hd; assumption) | rw [hset_ne _ _ (by omega)])) (by rfl) (by omega) (by first | decide | omega) ?_
    refine e_heap (hset_hset h (m + 1) _ _) ?_
    refine l_push hM hmn hr hr2 ha (Or.inr ⟨rfl, rfl⟩) pk_us (fun t t1 t2 => ?_) (fun t t1 t2 => ?_)
    · rw [pk_un t1]; exact h2 t (by omega)
    · rw [pk_un (by omega), if_pos rfl]; exact h1 t t1 (by omega)
  | succ t ih =>
    intro k e1 e2 e3 g1 h1 h2
    have hM1 : MH (hset h (m + 1) (aI 6070 g1)) m p n q s := (hset_ne _ _ (by omega)).trans hM
    have z := h2 (k + 131) (by omega)
    refine e_iload (pc := 14) dX11_pushes_14 rfl ?_
    refine e_iload_n (pc := 16) dX11_pushes_16 rfl rfl ?_
    refine n_sipush (pc := 17) 2489 dX11_pushes_17 (by decide) ?_
    refine n_iadd (pc := 20) dX11_pushes_20 ?_
    refine n_icmp_ge (pc := 21) (tgt := 48) dX11_pushes_21 (by decide) (by omega) (by omega) (fun c => absurd c (by omega)) (fun hb_ => ?_)
    refine e_aload_n (pc := 24) dX11_pushes_24 rfl rfl ?_
    refine e_get (pc := 25) fl_X11_7 dX11_pushes_25 (by repeat (first | assumption | exact hset_eq _ _ _ | (apply WAt.hd; assumption) | rw [hset_ne _ _ (by omega)])) (by rfl) ?_
    refine e_iload (pc := 28) dX11_pushes_28 rfl ?_
    refine e_aload_n (pc := 30) dX11_pushes_30 rfl rfl ?_
    refine e_get (pc := 31) fl_X11_7 dX11_pushes_31 (by repeat (first | assumption | exact hset_eq _ _ _ | (apply WAt.hd; assumption) | rw [hset_ne _ _ (by omega)])) (by rfl) ?_
    refine e_iload (pc := 34) dX11_pushes_34 rfl ?_
    refine n_sipush (pc := 36) 131 dX11_pushes_36 (by decide) ?_
    refine n_iadd (pc := 39) dX11_pushes_39 ?_
    refine e_ialdN (pc := 40) (k + 131) dX11_pushes_40 (by repeat (first | assumption | exact hset_eq _ _ _ | (apply WAt.hd; assumption) | rw [hset_ne _ _ (by omega)])) (by rfl) (by omega) (by first | decide | omega) ?_
    rw [z]
    refine e_iastN (pc := 41) k dX11_pushes_41 (by repeat (first | assumption | exact hset_eq _ _ _ | (apply WAt.hd; assumption) | rw [hset_ne _ _ (by omega)])) (by rfl) (by omega) (by first | decide | omega) ?_
    refine e_heap (hset_hset h (m + 1) _ _) ?_
    refine n_inc (pc := 42) dX11_pushes_42 rfl (by decide) ?_
    refine e_goto (pc := 45) (tgt := 14) dX11_pushes_45 (by decide) ?_
    refine ih (k + 1) (by omega) (by omega) (by omega) _ (fun j j1 j2 => ?_) (fun j hj => ?_)
    · by_cases e : j = k
      · subst e; rw [pk_us]
      · rw [pk_un e]; exact h1 j j1 (by omega)
    · rw [pk_un (by omega)]; exact h2 j (by omega)
theorem c_X11_pushes {mn row a d : Nat} (hM : MH h m p n q s) (hw : h (m + 1) = some (aI 6070 g)) (hmn : mn = 820 ∨ mn = 821) (hr : 830 ≤ row) (hr2 : row + 2620 ≤ 6070) (ha : a < 6) (hg : g mn = nI d) (hd : d ≤ 20) : CV yX11_pushes MX11_pushes [.ref m, .int (nI mn), .int (nI row), .int (nI a)] h (fun h' => ∃ g2 e, h' = hset h (m + 1) (aI 6070 g2) ∧ Psh g g2 mn row a d e) := by
  refine CV.ofV (by decide) rfl rfl (by simp [Value.category]) (by exact Nat.le_of_ble_eq_true rfl) (fun sz => ?_)
  refine e_aload_n (pc := 0) dX11_pushes_0 rfl rfl ?_
  refine e_get (pc := 1) fl_X11_7 dX11_pushes_1 (by repeat (first | assumption | exact hset_eq _ _ _ | (apply WAt.hd; assumption) | rw [hset_ne _ _ (by omega)])) (by rfl) ?_
  refine e_iload_n (pc := 4) dX11_pushes_4 rfl rfl ?_
  refine e_ialdN (pc := 5) mn dX11_pushes_5 (by repeat (first | assumption | exact hset_eq _ _ _ | (apply WAt.hd; assumption) | rw [hset_ne _ _ (by omega)])) (by rfl) (by omega) (by first | decide | omega) ?_
  rw [hg]
  refine n_bipush (pc := 6) 20 dX11_pushes_6 (by decide) ?_
  refine n_icmp_ne (pc := 8) (tgt := 58) dX11_pushes_8 (by decide) (by omega) (by omega) (fun c => ?_) (fun c => ?_)
  · refine e_heap (hset_self hw).symm ?_
    exact l_push hM hmn hr hr2 ha (Or.inl ⟨by omega, rfl⟩) hg (fun _ _ _ => rfl) (fun t _ _ => by rw [if_neg c])
  · subst c
    refine e_iload_n (pc := 11) dX11_pushes_11 rfl rfl ?_
    refine e_istore (pc := 12) dX11_pushes_12 (by decide) ?_
    refine e_heap (hset_self hw).symm ?_
    exact l_shift hM hmn hr hr2 ha hg 2489 row (by omega) (Nat.le_refl _) (by omega) g (fun j j1 j2 => absurd j2 (by omega)) (fun j _ => rfl)
theorem c_X11_acts {a : Nat} (hM : MH h m p n q s) (hw : h (m + 1) = some (aI 6070 g)) (hx : SxOk x) (hg : WR g x) (ha : a < 6) : CV yX11_acts MX11_acts [.ref m, .int (nI a)] h (fun h' => ∃ g2, h' = hset h (m + 1) (aI 6070 g2) ∧ (∀ t, t < 800 → g2 t = g t) ∧ ∀ g3 W2, WdR g3 (130 * a) W2 → (∀ t, (t < 130 * a ∨ 130 * a + 127 ≤ t) → g3 t = g2 t) → WR g3 (x.tellW a W2)) := by
  obtain ⟨r1, r2, r3, r4, r5, r6⟩ := id hg
  have hu := hx.2.2.2
  refine CV.ofV (by decide) rfl rfl (by simp [Value.category]) (by exact Nat.le_of_ble_eq_true rfl) (fun sz => ?_)
  refine e_aload_n (pc := 0) dX11_acts_0 rfl rfl ?_
  refine n_sipush (pc := 1) 820 dX11_acts_1 (by decide) ?_
  refine n_sipush (pc := 4) 830 dX11_acts_4 (by decide) ?_
  refine e_iload_n (pc := 7) dX11_acts_7 rfl rfl ?_
  refine n_Vv (pc := 8) (c_X11_pushes (d := x.dn) hM hw (Or.inl rfl) (by omega) (by omega) ha r3 (by omega)) bX11_pushes q_i_X11_pushes q_s_X11_pushes q_m_X11_135 dX11_acts_8 rfl rfl (by repeat (first | assumption | exact hset_eq _ _ _ | (apply WAt.hd; assumption) | rw [hset_ne _ _ (by omega)])) rfl rfl (by exact Nat.le_of_ble_eq_true rfl) ⟨by decide, by decide⟩ ⟨rfl, rfl, Nat.zero_le _, Nat.zero_le _⟩ (fun h2 hp => ?_)
  obtain ⟨g2, e, rfl, q1, q2, q3, q4, q5, q6⟩ := hp
  have hM2 : MH (hset h (m + 1) (aI 6070 g2)) m p n q s := (hset_ne _ _ (by omega)).trans hM
  refine e_aload_n (pc := 11) dX11_acts_11 rfl rfl ?_
  refine e_get (pc := 12) fl_X11_7 dX11_acts_12 (by repeat (first | assumption | exact hset_eq _ _ _ | (apply WAt.hd; assumption) | rw [hset_ne _ _ (by omega)])) (by rfl) ?_
  refine n_sipush (pc := 15) 821 dX11_acts_15 (by decide) ?_
  refine n_iconst (pc := 18) 0 dX11_acts_18 (by decide) ?_
  refine e_iastN (pc := 19) 821 dX11_acts_19 (by repeat (first | assumption | exact hset_eq _ _ _ | (apply WAt.hd; assumption) | rw [hset_ne _ _ (by omega)])) (by rfl) (by omega) (by first | decide | omega) ?_
  refine e_heap (hset_hset h (m + 1) _ _) ?_
  refine n_vret (pc := 20) dX11_acts_20 rfl ⟨_, rfl, fun t ht => ?_, fun g3 W2 w1 w2 => ?_⟩
  · rw [pk_un (by omega)]; exact q5 t (by omega) (by omega)
  have lo : ∀ t, t < 830 → t ≠ 820 → t ≠ 821 → (t < 130 * a ∨ 130 * a + 127 ≤ t) → g3 t = g t := fun t t1 t2 t3 t4 => by
    rw [w2 t t4, pk_un t3]; exact q5 t t2 (by omega)
  have n1 : g3 820 = nI (e + 1) := by rw [w2 _ (by omega), pk_un (by decide)]; exact q2
  have n2 : g3 821 = nI 0 := by rw [w2 _ (by omega), pk_us]
  have hi : ∀ t, 830 ≤ t → g3 t = g2 t := fun t t1 => by rw [w2 t (by omega), pk_un (by omega)]
  have wk : ∀ k, k < 6 → WdR g3 (130 * k) (if k = a then W2 else x.ws k) := fun k hk => by
    by_cases c : k = a
    · subst c; rw [if_pos rfl]; exact w1
    · rw [if_neg c]
      exact (r1 k hk).kp (fun t t1 t2 => lo t (by omega) (by omega) (by omega) (by omega))
  have im : ∀ t, t < 15 → g3 (800 + t) = x.im t := fun t ht => (lo _ (by omega) (by omega) (by omega) (by omega)).trans (r2 t ht)
  have lst : g3 (830 + 131 * e) = nI a ∧ WdR g3 (830 + 131 * e + 1) (x.ws a) := ⟨(hi _ (by omega)).trans q3, (r1 a ha).mv (fun k hk => (hi _ (by omega)).trans (q4 k hk))⟩
  unfold Sx.tellW
  rcases q1 with ⟨c1, c2⟩ | ⟨c1, c2⟩
  · rw [if_neg (by omega)]
    subst c2
    refine ⟨fun k hk => ?_, im, n1, n2, fun b hb => ?_, fun r hr => absurd hr (Nat.not_lt_zero r)⟩
    · show WdR g3 (130 * k) (if k = a then W2 else if k = 6 + x.dn then x.1 a else x.1 k)
      rw [show (if k = 6 + x.dn then x.1 a else x.1 k) = x.ws k from if_neg (by omega)]
      exact wk k hk
    · have hb : b < x.dn + 1 := hb
      show g3 _ = nI (if b = x.dn then a else x.2.1 b) ∧ WdR g3 _ (if 6 + b = a then W2 else if 6 + b = 6 + x.dn then x.1 a else x.1 (6 + b))
      rw [if_neg (show ¬ 6 + b = a by omega)]
      by_cases c : b = x.dn
      · subst c
        rw [if_pos rfl, if_pos rfl]
        exact lst
      · rw [if_neg c, if_neg (by omega)]
        have k1 : ∀ t, 830 + 131 * b ≤ t → t < 830 + 131 * b + 131 → g3 t = g t := fun t t1 t2 => by
          rw [hi t (by omega), q6 t (by omega) (by omega), if_neg (by omega)]
        exact ⟨(k1 _ (by omega) (by omega)).trans (r5 b (by omega)).1, (r5 b (by omega)).2.kp (fun t t1 t2 => k1 t (by omega) (by omega))⟩
  · rw [if_pos c1]
    subst c2
    refine ⟨fun k hk => ?_, im, n1, n2, fun b hb => ?_, fun r hr => absurd hr (Nat.not_lt_zero r)⟩
    · show WdR g3 (130 * k) (if k = a then W2 else if k = 6 + 19 then x.1 (rot a) else x.1 (rot k))
      rw [show (if k = 6 + 19 then x.1 (rot a) else x.1 (rot k)) = x.1 (rot k) from if_neg (by omega), show rot k = k from if_pos hk]
      exact wk k hk
    · have hb : b < 19 + 1 := hb
      show g3 _ = nI (if b = 19 then a else if b < 19 then x.2.1 (b + 1) else x.2.1 b) ∧ WdR g3 _ (if 6 + b = a then W2 else if 6 + b = 6 + 19 then x.1 (rot a) else x.1 (rot (6 + b)))
      rw [if_neg (show ¬ 6 + b = a by omega)]
      by_cases c : b = 19
      · subst c
        rw [if_pos rfl, if_pos rfl, show rot a = a from if_pos ha]
        exact lst
      · rw [if_neg c, if_pos (show b < 19 by omega), if_neg (show ¬ 6 + b = 6 + 19 by omega), show rot (6 + b) = 6 + (b + 1) from by unfold rot; rw [if_neg (by omega), if_pos (by omega)]; omega]
        have k1 : ∀ t, 830 + 131 * b ≤ t → t < 830 + 131 * b + 131 → g3 t = g (t + 131) := fun t t1 t2 => by
          rw [hi t (by omega), q6 t (by omega) (by omega), if_pos c1]
        have e5 := r5 (b + 1) (by omega)
        refine ⟨(k1 _ (by omega) (by omega)).trans ((congrArg g (by omega)).trans e5.1), e5.2.mv (fun k hk => ?_)⟩
        rw [k1 _ (by omega) (by omega)]
        exact congrArg g (by omega)
theorem l_bec {sz a c : Nat} {W : Wd} {gc : Nat → Int32} (hM : MH h m p n q s) (hc : h c = some (aI 125 gc)) (hc2 : ∀ k, k < 125 → gc k = nI (W.2.2 k)) (hcm : c ≠ m + 1) (ha : a < 6) :
    ∀ (t k : Nat), t = 125 - k → k ≤ 125 → ∀ g1, (∀ j, j < k → g1 (130 * a + 2 + j) = nI (W.2.2 j)) → (∀ j, (j < 130 * a + 2 ∨ 130 * a + 2 + k ≤ j) → g1 j = g j) → VV MX11_becomes sz (fun h' => ∃ g2, h' = hset h (m + 1) (aI 6070 g2) ∧ (∀ j, j < 125 → g2 (130 * a + 2 + j) = nI (W.2.2 j)) ∧ ∀ j, (j < 130 * a + 2 ∨ 130 * a + 127 ≤ j) → g2 j = g j) (hset h (m + 1) (aI 6070 g1)) 39 [some (.ref m), some (.int (nI a)), some (.ref c), some (.int (nI k))] [] := by
  intro t
  induction t with
  | zero =>
    intro k e1 e2 g1 h1 h2
    have e' : k = 125 := by omega
    subst e'
    refine e_iload_n (pc := 39) dX11_becomes_39 rfl rfl ?_
    refine n_bipush (pc := 40) 125 dX11_becomes_40 (by decide) ?_
    refine n_icmp_ge (pc := 42) (tgt := 68) dX11_becomes_42 (by decide) (by omega) (by omega) (fun hb_ => ?_) (fun c => absurd c (by omega))
    exact n_vret (pc := 68) dX11_becomes_68 rfl ⟨g1, rfl, h1, h2⟩
  | succ t ih =>
    intro k e1 e2 g1 h1 h2
    have hM1 : MH (hset h (m + 1) (aI 6070 g1)) m p n q s := (hset_ne _ _ (by omega)).trans hM
    have z := hc2 k (by omega)
    refine e_iload_n (pc := 39) dX11_becomes_39 rfl rfl ?_
    refine n_bipush (pc := 40) 125 dX11_becomes_40 (by decide) ?_
    refine n_icmp_ge (pc := 42) (tgt := 68) dX11_becomes_42 (by decide) (by omega) (by omega) (fun c => absurd c (by omega)) (fun hb_ => ?_)
    refine e_aload_n (pc := 45) dX11_becomes_45 rfl rfl ?_
    refine e_get (pc := 46) fl_X11_7 dX11_becomes_46 (by repeat (first | assumption | exact hset_eq _ _ _ | (apply WAt.hd; assumption) | rw [hset_ne _ _ (by omega)])) (by rfl) ?_
    refine n_sipush (pc := 49) 130 dX11_becomes_49 (by decide) ?_
    refine e_iload_n (pc := 52) dX11_becomes_52 rfl rfl ?_
    refine n_imul (pc := 53) dX11_becomes_53 ?_
    refine n_iconst (pc := 54) 2 dX11_becomes_54 (by decide) ?_
    refine n_iadd (pc := 55) dX11_becomes_55 ?_
    refine e_iload_n (pc := 56) dX11_becomes_56 rfl rfl ?_
    refine n_iadd (pc := 57) dX11_becomes_57 ?_
    refine e_aload_n (pc := 58) dX11_becomes_58 rfl rfl ?_
    refine e_iload_n (pc := 59) dX11_becomes_59 rfl rfl ?_
    refine e_ialdN (pc := 60) k dX11_becomes_60 (by repeat (first | assumption | exact hset_eq _ _ _ | (apply WAt.hd; assumption) | rw [hset_ne _ _ (by omega)])) (by rfl) (by omega) (by first | decide | omega) ?_
    rw [z]
    refine e_iastN (pc := 61) (130 * a + 2 + k) dX11_becomes_61 (by repeat (first | assumption | exact hset_eq _ _ _ | (apply WAt.hd; assumption) | rw [hset_ne _ _ (by omega)])) (by rfl) (by omega) (by first | decide | omega) ?_
    refine e_heap (hset_hset h (m + 1) _ _) ?_
    refine n_inc (pc := 62) dX11_becomes_62 rfl (by decide) ?_
    refine e_goto (pc := 65) (tgt := 39) dX11_becomes_65 (by decide) ?_
    refine ih (k + 1) (by omega) (by omega) _ (fun j hj => ?_) (fun j hj => ?_)
    · by_cases e : j = k
      · subst e; rw [pk_us]
      · rw [pk_un (by omega)]; exact h1 j (by omega)
    · rw [pk_un (by omega)]; exact h2 j (by omega)
theorem c_X11_becomes {a c : Nat} {W : Wd} (hM : MH h m W.1 W.2.1 q s) (hw : h (m + 1) = some (aI 6070 g)) (hx : SxOk x) (hg : WR g x) (ha : a < 6) (hc : CuA h c W) (hcm : c ≠ m + 1) : CV yX11_becomes MX11_becomes [.ref m, .int (nI a), .ref c] h (fun h' => ∃ g2, h' = hset h (m + 1) (aI 6070 g2) ∧ WR g2 (x.tellW a W)) := by
  obtain ⟨gc, c1, c2⟩ := hc
  refine CV.ofV (by decide) rfl rfl (by simp [Value.category]) (by exact Nat.le_of_ble_eq_true rfl) (fun sz => ?_)
  refine e_aload_n (pc := 0) dX11_becomes_0 rfl rfl ?_
  refine e_iload_n (pc := 1) dX11_becomes_1 rfl rfl ?_
  refine n_Vv (pc := 2) (c_X11_acts hM hw hx hg ha) bX11_acts q_i_X11_acts q_s_X11_acts q_m_X11_139 dX11_becomes_2 rfl rfl (by repeat (first | assumption | exact hset_eq _ _ _ | (apply WAt.hd; assumption) | rw [hset_ne _ _ (by omega)])) rfl rfl (by exact Nat.le_of_ble_eq_true rfl) ⟨by decide, by decide⟩ ⟨rfl, rfl, Nat.zero_le _, Nat.zero_le _⟩ (fun h2 hp => ?_)
  obtain ⟨g2, rfl, q1, q2⟩ := hp
  have hM2 : MH (hset h (m + 1) (aI 6070 g2)) m W.1 W.2.1 q s := (hset_ne _ _ (by omega)).trans hM
  refine e_aload_n (pc := 5) dX11_becomes_5 rfl rfl ?_
  refine e_get (pc := 6) fl_X11_7 dX11_becomes_6 (by repeat (first | assumption | exact hset_eq _ _ _ | (apply WAt.hd; assumption) | rw [hset_ne _ _ (by omega)])) (by rfl) ?_
  refine n_sipush (pc := 9) 130 dX11_becomes_9 (by decide) ?_
  refine e_iload_n (pc := 12) dX11_becomes_12 rfl rfl ?_
  refine n_imul (pc := 13) dX11_becomes_13 ?_
  refine n_iconst (pc := 14) 0 dX11_becomes_14 (by decide) ?_
  refine n_iadd (pc := 15) dX11_becomes_15 ?_
  refine e_aload_n (pc := 16) dX11_becomes_16 rfl rfl ?_
  refine e_get (pc := 17) fl_X11_106 dX11_becomes_17 (by repeat (first | assumption | exact hset_eq _ _ _ | (apply WAt.hd; assumption) | rw [hset_ne _ _ (by omega)])) (by rfl) ?_
  refine e_iastN (pc := 20) (130 * a) dX11_becomes_20 (by repeat (first | assumption | exact hset_eq _ _ _ | (apply WAt.hd; assumption) | rw [hset_ne _ _ (by omega)])) (by rfl) (by omega) (by first | decide | omega) ?_
  refine e_heap (hset_hset h (m + 1) _ _) ?_
  have hM3 : MH (hset h (m + 1) (aI 6070 (upd g2 (130 * a) (nI W.1)))) m W.1 W.2.1 q s := (hset_ne _ _ (by omega)).trans hM
  refine e_aload_n (pc := 21) dX11_becomes_21 rfl rfl ?_
  refine e_get (pc := 22) fl_X11_7 dX11_becomes_22 (by repeat (first | assumption | exact hset_eq _ _ _ | (apply WAt.hd; assumption) | rw [hset_ne _ _ (by omega)])) (by rfl) ?_
  refine n_sipush (pc := 25) 130 dX11_becomes_25 (by decide) ?_
  refine e_iload_n (pc := 28) dX11_becomes_28 rfl rfl ?_
  refine n_imul (pc := 29) dX11_becomes_29 ?_
  refine n_iconst (pc := 30) 1 dX11_becomes_30 (by decide) ?_
  refine n_iadd (pc := 31) dX11_becomes_31 ?_
  refine e_aload_n (pc := 32) dX11_becomes_32 rfl rfl ?_
  refine e_get (pc := 33) fl_X11_109 dX11_becomes_33 (by repeat (first | assumption | exact hset_eq _ _ _ | (apply WAt.hd; assumption) | rw [hset_ne _ _ (by omega)])) (by rfl) ?_
  refine e_iastN (pc := 36) (130 * a + 1) dX11_becomes_36 (by repeat (first | assumption | exact hset_eq _ _ _ | (apply WAt.hd; assumption) | rw [hset_ne _ _ (by omega)])) (by rfl) (by omega) (by first | decide | omega) ?_
  refine e_heap (hset_hset h (m + 1) _ _) ?_
  refine n_iconst (pc := 37) 0 dX11_becomes_37 (by decide) ?_
  refine e_istore_n (pc := 38) dX11_becomes_38 rfl (by decide) ?_
  refine V.post ?_ (l_bec (g := upd (upd g2 (130 * a) (nI W.1)) (130 * a + 1) (nI W.2.1)) (W := W) hM c1 c2 hcm ha 125 0 rfl (Nat.zero_le _) _ (fun j hj => absurd hj (Nat.not_lt_zero j)) (fun j _ => rfl))
  intro r h' z qq
  obtain ⟨e1, e2, g4, rfl, e3, e4⟩ := qq
  refine ⟨e1, e2, g4, rfl, q2 g4 W ⟨?_, ?_, e3⟩ (fun t ht => ?_)⟩
  · rw [e4 _ (by omega), pk_un (by omega), pk_us]
  · rw [e4 _ (by omega), pk_us]
  · rw [e4 _ (by omega), pk_un (by omega), pk_un (by omega)]
end M3
