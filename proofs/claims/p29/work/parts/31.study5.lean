/-! ===== Study: nucleus, centre ===== -/
section SX
variable {h : AH} {E o : Nat} {W : Wd} {f : Int32}
def SJp (W : Wd) (w a b : Nat) (u : Nat → Nat) : Prop := ∀ x y k, x < W.2.1 → y < W.2.1 → k < W.2.1 → (x < a ∨ x = a ∧ y < b) → dot W.2.1 (fun i => dg W.1 (aJ W w i x y) k) u % W.1 = 0
theorem l_dj_b {sz w ow fi se a : Nat} {hh : AH} {g : Nat → Int32} {S : (Nat → Nat) → Prop} (hT : TSh hh E) (hW : WAt hh o W f) (hk : Wok W) (d : o + 3 ≤ E ∨ E + 89 ≤ o) (hg : hh (E + 86) = some (aI 125 g)) (hfi : fi ≤ 25 ∧ se ≤ 5 ∧ ow ≤ 25)
    (hx : ∀ x y t, x < W.2.1 → y < W.2.1 → t < W.2.1 → fi * x + se * y + ow * t < 125 ∧ g (fi * x + se * y + ow * t) = nI (aJ W w t x y)) (ha : a < W.2.1) {Pr : AH → Prop}
    (kk : ∀ h1, ES h1 E W.1 W.2.1 (fun u => S u ∧ SJp W w (a + 1) 0 u) → Ee E hh h1 → VV MX7_demandJoining sz Pr h1 93 [some (.ref (E + 83)), some (.ref o), none, some (.int (nI ow)), some (.int (nI fi)), some (.int (nI se)), some (.int (nI W.2.1)), some (.int (nI a)), none] []) :
    ∀ (n b : Nat), n = W.2.1 - b → b ≤ W.2.1 → ∀ h1, ES h1 E W.1 W.2.1 (fun u => S u ∧ SJp W w a b u) → Ee E hh h1 → VV MX7_demandJoining sz Pr h1 63 [some (.ref (E + 83)), some (.ref o), none, some (.int (nI ow)), some (.int (nI fi)), some (.int (nI se)), some (.int (nI W.2.1)), some (.int (nI a)), some (.int (nI b))] [] := by
  obtain ⟨b1, b2, b3, b4, b5⟩ := hk.b
  intro n
  induction n with
  | zero =>
    intro b e1 e2 h1 hE he
    have e' : b = W.2.1 := by omega
    subst e'
    refine e_iload (pc := 63) dX7_demandJoining_63 rfl ?_
    refine e_iload (pc := 65) dX7_demandJoining_65 rfl ?_
    refine n_icmp_ge (pc := 67) (tgt := 93) dX7_demandJoining_67 (by decide) (by omega) (by omega) (fun hb_ => ?_) (fun c => absurd c (by omega))
    refine V.mask [true, true, false, true, true, true, true, true, false] ?_
    exact kk h1 (hE.congr (fun u => ⟨fun ⟨q, q2⟩ => ⟨q, fun x y k hx hy hk2 c => q2 x y k hx hy hk2 (by omega)⟩, fun ⟨q, q2⟩ => ⟨q, fun x y k hx hy hk2 c => q2 x y k hx hy hk2 (by omega)⟩⟩)) he
  | succ n ih =>
    intro b e1 e2 h1 hE he
    have hb : b < W.2.1 := by omega
    have hW1 : WAt h1 o W f := hW.er he.er (by omega)
    have hT1 : TSh h1 E := hT.ee hE.sh he
    obtain ⟨-, t0, -⟩ := id hT1
    have s1 := (hx a b 0 ha hb (by omega)).1
    refine e_iload (pc := 63) dX7_demandJoining_63 rfl ?_
    refine e_iload (pc := 65) dX7_demandJoining_65 rfl ?_
    refine n_icmp_ge (pc := 67) (tgt := 93) dX7_demandJoining_67 (by decide) (by omega) (by omega) (fun c => absurd c (by omega)) (fun hb_ => ?_)
    refine e_aload_n (pc := 70) dX7_demandJoining_70 rfl rfl ?_
    refine e_aload_n (pc := 71) dX7_demandJoining_71 rfl rfl ?_
    refine e_iload (pc := 72) dX7_demandJoining_72 rfl ?_
    refine e_iload (pc := 74) dX7_demandJoining_74 rfl ?_
    refine n_imul (pc := 76) dX7_demandJoining_76 ?_
    refine e_iload (pc := 77) dX7_demandJoining_77 rfl ?_
    refine e_iload (pc := 79) dX7_demandJoining_79 rfl ?_
    refine n_imul (pc := 81) dX7_demandJoining_81 ?_
    refine n_iadd (pc := 82) dX7_demandJoining_82 ?_
    refine e_iload_n (pc := 83) dX7_demandJoining_83 rfl rfl ?_
    refine n_Vv (pc := 84) (c_X7_demandNought (D := fun t => aJ W w t a b) (g := g) hT1 hW1 hk d ((he _ (by omega)).trans hg) (fun t ht => ⟨(hx a b t ha hb ht).2, by have := aJ_lt hk w t a b; omega⟩) (fun t ht => (hx a b t ha hb ht).1) (by omega) hE) bX7_demandNought q_i_X7_demandNought q_s_X7_demandNought q_m_X7_132 dX7_demandJoining_84 rfl rfl (by repeat (first | assumption | exact hset_eq _ _ _ | rw [hset_ne _ _ (by omega)])) rfl rfl (by exact Nat.le_of_ble_eq_true rfl) ⟨by decide, by decide⟩ ⟨rfl, rfl, Nat.zero_le _, Nat.zero_le _⟩ (fun h2 hp => ?_)
    obtain ⟨p1, p2⟩ := hp
    refine n_inc (pc := 87) dX7_demandJoining_87 rfl (by decide) ?_
    refine e_goto (pc := 90) (tgt := 63) dX7_demandJoining_90 (by decide) ?_
    refine ih (b + 1) (by omega) (by omega) h2 (p1.congr (fun u => ⟨fun ⟨⟨q, q2⟩, q3⟩ => ⟨q, fun x y k hx hy hk2 c => ?_⟩, fun ⟨q, q2⟩ => ⟨⟨q, fun x y k hx hy hk2 c => q2 x y k hx hy hk2 (by omega)⟩, fun k hk2 => q2 a b k ha hb hk2 (by omega)⟩⟩)) (he.tr p2)
    by_cases e : x = a ∧ y = b
    · obtain ⟨rfl, rfl⟩ := e
      exact q3 k hk2
    · exact q2 x y k hx hy hk2 (by omega)
theorem l_dj_a {sz w ow fi se : Nat} {hh : AH} {g : Nat → Int32} {S : (Nat → Nat) → Prop} (hT : TSh hh E) (hW : WAt hh o W f) (hk : Wok W) (d : o + 3 ≤ E ∨ E + 89 ≤ o) (hg : hh (E + 86) = some (aI 125 g)) (hfi : fi ≤ 25 ∧ se ≤ 5 ∧ ow ≤ 25)
    (hx : ∀ x y t, x < W.2.1 → y < W.2.1 → t < W.2.1 → fi * x + se * y + ow * t < 125 ∧ g (fi * x + se * y + ow * t) = nI (aJ W w t x y)) :
    ∀ (n a : Nat), n = W.2.1 - a → a ≤ W.2.1 → ∀ h1, ES h1 E W.1 W.2.1 (fun u => S u ∧ SJp W w a 0 u) → Ee E hh h1 → VV MX7_demandJoining sz (fun h' => ES h' E W.1 W.2.1 (fun u => S u ∧ SJ W w u) ∧ Ee E hh h') h1 53 [some (.ref (E + 83)), some (.ref o), none, some (.int (nI ow)), some (.int (nI fi)), some (.int (nI se)), some (.int (nI W.2.1)), some (.int (nI a)), none] [] := by
  obtain ⟨b1, b2, b3, b4, b5⟩ := hk.b
  intro n
  induction n with
  | zero =>
    intro a e1 e2 h1 hE he
    have e' : a = W.2.1 := by omega
    subst e'
    refine e_iload (pc := 53) dX7_demandJoining_53 rfl ?_
    refine e_iload (pc := 55) dX7_demandJoining_55 rfl ?_
    refine n_icmp_ge (pc := 57) (tgt := 99) dX7_demandJoining_57 (by decide) (by omega) (by omega) (fun hb_ => ?_) (fun c => absurd c (by omega))
    exact n_vret (pc := 99) dX7_demandJoining_99 rfl ⟨hE.congr (fun u => ⟨fun ⟨q, q2⟩ => ⟨q, fun x y k hx hy hk2 => q2 x y k hx hy hk2 (by omega)⟩, fun ⟨q, q2⟩ => ⟨q, fun x y k hx hy hk2 _ => q2 x y k hx hy hk2⟩⟩), he⟩
  | succ n ih =>
    intro a e1 e2 h1 hE he
    refine e_iload (pc := 53) dX7_demandJoining_53 rfl ?_
    refine e_iload (pc := 55) dX7_demandJoining_55 rfl ?_
    refine n_icmp_ge (pc := 57) (tgt := 99) dX7_demandJoining_57 (by decide) (by omega) (by omega) (fun c => absurd c (by omega)) (fun hb_ => ?_)
    refine n_iconst (pc := 60) 0 dX7_demandJoining_60 (by decide) ?_
    refine e_istore (pc := 61) dX7_demandJoining_61 (by decide) ?_
    refine l_dj_b (hh := hh) (g := g) (S := S) hT hW hk d hg hfi hx hb_ (fun h3 hE3 he3 => ?_) W.2.1 0 rfl (Nat.zero_le _) h1 hE he
    refine n_inc (pc := 93) dX7_demandJoining_93 rfl (by decide) ?_
    refine e_goto (pc := 96) (tgt := 53) dX7_demandJoining_96 (by decide) ?_
    exact ih (a + 1) (by omega) (by omega) h3 hE3 he3
theorem c_X7_demandJoining {w : Nat} {S : (Nat → Nat) → Prop} (hw : w < 3) (hT : TSh h E) (hW : WAt h o W f) (hk : Wok W) (d : o + 3 ≤ E ∨ E + 89 ≤ o) (hD : DAt h E W) (hE : ES h E W.1 W.2.1 S) : CV yX7_demandJoining MX7_demandJoining [.ref (E + 83), .ref o, .int (nI w)] h (fun h' => ES h' E W.1 W.2.1 (fun u => S u ∧ SJ W w u) ∧ Ee E h h') := by
  obtain ⟨b1, b2, b3, b4, b5⟩ := hk.b
  obtain ⟨w0, -, -⟩ := id hW
  obtain ⟨g, g1, g2⟩ := id hD
  have hE0 : ES h E W.1 W.2.1 (fun u => S u ∧ SJp W w 0 0 u) := hE.congr (fun u => ⟨fun q => ⟨q, fun x y k hx hy hk2 c => absurd c (by omega)⟩, fun q => q.1⟩)
  refine CV.ofV (by decide) rfl rfl (by simp [Value.category]) (by exact Nat.le_of_ble_eq_true rfl) (fun sz => ?_)
  obtain rfl | rfl | rfl : w = 0 ∨ w = 1 ∨ w = 2 := by omega
  · refine e_iload_n (pc := 0) dX7_demandJoining_0 rfl rfl ?_
    refine n_if_ne (pc := 1) (tgt := 9) dX7_demandJoining_1 (by decide) (by omega) (fun c => absurd c (by omega)) (fun hb_ => ?_)
    refine n_bipush (pc := 4) 25 dX7_demandJoining_4 (by decide) ?_
    refine e_goto (pc := 6) (tgt := 19) dX7_demandJoining_6 (by decide) ?_
    refine e_istore_n (pc := 19) dX7_demandJoining_19 rfl (by decide) ?_
    refine e_iload_n (pc := 20) dX7_demandJoining_20 rfl rfl ?_
    refine n_if_ne (pc := 21) (tgt := 28) dX7_demandJoining_21 (by decide) (by omega) (fun c => absurd c (by omega)) (fun hb_ => ?_)
    refine n_iconst (pc := 24) 5 dX7_demandJoining_24 (by decide) ?_
    refine e_goto (pc := 25) (tgt := 30) dX7_demandJoining_25 (by decide) ?_
    refine e_istore (pc := 30) dX7_demandJoining_30 (by decide) ?_
    refine e_iload_n (pc := 32) dX7_demandJoining_32 rfl rfl ?_
    refine n_iconst (pc := 33) 2 dX7_demandJoining_33 (by decide) ?_
    refine n_icmp_ne (pc := 34) (tgt := 41) dX7_demandJoining_34 (by decide) (by omega) (by omega) (fun hb_ => ?_) (fun c => absurd c (by omega))
    refine n_iconst (pc := 41) 1 dX7_demandJoining_41 (by decide) ?_
    refine e_istore (pc := 42) dX7_demandJoining_42 (by decide) ?_
    refine e_aload_n (pc := 44) dX7_demandJoining_44 rfl rfl ?_
    refine n_VP (pc := 45) (c_X9_size hW) bX9_size q_i_X9_size q_s_X9_size q_m_X7_70 dX7_demandJoining_45 rfl rfl (by repeat (first | assumption | exact hset_eq _ _ _ | rw [hset_ne _ _ (by omega)])) rfl rfl (by exact Nat.le_of_ble_eq_true rfl) ⟨by decide, by decide⟩ ⟨rfl, rfl, Nat.zero_le _, Nat.zero_le _⟩ ?_
    refine e_istore (pc := 48) dX7_demandJoining_48 (by decide) ?_
    refine n_iconst (pc := 50) 0 dX7_demandJoining_50 (by decide) ?_
    refine e_istore (pc := 51) dX7_demandJoining_51 (by decide) ?_
    refine V.mask [true, true, false, true, true, true, true, true, false] ?_
    refine l_dj_a (S := S) hT hW hk d g1 (by omega) (fun x y t hx hy ht => ⟨by omega, ?_⟩) W.2.1 0 rfl (Nat.zero_le _) h hE0 (Ee.rf E h)
    rw [show 5 * x + 1 * y + 25 * t = 25 * t + 5 * x + y by omega]
    exact g2 t x y ht hx hy
  · refine e_iload_n (pc := 0) dX7_demandJoining_0 rfl rfl ?_
    refine n_if_ne (pc := 1) (tgt := 9) dX7_demandJoining_1 (by decide) (by omega) (fun hb_ => ?_) (fun c => absurd c (by omega))
    refine e_iload_n (pc := 9) dX7_demandJoining_9 rfl rfl ?_
    refine n_iconst (pc := 10) 1 dX7_demandJoining_10 (by decide) ?_
    refine n_icmp_ne (pc := 11) (tgt := 18) dX7_demandJoining_11 (by decide) (by omega) (by omega) (fun c => absurd c (by omega)) (fun hb_ => ?_)
    refine n_iconst (pc := 14) 5 dX7_demandJoining_14 (by decide) ?_
    refine e_goto (pc := 15) (tgt := 19) dX7_demandJoining_15 (by decide) ?_
    refine e_istore_n (pc := 19) dX7_demandJoining_19 rfl (by decide) ?_
    refine e_iload_n (pc := 20) dX7_demandJoining_20 rfl rfl ?_
    refine n_if_ne (pc := 21) (tgt := 28) dX7_demandJoining_21 (by decide) (by omega) (fun hb_ => ?_) (fun c => absurd c (by omega))
    refine n_bipush (pc := 28) 25 dX7_demandJoining_28 (by decide) ?_
    refine e_istore (pc := 30) dX7_demandJoining_30 (by decide) ?_
    refine e_iload_n (pc := 32) dX7_demandJoining_32 rfl rfl ?_
    refine n_iconst (pc := 33) 2 dX7_demandJoining_33 (by decide) ?_
    refine n_icmp_ne (pc := 34) (tgt := 41) dX7_demandJoining_34 (by decide) (by omega) (by omega) (fun hb_ => ?_) (fun c => absurd c (by omega))
    refine n_iconst (pc := 41) 1 dX7_demandJoining_41 (by decide) ?_
    refine e_istore (pc := 42) dX7_demandJoining_42 (by decide) ?_
    refine e_aload_n (pc := 44) dX7_demandJoining_44 rfl rfl ?_
    refine n_VP (pc := 45) (c_X9_size hW) bX9_size q_i_X9_size q_s_X9_size q_m_X7_70 dX7_demandJoining_45 rfl rfl (by repeat (first | assumption | exact hset_eq _ _ _ | rw [hset_ne _ _ (by omega)])) rfl rfl (by exact Nat.le_of_ble_eq_true rfl) ⟨by decide, by decide⟩ ⟨rfl, rfl, Nat.zero_le _, Nat.zero_le _⟩ ?_
    refine e_istore (pc := 48) dX7_demandJoining_48 (by decide) ?_
    refine n_iconst (pc := 50) 0 dX7_demandJoining_50 (by decide) ?_
    refine e_istore (pc := 51) dX7_demandJoining_51 (by decide) ?_
    refine V.mask [true, true, false, true, true, true, true, true, false] ?_
    refine l_dj_a (S := S) hT hW hk d g1 (by omega) (fun x y t hx hy ht => ⟨by omega, ?_⟩) W.2.1 0 rfl (Nat.zero_le _) h hE0 (Ee.rf E h)
    rw [show 25 * x + 1 * y + 5 * t = 25 * x + 5 * t + y by omega]
    exact g2 x t y hx ht hy
  · refine e_iload_n (pc := 0) dX7_demandJoining_0 rfl rfl ?_
    refine n_if_ne (pc := 1) (tgt := 9) dX7_demandJoining_1 (by decide) (by omega) (fun hb_ => ?_) (fun c => absurd c (by omega))
    refine e_iload_n (pc := 9) dX7_demandJoining_9 rfl rfl ?_
    refine n_iconst (pc := 10) 1 dX7_demandJoining_10 (by decide) ?_
    refine n_icmp_ne (pc := 11) (tgt := 18) dX7_demandJoining_11 (by decide) (by omega) (by omega) (fun hb_ => ?_) (fun c => absurd c (by omega))
    refine n_iconst (pc := 18) 1 dX7_demandJoining_18 (by decide) ?_
    refine e_istore_n (pc := 19) dX7_demandJoining_19 rfl (by decide) ?_
    refine e_iload_n (pc := 20) dX7_demandJoining_20 rfl rfl ?_
    refine n_if_ne (pc := 21) (tgt := 28) dX7_demandJoining_21 (by decide) (by omega) (fun hb_ => ?_) (fun c => absurd c (by omega))
    refine n_bipush (pc := 28) 25 dX7_demandJoining_28 (by decide) ?_
    refine e_istore (pc := 30) dX7_demandJoining_30 (by decide) ?_
    refine e_iload_n (pc := 32) dX7_demandJoining_32 rfl rfl ?_
    refine n_iconst (pc := 33) 2 dX7_demandJoining_33 (by decide) ?_
    refine n_icmp_ne (pc := 34) (tgt := 41) dX7_demandJoining_34 (by decide) (by omega) (by omega) (fun c => absurd c (by omega)) (fun hb_ => ?_)
    refine n_iconst (pc := 37) 5 dX7_demandJoining_37 (by decide) ?_
    refine e_goto (pc := 38) (tgt := 42) dX7_demandJoining_38 (by decide) ?_
    refine e_istore (pc := 42) dX7_demandJoining_42 (by decide) ?_
    refine e_aload_n (pc := 44) dX7_demandJoining_44 rfl rfl ?_
    refine n_VP (pc := 45) (c_X9_size hW) bX9_size q_i_X9_size q_s_X9_size q_m_X7_70 dX7_demandJoining_45 rfl rfl (by repeat (first | assumption | exact hset_eq _ _ _ | rw [hset_ne _ _ (by omega)])) rfl rfl (by exact Nat.le_of_ble_eq_true rfl) ⟨by decide, by decide⟩ ⟨rfl, rfl, Nat.zero_le _, Nat.zero_le _⟩ ?_
    refine e_istore (pc := 48) dX7_demandJoining_48 (by decide) ?_
    refine n_iconst (pc := 50) 0 dX7_demandJoining_50 (by decide) ?_
    refine e_istore (pc := 51) dX7_demandJoining_51 (by decide) ?_
    refine V.mask [true, true, false, true, true, true, true, true, false] ?_
    refine l_dj_a (S := S) hT hW hk d g1 (by omega) (fun x y t hx hy ht => ⟨by omega, ?_⟩) W.2.1 0 rfl (Nat.zero_le _) h hE0 (Ee.rf E h)
    rw [Nat.one_mul]
    exact g2 x y t hx hy ht
def cC (W : Wd) (i j k : Nat) : Nat := (W.1 + W.2.2 (25 * i + 5 * j + k) - W.2.2 (25 * j + 5 * i + k)) % W.1
def SCp (W : Wd) (a b : Nat) (u : Nat → Nat) : Prop := ∀ j k, j < W.2.1 → k < W.2.1 → (j < a ∨ j = a ∧ k < b) → dot W.2.1 (fun i => cC W i j k) u % W.1 = 0
theorem l_dc_i {sz j k r : Nat} {hh : AH} {led : Nat → Bool} {rows : Nat → Nat → Nat} (hT : TSh hh E) (hW : WAt hh o W f) (hk : Wok W) (d : o + 3 ≤ E ∨ E + 89 ≤ o) (hj : j < W.2.1) (hkk : k < W.2.1) {Pr : AH → Prop}
    (kk : ∀ h1, EAt h1 E W.1 W.2.1 r led rows (fun t => cC W t j k) → Ee E hh h1 → VV MX7_demandCommuting sz Pr h1 69 [some (.ref (E + 83)), some (.ref o), some (.int (nI W.2.1)), some (.int (nI j)), some (.int (nI k)), none] []) :
    ∀ (n i : Nat), n = W.2.1 - i → i ≤ W.2.1 → ∀ h1, EAt h1 E W.1 W.2.1 r led rows (fun t => if t < i then cC W t j k else 0) → Ee E hh h1 → VV MX7_demandCommuting sz Pr h1 24 [some (.ref (E + 83)), some (.ref o), some (.int (nI W.2.1)), some (.int (nI j)), some (.int (nI k)), some (.int (nI i))] [] := by
  obtain ⟨b1, b2, b3, b4, b5⟩ := hk.b
  intro n
  induction n with
  | zero =>
    intro i e1 e2 h1 hE he
    have e' : i = W.2.1 := by omega
    subst e'
    refine e_iload (pc := 24) dX7_demandCommuting_24 rfl ?_
    refine e_iload_n (pc := 26) dX7_demandCommuting_26 rfl rfl ?_
    refine n_icmp_ge (pc := 27) (tgt := 69) dX7_demandCommuting_27 (by decide) (by omega) (by omega) (fun hb_ => ?_) (fun c => absurd c (by omega))
    refine V.mask [true, true, true, true, true, false] ?_
    exact kk h1 (hE.nxc (fun c hc => if_pos hc)) he
  | succ n ih =>
    intro i e1 e2 h1 hE he
    have hi : i < W.2.1 := by omega
    have c1 := hk.c (25 * i + 5 * j + k)
    have c2 := hk.c (25 * j + 5 * i + k)
    have hW1 : WAt h1 o W f := hW.er he.er (by omega)
    obtain ⟨w0, -, -⟩ := id hW1
    have t0 := (he (E + 83) (by omega)).trans hT.2.1
    obtain ⟨z0, -, -, -, -⟩ := id hE
    refine e_iload (pc := 24) dX7_demandCommuting_24 rfl ?_
    refine e_iload_n (pc := 26) dX7_demandCommuting_26 rfl rfl ?_
    refine n_icmp_ge (pc := 27) (tgt := 69) dX7_demandCommuting_27 (by decide) (by omega) (by omega) (fun c => absurd c (by omega)) (fun hb_ => ?_)
    refine e_aload_n (pc := 30) dX7_demandCommuting_30 rfl rfl ?_
    refine e_get (pc := 31) fl_X7_28 dX7_demandCommuting_31 (by repeat (first | assumption | exact hset_eq _ _ _ | rw [hset_ne _ _ (by omega)])) (by rfl) ?_
    refine e_iload (pc := 34) dX7_demandCommuting_34 rfl ?_
    refine e_aload_n (pc := 36) dX7_demandCommuting_36 rfl rfl ?_
    refine n_VP (pc := 37) (c_X9_prime hW1) bX9_prime q_i_X9_prime q_s_X9_prime q_m_X7_81 dX7_demandCommuting_37 rfl rfl (by repeat (first | assumption | exact hset_eq _ _ _ | rw [hset_ne _ _ (by omega)])) rfl rfl (by exact Nat.le_of_ble_eq_true rfl) ⟨by decide, by decide⟩ ⟨rfl, rfl, Nat.zero_le _, Nat.zero_le _⟩ ?_
    refine e_aload_n (pc := 40) dX7_demandCommuting_40 rfl rfl ?_
    refine e_iload (pc := 41) dX7_demandCommuting_41 rfl ?_
    refine e_iload_n (pc := 43) dX7_demandCommuting_43 rfl rfl ?_
    refine e_iload (pc := 44) dX7_demandCommuting_44 rfl ?_
    refine n_VP (pc := 46) (c_X9_cell hW1 hk hi hj hkk) bX9_cell q_i_X9_cell q_s_X9_cell q_m_X7_143 dX7_demandCommuting_46 rfl rfl (by repeat (first | assumption | exact hset_eq _ _ _ | rw [hset_ne _ _ (by omega)])) rfl rfl (by exact Nat.le_of_ble_eq_true rfl) ⟨by decide, by decide⟩ ⟨rfl, rfl, Nat.zero_le _, Nat.zero_le _⟩ ?_
    refine n_iadd (pc := 49) dX7_demandCommuting_49 ?_
    refine e_aload_n (pc := 50) dX7_demandCommuting_50 rfl rfl ?_
    refine e_iload_n (pc := 51) dX7_demandCommuting_51 rfl rfl ?_
    refine e_iload (pc := 52) dX7_demandCommuting_52 rfl ?_
    refine e_iload (pc := 54) dX7_demandCommuting_54 rfl ?_
    refine n_VP (pc := 56) (c_X9_cell hW1 hk hj hi hkk) bX9_cell q_i_X9_cell q_s_X9_cell q_m_X7_143 dX7_demandCommuting_56 rfl rfl (by repeat (first | assumption | exact hset_eq _ _ _ | rw [hset_ne _ _ (by omega)])) rfl rfl (by exact Nat.le_of_ble_eq_true rfl) ⟨by decide, by decide⟩ ⟨rfl, rfl, Nat.zero_le _, Nat.zero_le _⟩ ?_
    refine n_isub (pc := 59) dX7_demandCommuting_59 (by omega) ?_
    refine n_Vv (pc := 60) (c_X0_add hE (by omega) (by omega) hi (show W.1 + W.2.2 (25 * i + 5 * j + k) - W.2.2 (25 * j + 5 * i + k) < 2 ^ 30 by omega) (by rw [if_neg (Nat.lt_irrefl i)]; omega)) bX0_add q_i_X0_add q_s_X0_add q_m_X7_136 dX7_demandCommuting_60 rfl rfl (by repeat (first | assumption | exact hset_eq _ _ _ | rw [hset_ne _ _ (by omega)])) rfl rfl (by exact Nat.le_of_ble_eq_true rfl) ⟨by decide, by decide⟩ ⟨rfl, rfl, Nat.zero_le _, Nat.zero_le _⟩ (fun h2 hp => ?_)
    obtain ⟨p1, p2⟩ := hp
    refine n_inc (pc := 63) dX7_demandCommuting_63 rfl (by decide) ?_
    refine e_goto (pc := 66) (tgt := 24) dX7_demandCommuting_66 (by decide) ?_
    refine ih (i + 1) (by omega) (by omega) h2 (p1.nxc (fun t ht => ?_)) (he.tr p2)
    by_cases e : t = i
    · subst e
      rw [if_pos rfl, if_neg (Nat.lt_irrefl t), if_pos (by omega), Nat.zero_add]
      rfl
    · rw [if_neg e]
      by_cases e3 : t < i
      · rw [if_pos e3, if_pos (by omega)]
      · rw [if_neg e3, if_neg (by omega)]
theorem l_dc_k {sz j : Nat} {hh : AH} {S : (Nat → Nat) → Prop} (hT : TSh hh E) (hW : WAt hh o W f) (hk : Wok W) (d : o + 3 ≤ E ∨ E + 89 ≤ o) (hj : j < W.2.1) {Pr : AH → Prop}
    (kk : ∀ h1, ES h1 E W.1 W.2.1 (fun u => S u ∧ SCp W (j + 1) 0 u) → Ee E hh h1 → VV MX7_demandCommuting sz Pr h1 83 [some (.ref (E + 83)), some (.ref o), some (.int (nI W.2.1)), some (.int (nI j)), none, none] []) :
    ∀ (n k : Nat), n = W.2.1 - k → k ≤ W.2.1 → ∀ h1, ES h1 E W.1 W.2.1 (fun u => S u ∧ SCp W j k u) → Ee E hh h1 → VV MX7_demandCommuting sz Pr h1 15 [some (.ref (E + 83)), some (.ref o), some (.int (nI W.2.1)), some (.int (nI j)), some (.int (nI k)), none] [] := by
  obtain ⟨b1, b2, b3, b4, b5⟩ := hk.b
  intro n
  induction n with
  | zero =>
    intro k e1 e2 h1 hE he
    have e' : k = W.2.1 := by omega
    subst e'
    refine e_iload (pc := 15) dX7_demandCommuting_15 rfl ?_
    refine e_iload_n (pc := 17) dX7_demandCommuting_17 rfl rfl ?_
    refine n_icmp_ge (pc := 18) (tgt := 83) dX7_demandCommuting_18 (by decide) (by omega) (by omega) (fun hb_ => ?_) (fun c => absurd c (by omega))
    refine V.mask [true, true, true, true, false, false] ?_
    exact kk h1 (hE.congr (fun u => ⟨fun ⟨q, q2⟩ => ⟨q, fun x k hx hk2 c => q2 x k hx hk2 (by omega)⟩, fun ⟨q, q2⟩ => ⟨q, fun x k hx hk2 c => q2 x k hx hk2 (by omega)⟩⟩)) he
  | succ n ih =>
    intro k e1 e2 h1 hE he
    have hkk : k < W.2.1 := by omega
    obtain ⟨r, led, rows, a1, a2, a3, a4⟩ := hE
    refine e_iload (pc := 15) dX7_demandCommuting_15 rfl ?_
    refine e_iload_n (pc := 17) dX7_demandCommuting_17 rfl rfl ?_
    refine n_icmp_ge (pc := 18) (tgt := 83) dX7_demandCommuting_18 (by decide) (by omega) (by omega) (fun c => absurd c (by omega)) (fun hb_ => ?_)
    refine n_iconst (pc := 21) 0 dX7_demandCommuting_21 (by decide) ?_
    refine e_istore (pc := 22) dX7_demandCommuting_22 (by decide) ?_
    refine l_dc_i (hh := hh) (r := r) (led := led) (rows := rows) hT hW hk d hj hkk (fun h3 hE3 he3 => ?_) W.2.1 0 rfl (Nat.zero_le _) h1 (a1.nxc (fun t _ => (if_neg (Nat.not_lt_zero t)).symm)) he
    have t0 := (he3 (E + 83) (by omega)).trans hT.2.1
    obtain ⟨z0, -, -, -, -⟩ := id hE3
    refine e_aload_n (pc := 69) dX7_demandCommuting_69 rfl rfl ?_
    refine e_get (pc := 70) fl_X7_28 dX7_demandCommuting_70 (by repeat (first | assumption | exact hset_eq _ _ _ | rw [hset_ne _ _ (by omega)])) (by rfl) ?_
    refine n_V (pc := 73) (c_X0_settle hE3 hk.1 (by omega) a2 a3 (fun t _ => Nat.mod_lt _ (by omega))) bX0_settle q_i_X0_settle q_s_X0_settle q_m_X7_139 dX7_demandCommuting_73 rfl rfl (by repeat (first | assumption | exact hset_eq _ _ _ | rw [hset_ne _ _ (by omega)])) rfl rfl (by exact Nat.le_of_ble_eq_true rfl) ⟨by decide, by decide⟩ ⟨rfl, rfl, Nat.zero_le _, Nat.zero_le _⟩ (fun z h4 hp => ?_)
    obtain ⟨bb, r2, led2, rows2, rfl, p1, ⟨s1, s2, s3, s4, s5⟩, p2⟩ := hp
    refine e_pop (pc := 76) dX7_demandCommuting_76 rfl ?_
    refine n_inc (pc := 77) dX7_demandCommuting_77 rfl (by decide) ?_
    refine e_goto (pc := 80) (tgt := 15) dX7_demandCommuting_80 (by decide) ?_
    refine ih (k + 1) (by omega) (by omega) h4 ⟨r2, led2, rows2, p1, s3, s4, fun u => ?_⟩ (he3.tr p2)
    rw [s5 u, a4 u]
    constructor
    · intro ⟨⟨y1, y2⟩, y3⟩
      refine ⟨y1, fun x c hx hc cc => ?_⟩
      by_cases e : x = j ∧ c = k
      · obtain ⟨rfl, rfl⟩ := e; exact y3
      · exact y2 x c hx hc (by omega)
    · intro ⟨y1, y2⟩
      exact ⟨⟨y1, fun x c hx hc cc => y2 x c hx hc (by omega)⟩, y2 j k hj hkk (by omega)⟩
theorem l_dc_j {sz : Nat} {hh : AH} {S : (Nat → Nat) → Prop} (hT : TSh hh E) (hW : WAt hh o W f) (hk : Wok W) (d : o + 3 ≤ E ∨ E + 89 ≤ o) :
    ∀ (n j : Nat), n = W.2.1 - j → j ≤ W.2.1 → ∀ h1, ES h1 E W.1 W.2.1 (fun u => S u ∧ SCp W j 0 u) → Ee E hh h1 → VV MX7_demandCommuting sz (fun h' => ES h' E W.1 W.2.1 (fun u => S u ∧ SC W u) ∧ Ee E hh h') h1 7 [some (.ref (E + 83)), some (.ref o), some (.int (nI W.2.1)), some (.int (nI j)), none, none] [] := by
  obtain ⟨b1, b2, b3, b4, b5⟩ := hk.b
  intro n
  induction n with
  | zero =>
    intro j e1 e2 h1 hE he
    have e' : j = W.2.1 := by omega
    subst e'
    refine e_iload_n (pc := 7) dX7_demandCommuting_7 rfl rfl ?_
    refine e_iload_n (pc := 8) dX7_demandCommuting_8 rfl rfl ?_
    refine n_icmp_ge (pc := 9) (tgt := 89) dX7_demandCommuting_9 (by decide) (by omega) (by omega) (fun hb_ => ?_) (fun c => absurd c (by omega))
    exact n_vret (pc := 89) dX7_demandCommuting_89 rfl ⟨hE.congr (fun u => ⟨fun ⟨q, q2⟩ => ⟨q, fun j k hj hk2 => q2 j k hj hk2 (by omega)⟩, fun ⟨q, q2⟩ => ⟨q, fun x k hx hk2 _ => q2 x k hx hk2⟩⟩), he⟩
  | succ n ih =>
    intro j e1 e2 h1 hE he
    refine e_iload_n (pc := 7) dX7_demandCommuting_7 rfl rfl ?_
    refine e_iload_n (pc := 8) dX7_demandCommuting_8 rfl rfl ?_
    refine n_icmp_ge (pc := 9) (tgt := 89) dX7_demandCommuting_9 (by decide) (by omega) (by omega) (fun c => absurd c (by omega)) (fun hb_ => ?_)
    refine n_iconst (pc := 12) 0 dX7_demandCommuting_12 (by decide) ?_
    refine e_istore (pc := 13) dX7_demandCommuting_13 (by decide) ?_
    refine l_dc_k (hh := hh) (S := S) hT hW hk d hb_ (fun h3 hE3 he3 => ?_) W.2.1 0 rfl (Nat.zero_le _) h1 hE he
    refine n_inc (pc := 83) dX7_demandCommuting_83 rfl (by decide) ?_
    refine e_goto (pc := 86) (tgt := 7) dX7_demandCommuting_86 (by decide) ?_
    exact ih (j + 1) (by omega) (by omega) h3 hE3 he3
theorem c_X7_demandCommuting {S : (Nat → Nat) → Prop} (hT : TSh h E) (hW : WAt h o W f) (hk : Wok W) (d : o + 3 ≤ E ∨ E + 89 ≤ o) (hE : ES h E W.1 W.2.1 S) : CV yX7_demandCommuting MX7_demandCommuting [.ref (E + 83), .ref o] h (fun h' => ES h' E W.1 W.2.1 (fun u => S u ∧ SC W u) ∧ Ee E h h') := by
  obtain ⟨w0, -, -⟩ := id hW
  refine CV.ofV (by decide) rfl rfl (by simp [Value.category]) (by exact Nat.le_of_ble_eq_true rfl) (fun sz => ?_)
  refine e_aload_n (pc := 0) dX7_demandCommuting_0 rfl rfl ?_
  refine n_VP (pc := 1) (c_X9_size hW) bX9_size q_i_X9_size q_s_X9_size q_m_X7_70 dX7_demandCommuting_1 rfl rfl (by repeat (first | assumption | exact hset_eq _ _ _ | rw [hset_ne _ _ (by omega)])) rfl rfl (by exact Nat.le_of_ble_eq_true rfl) ⟨by decide, by decide⟩ ⟨rfl, rfl, Nat.zero_le _, Nat.zero_le _⟩ ?_
  refine e_istore_n (pc := 4) dX7_demandCommuting_4 rfl (by decide) ?_
  refine n_iconst (pc := 5) 0 dX7_demandCommuting_5 (by decide) ?_
  refine e_istore_n (pc := 6) dX7_demandCommuting_6 rfl (by decide) ?_
  exact l_dc_j hT hW hk d W.2.1 0 rfl (Nat.zero_le _) h (hE.congr (fun u => ⟨fun q => ⟨q, fun x k hx hk2 c => absurd c (by omega)⟩, fun q => q.1⟩)) (Ee.rf E h)
theorem ES.rank {p w : Nat} {S : (Nat → Nat) → Prop} (hE : ES h E p w S) : ∃ r, isRank p w S r ∧ r ≤ w ∧ CP yX0_rank MX0_rank [.ref E] h (nI r) := by
  obtain ⟨r, led, rows, a1, a2, a3, a4⟩ := hE
  exact ⟨r, ⟨led, rows, a2, a3, a4⟩, by rw [a3]; exact rk_le _ _, c_X0_rank a1⟩
theorem DAt.ee {h2 : AH} (q : DAt h E W) (e : Ee E h h2) : DAt h2 E W := by
  obtain ⟨g, a, b⟩ := q
  exact ⟨g, (e _ (by omega)).trans a, b⟩
theorem ES.z {p w : Nat} {S : (Nat → Nat) → Prop} (q : ES h E p w S) : ∃ fs, h E = some (ob 0 fs) := by
  obtain ⟨r, led, rows, ⟨a, -⟩, -⟩ := q
  exact ⟨_, a⟩
theorem Ee.fr2 {h h2 : AH} (e : Ee E h h2) : Fr E o h h2 := e.er.fr (by omega) (by omega)
theorem c_X7_nucleus {w : Nat} (hw : w < 3) (hT : TSh h E) (hW : WAt h o W f) (hk : Wok W) (d : o + 3 ≤ E ∨ E + 89 ≤ o) : CI yX7_nucleus MX7_nucleus [.ref (E + 83), .ref o, .int (nI w)] h (fun z h' => z = nI (cn (W.1 ^ W.2.1) (fun x => bl (Joins W w x))) ∧ TSh h' E ∧ WAt h' o W f ∧ Fr E o h h') := by
  obtain ⟨b1, b2, b3, b4, b5⟩ := hk.b
  obtain ⟨-, t0, -⟩ := id hT
  refine CI.ofV (by decide) rfl rfl (by simp [Value.category]) (by exact Nat.le_of_ble_eq_true rfl) (fun sz => ?_)
  refine e_aload_n (pc := 0) dX7_nucleus_0 rfl rfl ?_
  refine e_aload_n (pc := 1) dX7_nucleus_1 rfl rfl ?_
  refine n_Vv (pc := 2) (c_X7_findDifferences hT hW hk d) bX7_findDifferences q_i_X7_findDifferences q_s_X7_findDifferences q_m_X7_110 dX7_nucleus_2 rfl rfl (by repeat (first | assumption | exact hset_eq _ _ _ | rw [hset_ne _ _ (by omega)])) rfl rfl (by exact Nat.le_of_ble_eq_true rfl) ⟨by decide, by decide⟩ ⟨rfl, rfl, Nat.zero_le _, Nat.zero_le _⟩ (fun h2 hp => ?_)
  obtain ⟨p1, p2, p3, p4⟩ := hp
  obtain ⟨⟨⟨⟨_, _, _, s1⟩, -⟩, -⟩, t0, -⟩ := id p1
  obtain ⟨w0, -, -⟩ := id p2
  refine e_aload_n (pc := 5) dX7_nucleus_5 rfl rfl ?_
  refine e_get (pc := 6) fl_X7_28 dX7_nucleus_6 (by repeat (first | assumption | exact hset_eq _ _ _ | rw [hset_ne _ _ (by omega)])) (by rfl) ?_
  refine e_aload_n (pc := 9) dX7_nucleus_9 rfl rfl ?_
  refine n_VP (pc := 10) (c_X9_prime p2) bX9_prime q_i_X9_prime q_s_X9_prime q_m_X7_81 dX7_nucleus_10 rfl rfl (by repeat (first | assumption | exact hset_eq _ _ _ | rw [hset_ne _ _ (by omega)])) rfl rfl (by exact Nat.le_of_ble_eq_true rfl) ⟨by decide, by decide⟩ ⟨rfl, rfl, Nat.zero_le _, Nat.zero_le _⟩ ?_
  refine e_aload_n (pc := 13) dX7_nucleus_13 rfl rfl ?_
  refine n_VP (pc := 14) (c_X9_size p2) bX9_size q_i_X9_size q_s_X9_size q_m_X7_70 dX7_nucleus_14 rfl rfl (by repeat (first | assumption | exact hset_eq _ _ _ | rw [hset_ne _ _ (by omega)])) rfl rfl (by exact Nat.le_of_ble_eq_true rfl) ⟨by decide, by decide⟩ ⟨rfl, rfl, Nat.zero_le _, Nat.zero_le _⟩ ?_
  refine n_Vv (pc := 17) (c_X0_start2 p1.1.1 hk.1 (by omega)) bX0_start q_i_X0_start q_s_X0_start q_m_X7_114 dX7_nucleus_17 rfl rfl (by repeat (first | assumption | exact hset_eq _ _ _ | rw [hset_ne _ _ (by omega)])) rfl rfl (by exact Nat.le_of_ble_eq_true rfl) ⟨by decide, by decide⟩ ⟨rfl, rfl, Nat.zero_le _, Nat.zero_le _⟩ (fun h3 hp => ?_)
  obtain ⟨p5, p6⟩ := hp
  have hT3 := p1.ee p5.sh p6
  have hW3 : WAt h3 o W f := p2.er p6.er (by omega)
  obtain ⟨-, t0, -⟩ := id hT3
  refine e_aload_n (pc := 20) dX7_nucleus_20 rfl rfl ?_
  refine e_aload_n (pc := 21) dX7_nucleus_21 rfl rfl ?_
  refine e_iload_n (pc := 22) dX7_nucleus_22 rfl rfl ?_
  refine n_Vv (pc := 23) (c_X7_demandJoining hw hT3 hW3 hk d (p4.ee p6) p5) bX7_demandJoining q_i_X7_demandJoining q_s_X7_demandJoining q_m_X7_119 dX7_nucleus_23 rfl rfl (by repeat (first | assumption | exact hset_eq _ _ _ | rw [hset_ne _ _ (by omega)])) rfl rfl (by exact Nat.le_of_ble_eq_true rfl) ⟨by decide, by decide⟩ ⟨rfl, rfl, Nat.zero_le _, Nat.zero_le _⟩ (fun h4 hp => ?_)
  obtain ⟨p7, p8⟩ := hp
  have hT4 := hT3.ee p7.sh p8
  have hW4 : WAt h4 o W f := hW3.er p8.er (by omega)
  obtain ⟨-, t0, -⟩ := id hT4
  obtain ⟨w0, -, -⟩ := id hW4
  obtain ⟨_, z0⟩ := p7.z
  obtain ⟨r, r1, r2, r3⟩ := p7.rank
  refine e_aload_n (pc := 26) dX7_nucleus_26 rfl rfl ?_
  refine n_VP (pc := 27) (c_X9_prime hW4) bX9_prime q_i_X9_prime q_s_X9_prime q_m_X7_81 dX7_nucleus_27 rfl rfl (by repeat (first | assumption | exact hset_eq _ _ _ | rw [hset_ne _ _ (by omega)])) rfl rfl (by exact Nat.le_of_ble_eq_true rfl) ⟨by decide, by decide⟩ ⟨rfl, rfl, Nat.zero_le _, Nat.zero_le _⟩ ?_
  refine e_aload_n (pc := 30) dX7_nucleus_30 rfl rfl ?_
  refine n_VP (pc := 31) (c_X9_size hW4) bX9_size q_i_X9_size q_s_X9_size q_m_X7_70 dX7_nucleus_31 rfl rfl (by repeat (first | assumption | exact hset_eq _ _ _ | rw [hset_ne _ _ (by omega)])) rfl rfl (by exact Nat.le_of_ble_eq_true rfl) ⟨by decide, by decide⟩ ⟨rfl, rfl, Nat.zero_le _, Nat.zero_le _⟩ ?_
  refine e_aload_n (pc := 34) dX7_nucleus_34 rfl rfl ?_
  refine e_get (pc := 35) fl_X7_28 dX7_nucleus_35 (by repeat (first | assumption | exact hset_eq _ _ _ | rw [hset_ne _ _ (by omega)])) (by rfl) ?_
  refine n_VP (pc := 38) (r3) bX0_rank q_i_X0_rank q_s_X0_rank q_m_X7_123 dX7_nucleus_38 rfl rfl (by repeat (first | assumption | exact hset_eq _ _ _ | rw [hset_ne _ _ (by omega)])) rfl rfl (by exact Nat.le_of_ble_eq_true rfl) ⟨by decide, by decide⟩ ⟨rfl, rfl, Nat.zero_le _, Nat.zero_le _⟩ ?_
  refine n_isub (pc := 41) dX7_nucleus_41 (by omega) ?_
  refine n_SP (pc := 42) (c_X8_power (show W.2.1 - r ≤ 5 by omega) b2) bX8_power q_st_X8_power q_m_X7_126 dX7_nucleus_42 rfl rfl (by exact Nat.le_of_ble_eq_true rfl) ⟨by decide, by decide⟩ ⟨rfl, rfl, Nat.zero_le _, Nat.zero_le _⟩ ?_
  refine n_iret (pc := 45) dX7_nucleus_45 rfl ⟨?_, hT4, hW4, p3.tr (p6.fr2.tr p8.fr2)⟩
  exact congrArg nI (cnt_S hk.1 r1 (fun z hz => by rw [joins_iff hk]; exact ⟨fun q => q.2, fun q => ⟨trivial, q⟩⟩)).2
def InC (W : Wd) (x : Nat) : Prop := Joins W 0 x ∧ Joins W 1 x ∧ Joins W 2 x ∧ Comm W x
theorem c_X7_centre (hT : TSh h E) (hW : WAt h o W f) (hk : Wok W) (d : o + 3 ≤ E ∨ E + 89 ≤ o) : CI yX7_centre MX7_centre [.ref (E + 83), .ref o] h (fun z h' => z = nI (cn (W.1 ^ W.2.1) (fun x => bl (InC W x))) ∧ TSh h' E ∧ WAt h' o W f ∧ Fr E o h h') := by
  obtain ⟨b1, b2, b3, b4, b5⟩ := hk.b
  obtain ⟨-, t0, -⟩ := id hT
  refine CI.ofV (by decide) rfl rfl (by simp [Value.category]) (by exact Nat.le_of_ble_eq_true rfl) (fun sz => ?_)
  refine e_aload_n (pc := 0) dX7_centre_0 rfl rfl ?_
  refine e_aload_n (pc := 1) dX7_centre_1 rfl rfl ?_
  refine n_Vv (pc := 2) (c_X7_findDifferences hT hW hk d) bX7_findDifferences q_i_X7_findDifferences q_s_X7_findDifferences q_m_X7_110 dX7_centre_2 rfl rfl (by repeat (first | assumption | exact hset_eq _ _ _ | rw [hset_ne _ _ (by omega)])) rfl rfl (by exact Nat.le_of_ble_eq_true rfl) ⟨by decide, by decide⟩ ⟨rfl, rfl, Nat.zero_le _, Nat.zero_le _⟩ (fun h2 hp => ?_)
  obtain ⟨p1, p2, p3, p4⟩ := hp
  obtain ⟨⟨⟨⟨_, _, _, s1⟩, -⟩, -⟩, t0, -⟩ := id p1
  obtain ⟨w0, -, -⟩ := id p2
  refine e_aload_n (pc := 5) dX7_centre_5 rfl rfl ?_
  refine e_get (pc := 6) fl_X7_28 dX7_centre_6 (by repeat (first | assumption | exact hset_eq _ _ _ | rw [hset_ne _ _ (by omega)])) (by rfl) ?_
  refine e_aload_n (pc := 9) dX7_centre_9 rfl rfl ?_
  refine n_VP (pc := 10) (c_X9_prime p2) bX9_prime q_i_X9_prime q_s_X9_prime q_m_X7_81 dX7_centre_10 rfl rfl (by repeat (first | assumption | exact hset_eq _ _ _ | rw [hset_ne _ _ (by omega)])) rfl rfl (by exact Nat.le_of_ble_eq_true rfl) ⟨by decide, by decide⟩ ⟨rfl, rfl, Nat.zero_le _, Nat.zero_le _⟩ ?_
  refine e_aload_n (pc := 13) dX7_centre_13 rfl rfl ?_
  refine n_VP (pc := 14) (c_X9_size p2) bX9_size q_i_X9_size q_s_X9_size q_m_X7_70 dX7_centre_14 rfl rfl (by repeat (first | assumption | exact hset_eq _ _ _ | rw [hset_ne _ _ (by omega)])) rfl rfl (by exact Nat.le_of_ble_eq_true rfl) ⟨by decide, by decide⟩ ⟨rfl, rfl, Nat.zero_le _, Nat.zero_le _⟩ ?_
  refine n_Vv (pc := 17) (c_X0_start2 p1.1.1 hk.1 (by omega)) bX0_start q_i_X0_start q_s_X0_start q_m_X7_114 dX7_centre_17 rfl rfl (by repeat (first | assumption | exact hset_eq _ _ _ | rw [hset_ne _ _ (by omega)])) rfl rfl (by exact Nat.le_of_ble_eq_true rfl) ⟨by decide, by decide⟩ ⟨rfl, rfl, Nat.zero_le _, Nat.zero_le _⟩ (fun h3 hp => ?_)
  obtain ⟨p5, p6⟩ := hp
  have hT3 := p1.ee p5.sh p6
  have hW3 : WAt h3 o W f := p2.er p6.er (by omega)
  obtain ⟨-, t0, -⟩ := id hT3
  refine e_aload_n (pc := 20) dX7_centre_20 rfl rfl ?_
  refine e_aload_n (pc := 21) dX7_centre_21 rfl rfl ?_
  refine n_iconst (pc := 22) 0 dX7_centre_22 (by decide) ?_
  refine n_Vv (pc := 23) (c_X7_demandJoining (w := 0) (by omega) hT3 hW3 hk d (p4.ee p6) p5) bX7_demandJoining q_i_X7_demandJoining q_s_X7_demandJoining q_m_X7_119 dX7_centre_23 rfl rfl (by repeat (first | assumption | exact hset_eq _ _ _ | rw [hset_ne _ _ (by omega)])) rfl rfl (by exact Nat.le_of_ble_eq_true rfl) ⟨by decide, by decide⟩ ⟨rfl, rfl, Nat.zero_le _, Nat.zero_le _⟩ (fun h4 hp => ?_)
  obtain ⟨p7, p8⟩ := hp
  have hT4 := hT3.ee p7.sh p8
  have hW4 : WAt h4 o W f := hW3.er p8.er (by omega)
  obtain ⟨-, t0, -⟩ := id hT4
  refine e_aload_n (pc := 26) dX7_centre_26 rfl rfl ?_
  refine e_aload_n (pc := 27) dX7_centre_27 rfl rfl ?_
  refine n_iconst (pc := 28) 1 dX7_centre_28 (by decide) ?_
  refine n_Vv (pc := 29) (c_X7_demandJoining (w := 1) (by omega) hT4 hW4 hk d ((p4.ee p6).ee p8) p7) bX7_demandJoining q_i_X7_demandJoining q_s_X7_demandJoining q_m_X7_119 dX7_centre_29 rfl rfl (by repeat (first | assumption | exact hset_eq _ _ _ | rw [hset_ne _ _ (by omega)])) rfl rfl (by exact Nat.le_of_ble_eq_true rfl) ⟨by decide, by decide⟩ ⟨rfl, rfl, Nat.zero_le _, Nat.zero_le _⟩ (fun h5 hp => ?_)
  obtain ⟨p9, p10⟩ := hp
  have hT5 := hT4.ee p9.sh p10
  have hW5 : WAt h5 o W f := hW4.er p10.er (by omega)
  obtain ⟨-, t0, -⟩ := id hT5
  refine e_aload_n (pc := 32) dX7_centre_32 rfl rfl ?_
  refine e_aload_n (pc := 33) dX7_centre_33 rfl rfl ?_
  refine n_iconst (pc := 34) 2 dX7_centre_34 (by decide) ?_
  refine n_Vv (pc := 35) (c_X7_demandJoining (w := 2) (by omega) hT5 hW5 hk d (((p4.ee p6).ee p8).ee p10) p9) bX7_demandJoining q_i_X7_demandJoining q_s_X7_demandJoining q_m_X7_119 dX7_centre_35 rfl rfl (by repeat (first | assumption | exact hset_eq _ _ _ | rw [hset_ne _ _ (by omega)])) rfl rfl (by exact Nat.le_of_ble_eq_true rfl) ⟨by decide, by decide⟩ ⟨rfl, rfl, Nat.zero_le _, Nat.zero_le _⟩ (fun h6 hp => ?_)
  obtain ⟨p11, p12⟩ := hp
  have hT6 := hT5.ee p11.sh p12
  have hW6 : WAt h6 o W f := hW5.er p12.er (by omega)
  obtain ⟨-, t0, -⟩ := id hT6
  refine e_aload_n (pc := 38) dX7_centre_38 rfl rfl ?_
  refine e_aload_n (pc := 39) dX7_centre_39 rfl rfl ?_
  refine n_Vv (pc := 40) (c_X7_demandCommuting hT6 hW6 hk d p11) bX7_demandCommuting q_i_X7_demandCommuting q_s_X7_demandCommuting q_m_X7_129 dX7_centre_40 rfl rfl (by repeat (first | assumption | exact hset_eq _ _ _ | rw [hset_ne _ _ (by omega)])) rfl rfl (by exact Nat.le_of_ble_eq_true rfl) ⟨by decide, by decide⟩ ⟨rfl, rfl, Nat.zero_le _, Nat.zero_le _⟩ (fun h7 hp => ?_)
  obtain ⟨p13, p14⟩ := hp
  have hT7 := hT6.ee p13.sh p14
  have hW7 : WAt h7 o W f := hW6.er p14.er (by omega)
  obtain ⟨-, t0, -⟩ := id hT7
  obtain ⟨w0, -, -⟩ := id hW7
  obtain ⟨_, z0⟩ := p13.z
  obtain ⟨r, r1, r2, r3⟩ := p13.rank
  refine e_aload_n (pc := 43) dX7_centre_43 rfl rfl ?_
  refine n_VP (pc := 44) (c_X9_prime hW7) bX9_prime q_i_X9_prime q_s_X9_prime q_m_X7_81 dX7_centre_44 rfl rfl (by repeat (first | assumption | exact hset_eq _ _ _ | rw [hset_ne _ _ (by omega)])) rfl rfl (by exact Nat.le_of_ble_eq_true rfl) ⟨by decide, by decide⟩ ⟨rfl, rfl, Nat.zero_le _, Nat.zero_le _⟩ ?_
  refine e_aload_n (pc := 47) dX7_centre_47 rfl rfl ?_
  refine n_VP (pc := 48) (c_X9_size hW7) bX9_size q_i_X9_size q_s_X9_size q_m_X7_70 dX7_centre_48 rfl rfl (by repeat (first | assumption | exact hset_eq _ _ _ | rw [hset_ne _ _ (by omega)])) rfl rfl (by exact Nat.le_of_ble_eq_true rfl) ⟨by decide, by decide⟩ ⟨rfl, rfl, Nat.zero_le _, Nat.zero_le _⟩ ?_
  refine e_aload_n (pc := 51) dX7_centre_51 rfl rfl ?_
  refine e_get (pc := 52) fl_X7_28 dX7_centre_52 (by repeat (first | assumption | exact hset_eq _ _ _ | rw [hset_ne _ _ (by omega)])) (by rfl) ?_
  refine n_VP (pc := 55) (r3) bX0_rank q_i_X0_rank q_s_X0_rank q_m_X7_123 dX7_centre_55 rfl rfl (by repeat (first | assumption | exact hset_eq _ _ _ | rw [hset_ne _ _ (by omega)])) rfl rfl (by exact Nat.le_of_ble_eq_true rfl) ⟨by decide, by decide⟩ ⟨rfl, rfl, Nat.zero_le _, Nat.zero_le _⟩ ?_
  refine n_isub (pc := 58) dX7_centre_58 (by omega) ?_
  refine n_SP (pc := 59) (c_X8_power (show W.2.1 - r ≤ 5 by omega) b2) bX8_power q_st_X8_power q_m_X7_126 dX7_centre_59 rfl rfl (by exact Nat.le_of_ble_eq_true rfl) ⟨by decide, by decide⟩ ⟨rfl, rfl, Nat.zero_le _, Nat.zero_le _⟩ ?_
  refine n_iret (pc := 62) dX7_centre_62 rfl ⟨?_, hT7, hW7, p3.tr (p6.fr2.tr (p8.fr2.tr (p10.fr2.tr (p12.fr2.tr p14.fr2))))⟩
  exact congrArg nI (cnt_S hk.1 r1 (fun z hz => by
    rw [joins_iff hk, joins_iff hk, joins_iff hk, comm_iff hk hz]
    exact ⟨fun ⟨⟨⟨⟨_, q1⟩, q2⟩, q3⟩, q4⟩ => ⟨q1, q2, q3, q4⟩, fun ⟨q1, q2, q3, q4⟩ => ⟨⟨⟨⟨trivial, q1⟩, q2⟩, q3⟩, q4⟩⟩)).2
end SX
