/-! ===== Study: nuclei and the centre, by equations ===== -/
theorem WAt.hs {h : AH} {o a : Nat} {W : Wd} {f : Int32} {x : AE} (q : WAt h o W f) (ha : a ≠ o ∧ a ≠ o + 1 ∧ a ≠ o + 2) : WAt (hset h a x) o W f := by
  obtain ⟨a1, a2, g, a3⟩ := q
  exact ⟨by rw [hset_ne _ _ (by omega)]; exact a1, by rw [hset_ne _ _ (by omega)]; exact a2, g, by rw [hset_ne _ _ (by omega)]; exact a3⟩
theorem TSh.a5 {h : AH} {E a : Nat} {g : Nat → Int32} (q : TSh h E) (ha : a = E + 84 ∨ a = E + 85) : TSh (hset h a (aI 5 g)) E := by
  obtain ⟨a1, a2, ⟨f3, a3⟩, ⟨f4, a4⟩, ⟨f5, a5⟩, ⟨f6, a6⟩, ⟨f7, a7⟩⟩ := q
  refine ⟨a1.far (fun a x y => hset_ne _ _ (by omega)), by rw [hset_ne _ _ (by omega)]; exact a2, ?_, ?_, ⟨f5, by rw [hset_ne _ _ (by omega)]; exact a5⟩, ⟨f6, by rw [hset_ne _ _ (by omega)]; exact a6⟩, ⟨f7, by rw [hset_ne _ _ (by omega)]; exact a7⟩⟩
  · by_cases e : E + 84 = a
    · rw [e]; exact ⟨g, hset_eq _ _ _⟩
    · exact ⟨f3, by rw [hset_ne _ _ e]; exact a3⟩
  · by_cases e : E + 85 = a
    · rw [e]; exact ⟨g, hset_eq _ _ _⟩
    · exact ⟨f4, by rw [hset_ne _ _ e]; exact a4⟩
theorem TSh.dif {h : AH} {E : Nat} {g : Nat → Int32} (q : TSh h E) : TSh (hset h (E + 86) (aI 125 g)) E := by
  obtain ⟨a1, a2, ⟨f3, a3⟩, ⟨f4, a4⟩, ⟨f5, a5⟩, ⟨f6, a6⟩, ⟨f7, a7⟩⟩ := q
  exact ⟨a1.far (fun a x y => hset_ne _ _ (by omega)), by rw [hset_ne _ _ (by omega)]; exact a2, ⟨f3, by rw [hset_ne _ _ (by omega)]; exact a3⟩, ⟨f4, by rw [hset_ne _ _ (by omega)]; exact a4⟩, ⟨g, hset_eq _ _ _⟩, ⟨f6, by rw [hset_ne _ _ (by omega)]; exact a6⟩, ⟨f7, by rw [hset_ne _ _ (by omega)]; exact a7⟩⟩
theorem TSh.ee {h h2 : AH} {E : Nat} (q : TSh h E) (s : ESh h2 E) (e : Ee E h h2) : TSh h2 E := q.er (q.1.ee s e) (e.er.mono (by omega) (by omega))
/-- the echelon holds a system of equations -/
def ES (h : AH) (E p w : Nat) (S : (Nat → Nat) → Prop) : Prop := ∃ r led rows, EAt h E p w r led rows (fun _ => 0) ∧ EOk p w led rows ∧ r = rk w led ∧ ∀ u, Sol p w led rows u ↔ S u
theorem ES.sh {h : AH} {E p w : Nat} {S : (Nat → Nat) → Prop} (q : ES h E p w S) : ESh h E := by
  obtain ⟨r, led, rows, a, -⟩ := q
  exact a.sh
theorem ES.congr {h : AH} {E p w : Nat} {S S2 : (Nat → Nat) → Prop} (q : ES h E p w S) (c : ∀ u, S u ↔ S2 u) : ES h E p w S2 := by
  obtain ⟨r, led, rows, a1, a2, a3, a4⟩ := q
  exact ⟨r, led, rows, a1, a2, a3, fun u => (a4 u).trans (c u)⟩
theorem ES.far {h h2 : AH} {E p w : Nat} {S : (Nat → Nat) → Prop} (q : ES h E p w S) (e : ∀ a, E ≤ a → a < E + 79 → h2 a = h a) : ES h2 E p w S := by
  obtain ⟨r, led, rows, a1, a2, a3, a4⟩ := q
  exact ⟨r, led, rows, a1.far e, a2, a3, a4⟩
theorem EAt.nxc {h : AH} {E p w r : Nat} {led : Nat → Bool} {rows : Nat → Nat → Nat} {nx nx2 : Nat → Nat} (q : EAt h E p w r led rows nx) (hf : ∀ c, c < w → nx c = nx2 c) : EAt h E p w r led rows nx2 := by
  obtain ⟨a1, a2, a3, a4, ⟨fx, a5, a6⟩⟩ := q
  exact ⟨a1, a2, a3, a4, fx, a5, fun t ht => by rw [a6 t ht, hf t ht]⟩
section SW
variable {h : AH} {E o : Nat} {W : Wd} {f : Int32}
theorem c_X0_start2 {p w : Nat} (hs : ESh h E) (hp : Pm p) (hw : 1 ≤ w ∧ w ≤ 75) : CV yX0_start MX0_start [.ref E, .int (nI p), .int (nI w)] h (fun h' => ES h' E p w (fun _ => True) ∧ Ee E h h') :=
  (c_X0_start hs hp hw).mono (fun h' q => ⟨⟨0, _, _, q.1, EOk_0 p w, (rk_0 w).symm, fun u => ⟨fun _ => trivial, fun _ => Sol_0 p w u⟩⟩, q.2⟩)
def DU (h : AH) (E : Nat) (W : Wd) (i j k : Nat) : Prop := ∃ g, h (E + 86) = some (aI 125 g) ∧ ∀ a b c, a < W.2.1 → b < W.2.1 → c < W.2.1 → (a < i ∨ a = i ∧ (b < j ∨ b = j ∧ c < k)) → g (25 * a + 5 * b + c) = nI (asc W a b c)
def DAt (h : AH) (E : Nat) (W : Wd) : Prop := ∃ g, h (E + 86) = some (aI 125 g) ∧ ∀ a b c, a < W.2.1 → b < W.2.1 → c < W.2.1 → g (25 * a + 5 * b + c) = nI (asc W a b c)
section FD
variable {sz : Nat} {hh : AH} {Pr : AH → Prop}
theorem l_fd_k {i j : Nat} (hk : Wok W) (hi : i < W.2.1) (hj : j < W.2.1) (d : o + 3 ≤ E ∨ E + 89 ≤ o)
    (kk : ∀ h1, TSh h1 E → WAt h1 o W f → Fr E o hh h1 → DU h1 E W i (j + 1) 0 → VV MX7_findDifferences sz Pr h1 63 [some (.ref (E + 83)), some (.ref o), some (.int (nI W.2.1)), some (.int (nI i)), some (.int (nI j)), none] []) :
    ∀ (n k : Nat), n = W.2.1 - k → k ≤ W.2.1 → ∀ h1, TSh h1 E → WAt h1 o W f → Fr E o hh h1 → DU h1 E W i j k → VV MX7_findDifferences sz Pr h1 24 [some (.ref (E + 83)), some (.ref o), some (.int (nI W.2.1)), some (.int (nI i)), some (.int (nI j)), some (.int (nI k))] [] := by
  obtain ⟨b1, b2, b3, b4, b5⟩ := hk.b
  intro n
  induction n with
  | zero =>
    intro k e1 e2 h1 hT hW he hu
    have e' : k = W.2.1 := by omega
    subst e'
    refine e_iload (pc := 24) dX7_findDifferences_24 rfl ?_
    refine e_iload_n (pc := 26) dX7_findDifferences_26 rfl rfl ?_
    refine n_icmp_ge (pc := 27) (tgt := 63) dX7_findDifferences_27 (by decide) (by omega) (by omega) (fun hb_ => ?_) (fun c => absurd c (by omega))
    refine V.mask [true, true, true, true, true, false] ?_
    obtain ⟨g, u1, u2⟩ := hu
    exact kk h1 hT hW he ⟨g, u1, fun a b c ha hb hc hx => u2 a b c ha hb hc (by omega)⟩
  | succ n ih =>
    intro k e1 e2 h1 hT hW he hu
    obtain ⟨-, t0, -⟩ := id hT
    obtain ⟨g, u1, u2⟩ := hu
    have a1 := asc_lt hk i j k
    refine e_iload (pc := 24) dX7_findDifferences_24 rfl ?_
    refine e_iload_n (pc := 26) dX7_findDifferences_26 rfl rfl ?_
    refine n_icmp_ge (pc := 27) (tgt := 63) dX7_findDifferences_27 (by decide) (by omega) (by omega) (fun c => absurd c (by omega)) (fun hb_ => ?_)
    refine e_aload_n (pc := 30) dX7_findDifferences_30 rfl rfl ?_
    refine e_get (pc := 31) fl_X7_18 dX7_findDifferences_31 (by repeat (first | assumption | exact hset_eq _ _ _ | rw [hset_ne _ _ (by omega)])) (by rfl) ?_
    refine n_bipush (pc := 34) 25 dX7_findDifferences_34 (by decide) ?_
    refine e_iload_n (pc := 36) dX7_findDifferences_36 rfl rfl ?_
    refine n_imul (pc := 37) dX7_findDifferences_37 ?_
    refine n_iconst (pc := 38) 5 dX7_findDifferences_38 (by decide) ?_
    refine e_iload (pc := 39) dX7_findDifferences_39 rfl ?_
    refine n_imul (pc := 41) dX7_findDifferences_41 ?_
    refine n_iadd (pc := 42) dX7_findDifferences_42 ?_
    refine e_iload (pc := 43) dX7_findDifferences_43 rfl ?_
    refine n_iadd (pc := 45) dX7_findDifferences_45 ?_
    refine e_aload_n (pc := 46) dX7_findDifferences_46 rfl rfl ?_
    refine e_aload_n (pc := 47) dX7_findDifferences_47 rfl rfl ?_
    refine e_iload_n (pc := 48) dX7_findDifferences_48 rfl rfl ?_
    refine e_iload (pc := 49) dX7_findDifferences_49 rfl ?_
    refine e_iload (pc := 51) dX7_findDifferences_51 rfl ?_
    refine n_V (pc := 53) (c_X7_difference hW hk hi hj hb_) bX7_difference q_i_X7_difference q_s_X7_difference q_m_X7_106 dX7_findDifferences_53 rfl rfl (by repeat (first | assumption | exact hset_eq _ _ _ | rw [hset_ne _ _ (by omega)])) rfl rfl (by exact Nat.le_of_ble_eq_true rfl) ⟨by decide, by decide⟩ ⟨rfl, rfl, Nat.zero_le _, Nat.zero_le _⟩ (fun z h2 hp => ?_)
    obtain ⟨rfl, p1, p2⟩ := hp
    have d1 : h2 (E + 86) = some (aI 125 g) := (p2 _ (by omega)).trans u1
    refine e_iastN (pc := 56) _ dX7_findDifferences_56 (by repeat (first | assumption | exact hset_eq _ _ _ | rw [hset_ne _ _ (by omega)])) (by rfl) (by omega) (by first | decide | omega) ?_
    refine n_inc (pc := 57) dX7_findDifferences_57 rfl (by decide) ?_
    refine e_goto (pc := 60) (tgt := 24) dX7_findDifferences_60 (by decide) ?_
    refine ih (k + 1) (by omega) (by omega) _ (hT.es p2 d).dif (p1.hs (by omega)) ((he.tr p2.fr).set (by omega)) ⟨_, hset_eq _ _ _, fun a b c ha hb hc hx => ?_⟩
    by_cases e : 25 * a + 5 * b + c = 25 * i + 5 * j + k
    · obtain ⟨rfl, rfl, rfl⟩ : a = i ∧ b = j ∧ c = k := by omega
      rw [pk_us]
    · rw [pk_un e]
      exact u2 a b c ha hb hc (by omega)
theorem l_fd_j {i : Nat} (hk : Wok W) (hi : i < W.2.1) (d : o + 3 ≤ E ∨ E + 89 ≤ o)
    (kk : ∀ h1, TSh h1 E → WAt h1 o W f → Fr E o hh h1 → DU h1 E W (i + 1) 0 0 → VV MX7_findDifferences sz Pr h1 69 [some (.ref (E + 83)), some (.ref o), some (.int (nI W.2.1)), some (.int (nI i)), none, none] []) :
    ∀ (n j : Nat), n = W.2.1 - j → j ≤ W.2.1 → ∀ h1, TSh h1 E → WAt h1 o W f → Fr E o hh h1 → DU h1 E W i j 0 → VV MX7_findDifferences sz Pr h1 15 [some (.ref (E + 83)), some (.ref o), some (.int (nI W.2.1)), some (.int (nI i)), some (.int (nI j)), none] [] := by
  obtain ⟨b1, b2, b3, b4, b5⟩ := hk.b
  intro n
  induction n with
  | zero =>
    intro j e1 e2 h1 hT hW he hu
    have e' : j = W.2.1 := by omega
    subst e'
    refine e_iload (pc := 15) dX7_findDifferences_15 rfl ?_
    refine e_iload_n (pc := 17) dX7_findDifferences_17 rfl rfl ?_
    refine n_icmp_ge (pc := 18) (tgt := 69) dX7_findDifferences_18 (by decide) (by omega) (by omega) (fun hb_ => ?_) (fun c => absurd c (by omega))
    refine V.mask [true, true, true, true, false, false] ?_
    obtain ⟨g, u1, u2⟩ := hu
    exact kk h1 hT hW he ⟨g, u1, fun a b c ha hb hc hx => u2 a b c ha hb hc (by omega)⟩
  | succ n ih =>
    intro j e1 e2 h1 hT hW he hu
    refine e_iload (pc := 15) dX7_findDifferences_15 rfl ?_
    refine e_iload_n (pc := 17) dX7_findDifferences_17 rfl rfl ?_
    refine n_icmp_ge (pc := 18) (tgt := 69) dX7_findDifferences_18 (by decide) (by omega) (by omega) (fun c => absurd c (by omega)) (fun hb_ => ?_)
    refine n_iconst (pc := 21) 0 dX7_findDifferences_21 (by decide) ?_
    refine e_istore (pc := 22) dX7_findDifferences_22 (by decide) ?_
    refine l_fd_k (hh := hh) (f := f) hk hi hb_ d (fun h3 hT3 hW3 he3 hu3 => ?_) W.2.1 0 rfl (Nat.zero_le _) h1 hT hW he hu
    refine n_inc (pc := 63) dX7_findDifferences_63 rfl (by decide) ?_
    refine e_goto (pc := 66) (tgt := 15) dX7_findDifferences_66 (by decide) ?_
    exact ih (j + 1) (by omega) (by omega) h3 hT3 hW3 he3 hu3
theorem l_fd_i (hk : Wok W) (d : o + 3 ≤ E ∨ E + 89 ≤ o) :
    ∀ (n i : Nat), n = W.2.1 - i → i ≤ W.2.1 → ∀ h1, TSh h1 E → WAt h1 o W f → Fr E o hh h1 → DU h1 E W i 0 0 → VV MX7_findDifferences sz (fun h' => TSh h' E ∧ WAt h' o W f ∧ Fr E o hh h' ∧ DAt h' E W) h1 7 [some (.ref (E + 83)), some (.ref o), some (.int (nI W.2.1)), some (.int (nI i)), none, none] [] := by
  obtain ⟨b1, b2, b3, b4, b5⟩ := hk.b
  intro n
  induction n with
  | zero =>
    intro i e1 e2 h1 hT hW he hu
    have e' : i = W.2.1 := by omega
    subst e'
    refine e_iload_n (pc := 7) dX7_findDifferences_7 rfl rfl ?_
    refine e_iload_n (pc := 8) dX7_findDifferences_8 rfl rfl ?_
    refine n_icmp_ge (pc := 9) (tgt := 75) dX7_findDifferences_9 (by decide) (by omega) (by omega) (fun hb_ => ?_) (fun c => absurd c (by omega))
    obtain ⟨g, u1, u2⟩ := hu
    exact n_vret (pc := 75) dX7_findDifferences_75 rfl ⟨hT, hW, he, g, u1, fun a b c ha hb hc => u2 a b c ha hb hc (Or.inl ha)⟩
  | succ n ih =>
    intro i e1 e2 h1 hT hW he hu
    refine e_iload_n (pc := 7) dX7_findDifferences_7 rfl rfl ?_
    refine e_iload_n (pc := 8) dX7_findDifferences_8 rfl rfl ?_
    refine n_icmp_ge (pc := 9) (tgt := 75) dX7_findDifferences_9 (by decide) (by omega) (by omega) (fun c => absurd c (by omega)) (fun hb_ => ?_)
    refine n_iconst (pc := 12) 0 dX7_findDifferences_12 (by decide) ?_
    refine e_istore (pc := 13) dX7_findDifferences_13 (by decide) ?_
    refine l_fd_j (hh := hh) (f := f) hk hb_ d (fun h3 hT3 hW3 he3 hu3 => ?_) W.2.1 0 rfl (Nat.zero_le _) h1 hT hW he hu
    refine n_inc (pc := 69) dX7_findDifferences_69 rfl (by decide) ?_
    refine e_goto (pc := 72) (tgt := 7) dX7_findDifferences_72 (by decide) ?_
    exact ih (i + 1) (by omega) (by omega) h3 hT3 hW3 he3 hu3
end FD
theorem c_X7_findDifferences (hT : TSh h E) (hW : WAt h o W f) (hk : Wok W) (d : o + 3 ≤ E ∨ E + 89 ≤ o) : CV yX7_findDifferences MX7_findDifferences [.ref (E + 83), .ref o] h (fun h' => TSh h' E ∧ WAt h' o W f ∧ Fr E o h h' ∧ DAt h' E W) := by
  obtain ⟨-, -, -, -, ⟨g, hg⟩, -⟩ := id hT
  obtain ⟨w0, -, -⟩ := id hW
  refine CV.ofV (by decide) rfl rfl (by simp [Value.category]) (by exact Nat.le_of_ble_eq_true rfl) (fun sz => ?_)
  refine e_aload_n (pc := 0) dX7_findDifferences_0 rfl rfl ?_
  refine n_VP (pc := 1) (c_X9_size hW) bX9_size q_i_X9_size q_s_X9_size q_m_X7_70 dX7_findDifferences_1 rfl rfl (by repeat (first | assumption | exact hset_eq _ _ _ | rw [hset_ne _ _ (by omega)])) rfl rfl (by exact Nat.le_of_ble_eq_true rfl) ⟨by decide, by decide⟩ ⟨rfl, rfl, Nat.zero_le _, Nat.zero_le _⟩ ?_
  refine e_istore_n (pc := 4) dX7_findDifferences_4 rfl (by decide) ?_
  refine n_iconst (pc := 5) 0 dX7_findDifferences_5 (by decide) ?_
  refine e_istore_n (pc := 6) dX7_findDifferences_6 rfl (by decide) ?_
  exact l_fd_i hk d W.2.1 0 rfl (Nat.zero_le _) h hT hW (Fr.rf E o h) ⟨g, hg, fun a b c ha hb hc hx => absurd hx (by omega)⟩
section DN
variable {sz : Nat} {hh : AH} {D : Nat → Nat} {g : Nat → Int32} {s st : Nat}
def DSys (W : Wd) (D : Nat → Nat) (m : Nat) (u : Nat → Nat) : Prop := ∀ k, k < m → dot W.2.1 (fun t => dg W.1 (D t) k) u % W.1 = 0
theorem l_dn_i {k r : Nat} {led : Nat → Bool} {rows : Nat → Nat → Nat} (hT : TSh hh E) (hk : Wok W) (hg : hh (E + 86) = some (aI 125 g)) (hD : ∀ t, t < W.2.1 → g (s + st * t) = nI (D t) ∧ D t < 3125) (hs : ∀ t, t < W.2.1 → s + st * t < 125) (hkk : k < W.2.1) {Pr : AH → Prop}
    (kk : ∀ h1, EAt h1 E W.1 W.2.1 r led rows (fun t => dg W.1 (D t) k) → Ee E hh h1 → VV MX7_demandNought sz Pr h1 99 [some (.ref (E + 83)), some (.ref o), some (.int (nI s)), some (.int (nI st)), some (.int (nI W.2.1)), some (.int (nI W.1)), some (.int (nI k)), none, none] []) :
    ∀ (n i : Nat), n = W.2.1 - i → i ≤ W.2.1 → ∀ h1, EAt h1 E W.1 W.2.1 r led rows (fun t => if t < i then dg W.1 (D t) k else 0) → Ee E hh h1 → VV MX7_demandNought sz Pr h1 55 [some (.ref (E + 83)), some (.ref o), some (.int (nI s)), some (.int (nI st)), some (.int (nI W.2.1)), some (.int (nI W.1)), some (.int (nI k)), some (.int (nI (W.1 ^ k))), some (.int (nI i))] [] := by
  obtain ⟨b1, b2, b3, b4, b5⟩ := hk.b
  have qk := pow_q hk hkk
  have qp : 0 < W.1 ^ k := Nat.pow_pos (by omega)
  intro n
  induction n with
  | zero =>
    intro i e1 e2 h1 hE he
    have e' : i = W.2.1 := by omega
    subst e'
    refine e_iload (pc := 55) dX7_demandNought_55 rfl ?_
    refine e_iload (pc := 57) dX7_demandNought_57 rfl ?_
    refine n_icmp_ge (pc := 59) (tgt := 99) dX7_demandNought_59 (by decide) (by omega) (by omega) (fun hb_ => ?_) (fun c => absurd c (by omega))
    refine V.mask [true, true, true, true, true, true, true, false, false] ?_
    exact kk h1 (hE.nxc (fun c hc => if_pos hc)) he
  | succ n ih =>
    intro i e1 e2 h1 hE he
    have hi : i < W.2.1 := by omega
    obtain ⟨g1, g2⟩ := hD i hi
    have s1 := hs i hi
    have q9 := Nat.div_le_self (D i) (W.1 ^ k)
    have t0 := (he (E + 83) (by omega)).trans hT.2.1
    have u0 := (he (E + 86) (by omega)).trans hg
    obtain ⟨z0, -, -, -, -⟩ := id hE
    refine e_iload (pc := 55) dX7_demandNought_55 rfl ?_
    refine e_iload (pc := 57) dX7_demandNought_57 rfl ?_
    refine n_icmp_ge (pc := 59) (tgt := 99) dX7_demandNought_59 (by decide) (by omega) (by omega) (fun c => absurd c (by omega)) (fun hb_ => ?_)
    refine e_iload (pc := 62) dX7_demandNought_62 rfl ?_
    refine n_if_le (pc := 64) (tgt := 99) dX7_demandNought_64 (by decide) (by omega) (fun c => absurd c (by omega)) (fun hb_ => ?_)
    refine e_aload_n (pc := 67) dX7_demandNought_67 rfl rfl ?_
    refine e_get (pc := 68) fl_X7_28 dX7_demandNought_68 (by repeat (first | assumption | exact hset_eq _ _ _ | rw [hset_ne _ _ (by omega)])) (by rfl) ?_
    refine e_iload (pc := 71) dX7_demandNought_71 rfl ?_
    refine e_aload_n (pc := 73) dX7_demandNought_73 rfl rfl ?_
    refine e_get (pc := 74) fl_X7_18 dX7_demandNought_74 (by repeat (first | assumption | exact hset_eq _ _ _ | rw [hset_ne _ _ (by omega)])) (by rfl) ?_
    refine e_iload_n (pc := 77) dX7_demandNought_77 rfl rfl ?_
    refine e_iload_n (pc := 78) dX7_demandNought_78 rfl rfl ?_
    refine e_iload (pc := 79) dX7_demandNought_79 rfl ?_
    refine n_imul (pc := 81) dX7_demandNought_81 ?_
    refine n_iadd (pc := 82) dX7_demandNought_82 ?_
    refine e_ialdN (pc := 83) _ dX7_demandNought_83 (by repeat (first | assumption | exact hset_eq _ _ _ | rw [hset_ne _ _ (by omega)])) (by rfl) (by omega) (by first | decide | omega) ?_
    rw [g1]
    refine e_iload (pc := 84) dX7_demandNought_84 rfl ?_
    refine n_idiv (pc := 86) dX7_demandNought_86 (by omega) (by omega) (by omega) ?_
    refine e_iload (pc := 87) dX7_demandNought_87 rfl ?_
    refine n_irem (pc := 89) dX7_demandNought_89 (by omega) (by omega) (by omega) ?_
    refine n_Vv (pc := 90) (c_X0_add hE (by omega) (by omega) hi (show D i / W.1 ^ k % W.1 < 2 ^ 30 by have := Nat.mod_lt (D i / W.1 ^ k) (show 0 < W.1 by omega); omega) (by rw [if_neg (Nat.lt_irrefl i)]; omega)) bX0_add q_i_X0_add q_s_X0_add q_m_X7_136 dX7_demandNought_90 rfl rfl (by repeat (first | assumption | exact hset_eq _ _ _ | rw [hset_ne _ _ (by omega)])) rfl rfl (by exact Nat.le_of_ble_eq_true rfl) ⟨by decide, by decide⟩ ⟨rfl, rfl, Nat.zero_le _, Nat.zero_le _⟩ (fun h2 hp => ?_)
    obtain ⟨p1, p2⟩ := hp
    refine n_inc (pc := 93) dX7_demandNought_93 rfl (by decide) ?_
    refine e_goto (pc := 96) (tgt := 55) dX7_demandNought_96 (by decide) ?_
    refine ih (i + 1) (by omega) (by omega) h2 (p1.nxc (fun t ht => ?_)) (he.tr p2)
    by_cases e : t = i
    · subst e
      rw [if_pos rfl, if_neg (Nat.lt_irrefl t), if_pos (by omega), Nat.zero_add]
      exact Nat.mod_mod _ _
    · rw [if_neg e]
      by_cases e3 : t < i
      · rw [if_pos e3, if_pos (by omega)]
      · rw [if_neg e3, if_neg (by omega)]
theorem l_dn_k {S : (Nat → Nat) → Prop} (hT : TSh hh E) (hW : WAt hh o W f) (d : o + 3 ≤ E ∨ E + 89 ≤ o) (hk : Wok W) (hg : hh (E + 86) = some (aI 125 g)) (hD : ∀ t, t < W.2.1 → g (s + st * t) = nI (D t) ∧ D t < 3125) (hs : ∀ t, t < W.2.1 → s + st * t < 125) :
    ∀ (n k : Nat), n = W.2.1 - k → k ≤ W.2.1 → ∀ h1, ES h1 E W.1 W.2.1 (fun u => S u ∧ DSys W D k u) → Ee E hh h1 → VV MX7_demandNought sz (fun h' => ES h' E W.1 W.2.1 (fun u => S u ∧ DSys W D W.2.1 u) ∧ Ee E hh h') h1 37 [some (.ref (E + 83)), some (.ref o), some (.int (nI s)), some (.int (nI st)), some (.int (nI W.2.1)), some (.int (nI W.1)), some (.int (nI k)), none, none] [] := by
  obtain ⟨b1, b2, b3, b4, b5⟩ := hk.b
  intro n
  induction n with
  | zero =>
    intro k e1 e2 h1 hE he
    have e' : k = W.2.1 := by omega
    subst e'
    refine e_iload (pc := 37) dX7_demandNought_37 rfl ?_
    refine e_iload (pc := 39) dX7_demandNought_39 rfl ?_
    refine n_icmp_ge (pc := 41) (tgt := 113) dX7_demandNought_41 (by decide) (by omega) (by omega) (fun hb_ => ?_) (fun c => absurd c (by omega))
    exact n_vret (pc := 113) dX7_demandNought_113 rfl ⟨hE, he⟩
  | succ n ih =>
    intro k e1 e2 h1 hE he
    have hkk : k < W.2.1 := by omega
    have hW1 : WAt h1 o W f := hW.er he.er (by omega)
    obtain ⟨w0, -, -⟩ := id hW1
    obtain ⟨r, led, rows, a1, a2, a3, a4⟩ := hE
    refine e_iload (pc := 37) dX7_demandNought_37 rfl ?_
    refine e_iload (pc := 39) dX7_demandNought_39 rfl ?_
    refine n_icmp_ge (pc := 41) (tgt := 113) dX7_demandNought_41 (by decide) (by omega) (by omega) (fun c => absurd c (by omega)) (fun hb_ => ?_)
    refine e_aload_n (pc := 44) dX7_demandNought_44 rfl rfl ?_
    refine e_iload (pc := 45) dX7_demandNought_45 rfl ?_
    refine n_VP (pc := 47) (c_X9_base hW1 hk (show k ≤ 5 by omega)) bX9_base q_i_X9_base q_s_X9_base q_m_X7_73 dX7_demandNought_47 rfl rfl (by repeat (first | assumption | exact hset_eq _ _ _ | rw [hset_ne _ _ (by omega)])) rfl rfl (by exact Nat.le_of_ble_eq_true rfl) ⟨by decide, by decide⟩ ⟨rfl, rfl, Nat.zero_le _, Nat.zero_le _⟩ ?_
    refine e_istore (pc := 50) dX7_demandNought_50 (by decide) ?_
    refine n_iconst (pc := 52) 0 dX7_demandNought_52 (by decide) ?_
    refine e_istore (pc := 53) dX7_demandNought_53 (by decide) ?_
    refine l_dn_i (o := o) (hh := hh) (r := r) (led := led) (rows := rows) hT hk hg hD hs hkk (fun h3 hE3 he3 => ?_) W.2.1 0 rfl (Nat.zero_le _) h1 (a1.nxc (fun t _ => (if_neg (Nat.not_lt_zero t)).symm)) he
    have t0 := (he3 (E + 83) (by omega)).trans hT.2.1
    obtain ⟨z0, -, -, -, -⟩ := id hE3
    refine e_aload_n (pc := 99) dX7_demandNought_99 rfl rfl ?_
    refine e_get (pc := 100) fl_X7_28 dX7_demandNought_100 (by repeat (first | assumption | exact hset_eq _ _ _ | rw [hset_ne _ _ (by omega)])) (by rfl) ?_
    refine n_V (pc := 103) (c_X0_settle hE3 hk.1 (by omega) a2 a3 (fun t _ => dg_lt (by omega) _ _)) bX0_settle q_i_X0_settle q_s_X0_settle q_m_X7_139 dX7_demandNought_103 rfl rfl (by repeat (first | assumption | exact hset_eq _ _ _ | rw [hset_ne _ _ (by omega)])) rfl rfl (by exact Nat.le_of_ble_eq_true rfl) ⟨by decide, by decide⟩ ⟨rfl, rfl, Nat.zero_le _, Nat.zero_le _⟩ (fun z h4 hp => ?_)
    obtain ⟨bb, r2, led2, rows2, rfl, p1, ⟨s1, s2, s3, s4, s5⟩, p2⟩ := hp
    refine e_pop (pc := 106) dX7_demandNought_106 rfl ?_
    refine n_inc (pc := 107) dX7_demandNought_107 rfl (by decide) ?_
    refine e_goto (pc := 110) (tgt := 37) dX7_demandNought_110 (by decide) ?_
    refine ih (k + 1) (by omega) (by omega) h4 ⟨r2, led2, rows2, p1, s3, s4, fun u => ?_⟩ (he3.tr p2)
    rw [s5 u, a4 u]
    constructor
    · intro ⟨⟨y1, y2⟩, y3⟩
      refine ⟨y1, fun c hc => ?_⟩
      by_cases e : c = k
      · subst e; exact y3
      · exact y2 c (by omega)
    · intro ⟨y1, y2⟩
      exact ⟨⟨y1, fun c hc => y2 c (by omega)⟩, y2 k (by omega)⟩
theorem c_X7_demandNought {S : (Nat → Nat) → Prop} (hT : TSh h E) (hW : WAt h o W f) (hk : Wok W) (d : o + 3 ≤ E ∨ E + 89 ≤ o) (hg : h (E + 86) = some (aI 125 g)) (hD : ∀ t, t < W.2.1 → g (s + st * t) = nI (D t) ∧ D t < 3125) (hs : ∀ t, t < W.2.1 → s + st * t < 125) (hs2 : s < 125 ∧ st < 125) (hE : ES h E W.1 W.2.1 S) : CV yX7_demandNought MX7_demandNought [.ref (E + 83), .ref o, .int (nI s), .int (nI st)] h (fun h' => ES h' E W.1 W.2.1 (fun u => S u ∧ DSys W D W.2.1 u) ∧ Ee E h h') := by
  obtain ⟨b1, b2, b3, b4, b5⟩ := hk.b
  obtain ⟨w0, -, -⟩ := id hW
  have s9 := hs (W.2.1 - 1) (by omega)
  refine CV.ofV (by decide) rfl rfl (by simp [Value.category]) (by exact Nat.le_of_ble_eq_true rfl) (fun sz => ?_)
  refine e_aload_n (pc := 0) dX7_demandNought_0 rfl rfl ?_
  refine n_VP (pc := 1) (c_X9_size hW) bX9_size q_i_X9_size q_s_X9_size q_m_X7_70 dX7_demandNought_1 rfl rfl (by repeat (first | assumption | exact hset_eq _ _ _ | rw [hset_ne _ _ (by omega)])) rfl rfl (by exact Nat.le_of_ble_eq_true rfl) ⟨by decide, by decide⟩ ⟨rfl, rfl, Nat.zero_le _, Nat.zero_le _⟩ ?_
  refine e_istore (pc := 4) dX7_demandNought_4 (by decide) ?_
  refine e_aload_n (pc := 6) dX7_demandNought_6 rfl rfl ?_
  refine n_VP (pc := 7) (c_X9_prime hW) bX9_prime q_i_X9_prime q_s_X9_prime q_m_X7_81 dX7_demandNought_7 rfl rfl (by repeat (first | assumption | exact hset_eq _ _ _ | rw [hset_ne _ _ (by omega)])) rfl rfl (by exact Nat.le_of_ble_eq_true rfl) ⟨by decide, by decide⟩ ⟨rfl, rfl, Nat.zero_le _, Nat.zero_le _⟩ ?_
  refine e_istore (pc := 10) dX7_demandNought_10 (by decide) ?_
  refine e_iload_n (pc := 12) dX7_demandNought_12 rfl rfl ?_
  refine n_if_lt (pc := 13) (tgt := 33) dX7_demandNought_13 (by omega) ?_ (by decide)
  refine e_iload_n (pc := 16) dX7_demandNought_16 rfl rfl ?_
  refine n_if_lt (pc := 17) (tgt := 33) dX7_demandNought_17 (by omega) ?_ (by decide)
  refine e_iload_n (pc := 20) dX7_demandNought_20 rfl rfl ?_
  refine e_iload_n (pc := 21) dX7_demandNought_21 rfl rfl ?_
  refine e_iload (pc := 22) dX7_demandNought_22 rfl ?_
  refine n_iconst (pc := 24) 1 dX7_demandNought_24 (by decide) ?_
  refine n_isub (pc := 25) dX7_demandNought_25 (by omega) ?_
  refine n_imul (pc := 26) dX7_demandNought_26 ?_
  refine n_iadd (pc := 27) dX7_demandNought_27 ?_
  refine n_bipush (pc := 28) 125 dX7_demandNought_28 (by decide) ?_
  refine n_icmp_lt (pc := 30) (tgt := 34) dX7_demandNought_30 (by decide) (by omega) (by omega) (fun hb_ => ?_) (fun c => absurd c (by omega))
  refine n_iconst (pc := 34) 0 dX7_demandNought_34 (by decide) ?_
  refine e_istore (pc := 35) dX7_demandNought_35 (by decide) ?_
  exact l_dn_k hT hW d hk hg hD hs W.2.1 0 rfl (Nat.zero_le _) h (hE.congr (fun u => ⟨fun q => ⟨q, fun k hk => absurd hk (Nat.not_lt_zero k)⟩, fun q => q.1⟩)) (Ee.rf E h)
end DN
end SW
