/-! ===== the reference: images that are not made of one another ===== -/
theorem row_le {p n : Nat} {c : Nat → Nat} (hp : Pm p) {k r : Nat} (h : isRank p n (SM p n k c) r) : ∃ r2, r2 ≤ r + 1 ∧ isRank p n (SM p n (k + 1) c) r2 := by
  have hp0 : 0 < p := by rcases hp with rfl | rfl | rfl <;> decide
  obtain ⟨led, rows, o1, o2, o3⟩ := h
  obtain ⟨led2, rows2, q1, q2, q3⟩ := settle_ex2 hp o1 (dg p (c k)) n 0 (dg p (c k)) rfl (Nat.zero_le _) (fun t _ => dg_lt hp0 (c k) t) (fun t ht => absurd ht (Nat.not_lt_zero t)) (fun u _ => Iff.rfl)
  refine ⟨rk n led2, by omega, led2, rows2, q1, rfl, fun u => ?_⟩
  rw [q3 u, o3 u]
  constructor
  · intro ⟨y1, y2⟩ a ha
    by_cases e : a = k
    · subst e; exact y2
    · exact y1 a (by omega)
  · intro q
    exact ⟨fun a ha => q a (by omega), q k (by omega)⟩
theorem row_0 {p n : Nat} {c : Nat → Nat} : isRank p n (SM p n 0 c) 0 := ⟨_, _, EOk_0 p n, (rk_0 n).symm, fun u => ⟨fun _ a ha => absurd ha (Nat.not_lt_zero a), fun _ => Sol_0 p n u⟩⟩
theorem row_up {p n : Nat} {c : Nat → Nat} (hp : Pm p) {k r : Nat} (h : isRank p n (SM p n k c) r) : ∀ j, ∃ r2, r2 ≤ r + j ∧ isRank p n (SM p n (k + j) c) r2
  | 0 => ⟨r, Nat.le_refl _, h⟩
  | j + 1 => by
    obtain ⟨r2, q1, q2⟩ := row_up hp h j
    obtain ⟨r3, q3, q4⟩ := row_le hp q2
    exact ⟨r3, by omega, q4⟩
theorem row_full {p n : Nat} {c : Nat → Nat} (hp : Pm p) (hf : isRank p n (SM p n n c) n) {k r : Nat} (hk : k ≤ n) (h : isRank p n (SM p n k c) r) : r = k := by
  obtain ⟨r1, q1, q2⟩ := row_up hp (row_0 (p := p) (n := n) (c := c)) k
  rw [Nat.zero_add] at q2
  have e1 := rank_uniq hp h q2 (fun _ => Iff.rfl)
  obtain ⟨r2, q3, q4⟩ := row_up hp h (n - k)
  rw [show k + (n - k) = n by omega] at q4
  have e2 := rank_uniq hp hf q4 (fun _ => Iff.rfl)
  omega
section FR
variable {m : Nat} {s : Ms} {W : Wd} {sz : Nat} {hh : AH}
theorem vm_row (hk : Wok W) {c : Nat → Nat} (hc : ∀ i, i < W.2.1 → c i < W.1 ^ W.2.1) (y : Nat) : vm W.1 W.2.1 (mrow W.1 c) y = 0 ↔ lin W.1 W.2.1 c y = 0 := by
  obtain ⟨b1, b2, b3, b4, b5⟩ := hk.b
  rw [vm_0 (by omega), lin_eq0 (m := W.2.1) (by omega) b4 hc]
  have e : ∀ k, sg W.2.1 (fun a => dg W.1 y a * mrow W.1 c a k) = dot W.2.1 (fun i => dg W.1 (c i) k) (dg W.1 y) := fun k => sg_congr (fun a _ => Nat.mul_comm _ _)
  constructor
  · intro q k hk2; rw [← e k]; exact q k hk2
  · intro q k hk2; rw [e k]; exact q k hk2
theorem one_ind (hk : Wok W) {c : Nat → Nat} (hc : ∀ i, i < W.2.1 → c i < W.1 ^ W.2.1) {r : Nat} (h : isRank W.1 W.2.1 (SM W.1 W.2.1 W.2.1 c) r) : r = W.2.1 ↔ Ind W.1 W.2.1 c W.2.1 := by
  obtain ⟨b1, b2, b3, b4, b5⟩ := hk.b
  rw [full_iff hk.1 h]
  constructor
  · intro q
    refine Ind_of_inj hk.1 b4 (Nat.le_refl _) hc (ker_inj hk.1 b4 (Nat.le_refl _) hc (fun z hz e => ?_))
    rcases Nat.eq_zero_or_pos z with h0 | h0
    · exact h0
    · exact absurd ((vm_row hk hc z).mpr e) (q z h0 hz)
  · intro q y y0 y1 e
    have := Ind_ker hk.1 b4 (Nat.le_refl _) hc q y y1 ((vm_row hk hc y).mp e)
    omega
theorem one_rkf (hk : Wok W) {c : Nat → Nat} (hc : ∀ i, i < W.2.1 → c i < W.1 ^ W.2.1) : rkf W.1 W.2.1 (SolM W.1 W.2.1 W.2.1 (mrow W.1 c)) = W.2.1 ↔ Ind W.1 W.2.1 c W.2.1 := one_ind hk hc (Classical.epsilon_spec (rank_ex hk.1 (mrow W.1 c) W.2.1))
theorem l_fe_zk {π : Nat → Nat} {i : Nat} {x1 : Option Value} {Pr : Int32 → AH → Prop} (hM : MH hh m W.1 W.2.1 (W.1 ^ W.2.1) s) (hn : W.2.1 ≤ 5) (hπ : Pi5 π) (hi : i < W.2.1)
    (kk : ∀ h G, Er (m + 11) (m + 17) hh h → MxI h m π G → (∀ a b, a < i + 1 → b < W.2.1 → G a b = nI 0) → VI MX11_isFree sz Pr h 35 [some (.ref m), x1, some (.int (nI i)), none] []) :
    ∀ (t j : Nat), t = W.2.1 - j → j ≤ W.2.1 → ∀ h G, Er (m + 11) (m + 17) hh h → MxI h m π G → (∀ a b, (a < i ∨ a = i ∧ b < j) → b < W.2.1 → G a b = nI 0) → VI MX11_isFree sz Pr h 12 [some (.ref m), x1, some (.int (nI i)), some (.int (nI j))] [] := by
  intro t
  induction t with
  | zero =>
    intro j e1 e2 h G er hx hG
    have e' : j = W.2.1 := by omega
    subst e'
    have hM1 : MH h m W.1 W.2.1 (W.1 ^ W.2.1) s := (er _ (by omega)).trans hM
    refine e_iload_n (pc := 12) dX11_isFree_12 rfl rfl ?_
    refine e_aload_n (pc := 13) dX11_isFree_13 rfl rfl ?_
    refine e_get (pc := 14) fl_X11_109 dX11_isFree_14 (by repeat (first | assumption | exact hset_eq _ _ _ | (apply Lay.hd; assumption) | rw [hset_ne _ _ (by omega)])) (by rfl) ?_
    refine n_icmp_ge (pc := 17) (tgt := 35) dX11_isFree_17 (by decide) (by omega) (by omega) (fun hb_ => ?_) (fun c => absurd c (by omega))
    refine V.mask [true, true, true, false] ?_
    exact kk h G er hx (fun a b h1 h2 => hG a b (by omega) h2)
  | succ t ih =>
    intro j e1 e2 h G er hx hG
    have hM1 : MH h m W.1 W.2.1 (W.1 ^ W.2.1) s := (er _ (by omega)).trans hM
    obtain ⟨⟨f, f1, f2⟩, x3⟩ := id hx
    have r1 := x3 i (by omega)
    have pi := hπ.1 i (by omega)
    refine e_iload_n (pc := 12) dX11_isFree_12 rfl rfl ?_
    refine e_aload_n (pc := 13) dX11_isFree_13 rfl rfl ?_
    refine e_get (pc := 14) fl_X11_109 dX11_isFree_14 (by repeat (first | assumption | exact hset_eq _ _ _ | (apply Lay.hd; assumption) | rw [hset_ne _ _ (by omega)])) (by rfl) ?_
    refine n_icmp_ge (pc := 17) (tgt := 35) dX11_isFree_17 (by decide) (by omega) (by omega) (fun c => absurd c (by omega)) (fun hb_ => ?_)
    refine e_aload_n (pc := 20) dX11_isFree_20 rfl rfl ?_
    refine e_get (pc := 21) fl_X11_46 dX11_isFree_21 (by repeat (first | assumption | exact hset_eq _ _ _ | (apply Lay.hd; assumption) | rw [hset_ne _ _ (by omega)])) (by rfl) ?_
    refine e_iload_n (pc := 24) dX11_isFree_24 rfl rfl ?_
    refine e_aldGS (pc := 25) i dX11_isFree_25 (by repeat (first | assumption | exact hset_eq _ _ _ | (apply Lay.hd; assumption) | rw [hset_ne _ _ (by omega)])) (by rfl) (by omega) (by first | decide | omega) (f2 i (by omega)) ?_
    refine e_iload_n (pc := 26) dX11_isFree_26 rfl rfl ?_
    refine n_iconst (pc := 27) 0 dX11_isFree_27 (by decide) ?_
    refine e_iastN (pc := 28) j dX11_isFree_28 (by repeat (first | assumption | exact hset_eq _ _ _ | (apply Lay.hd; assumption) | rw [hset_ne _ _ (by omega)])) (by rfl) (by omega) (by first | decide | omega) ?_
    refine n_inc (pc := 29) dX11_isFree_29 rfl (by decide) ?_
    refine e_goto (pc := 32) (tgt := 12) dX11_isFree_32 (by decide) ?_
    refine ih (j + 1) (by omega) (by omega) _ _ (er.set (by omega)) (hx.put hπ (by omega)) (fun a b h1 h2 => ?_)
    show (if a = i then upd (G i) j _ else G a) b = _
    by_cases ea : a = i
    · subst ea
      rw [if_pos rfl]
      by_cases eb : b = j
      · subst eb; rw [pk_us]
      · rw [pk_un eb]; exact hG a b (by omega) h2
    · rw [if_neg ea]; exact hG a b (by omega) h2
theorem l_fe_zi {π : Nat → Nat} {x1 : Option Value} {Pr : Int32 → AH → Prop} (hM : MH hh m W.1 W.2.1 (W.1 ^ W.2.1) s) (hn : W.2.1 ≤ 5) (hπ : Pi5 π)
    (kk : ∀ h G, Er (m + 11) (m + 17) hh h → MxI h m π G → (∀ a b, a < W.2.1 → b < W.2.1 → G a b = nI 0) → VI MX11_isFree sz Pr h 41 [some (.ref m), x1, none, none] []) :
    ∀ (t i : Nat), t = W.2.1 - i → i ≤ W.2.1 → ∀ h G, Er (m + 11) (m + 17) hh h → MxI h m π G → (∀ a b, a < i → b < W.2.1 → G a b = nI 0) → VI MX11_isFree sz Pr h 2 [some (.ref m), x1, some (.int (nI i)), none] [] := by
  intro t
  induction t with
  | zero =>
    intro i e1 e2 h G er hx hG
    have e' : i = W.2.1 := by omega
    subst e'
    have hM1 : MH h m W.1 W.2.1 (W.1 ^ W.2.1) s := (er _ (by omega)).trans hM
    refine e_iload_n (pc := 2) dX11_isFree_2 rfl rfl ?_
    refine e_aload_n (pc := 3) dX11_isFree_3 rfl rfl ?_
    refine e_get (pc := 4) fl_X11_109 dX11_isFree_4 (by repeat (first | assumption | exact hset_eq _ _ _ | (apply Lay.hd; assumption) | rw [hset_ne _ _ (by omega)])) (by rfl) ?_
    refine n_icmp_ge (pc := 7) (tgt := 41) dX11_isFree_7 (by decide) (by omega) (by omega) (fun hb_ => ?_) (fun c => absurd c (by omega))
    refine V.mask [true, true, false, false] ?_
    exact kk h G er hx hG
  | succ t ih =>
    intro i e1 e2 h G er hx hG
    have hM1 : MH h m W.1 W.2.1 (W.1 ^ W.2.1) s := (er _ (by omega)).trans hM
    refine e_iload_n (pc := 2) dX11_isFree_2 rfl rfl ?_
    refine e_aload_n (pc := 3) dX11_isFree_3 rfl rfl ?_
    refine e_get (pc := 4) fl_X11_109 dX11_isFree_4 (by repeat (first | assumption | exact hset_eq _ _ _ | (apply Lay.hd; assumption) | rw [hset_ne _ _ (by omega)])) (by rfl) ?_
    refine n_icmp_ge (pc := 7) (tgt := 41) dX11_isFree_7 (by decide) (by omega) (by omega) (fun c => absurd c (by omega)) (fun hb_ => ?_)
    refine n_iconst (pc := 10) 0 dX11_isFree_10 (by decide) ?_
    refine e_istore_n (pc := 11) dX11_isFree_11 rfl (by decide) ?_
    refine l_fe_zk hM hn hπ (show i < W.2.1 by omega) (fun h2 G2 er2 hx2 hG2 => ?_) W.2.1 0 rfl (Nat.zero_le _) h G er hx (fun a b h1 h2 => hG a b (by omega) h2)
    refine n_inc (pc := 35) dX11_isFree_35 rfl (by decide) ?_
    refine e_goto (pc := 38) (tgt := 2) dX11_isFree_38 (by decide) ?_
    exact ih (i + 1) (by omega) (by omega) h2 G2 er2 hx2 hG2
theorem l_fe_fk {π : Nat → Nat} {i : Nat} {R : Nat → Nat} {x1 : Option Value} {Pr : Int32 → AH → Prop} {B : Nat → Nat → Int32} (hM : MH hh m W.1 W.2.1 (W.1 ^ W.2.1) s) (hn : W.2.1 ≤ 5) (hπ : Pi5 π) (hi : i < W.2.1) (hd : ∃ g, hh (m + 4) = some (aI 5 g) ∧ ∀ j, j < W.2.1 → g j = nI (R j))
    (kk : ∀ h G, Er (m + 11) (m + 17) hh h → MxI h m π G → (∀ a b, a < W.2.1 → b < W.2.1 → G a b = if a = i then nI (R b) else B a b) → VI MX11_isFree sz Pr h 92 [some (.ref m), x1, some (.int (nI i)), none] []) :
    ∀ (t j : Nat), t = W.2.1 - j → j ≤ W.2.1 → ∀ h G, Er (m + 11) (m + 17) hh h → MxI h m π G → (∀ a b, a < W.2.1 → b < W.2.1 → G a b = if a = i ∧ b < j then nI (R b) else B a b) → VI MX11_isFree sz Pr h 64 [some (.ref m), x1, some (.int (nI i)), some (.int (nI j))] [] := by
  intro t
  induction t with
  | zero =>
    intro j e1 e2 h G er hx hG
    have e' : j = W.2.1 := by omega
    subst e'
    have hM1 : MH h m W.1 W.2.1 (W.1 ^ W.2.1) s := (er _ (by omega)).trans hM
    refine e_iload_n (pc := 64) dX11_isFree_64 rfl rfl ?_
    refine e_aload_n (pc := 65) dX11_isFree_65 rfl rfl ?_
    refine e_get (pc := 66) fl_X11_109 dX11_isFree_66 (by repeat (first | assumption | exact hset_eq _ _ _ | (apply Lay.hd; assumption) | rw [hset_ne _ _ (by omega)])) (by rfl) ?_
    refine n_icmp_ge (pc := 69) (tgt := 92) dX11_isFree_69 (by decide) (by omega) (by omega) (fun hb_ => ?_) (fun c => absurd c (by omega))
    refine V.mask [true, true, true, false] ?_
    refine kk h G er hx (fun a b h1 h2 => ?_)
    rw [hG a b h1 h2]
    by_cases ea : a = i
    · rw [if_pos ⟨ea, h2⟩, if_pos ea]
    · rw [if_neg (fun q => ea q.1), if_neg ea]
  | succ t ih =>
    intro j e1 e2 h G er hx hG
    have hM1 : MH h m W.1 W.2.1 (W.1 ^ W.2.1) s := (er _ (by omega)).trans hM
    obtain ⟨⟨f, f1, f2⟩, x3⟩ := id hx
    have r1 := x3 i (by omega)
    have pi := hπ.1 i (by omega)
    obtain ⟨gd, d1, d2⟩ := id hd
    have d1' : h (m + 4) = some (aI 5 gd) := (er _ (by omega)).trans d1
    have z := d2 j (by omega)
    refine e_iload_n (pc := 64) dX11_isFree_64 rfl rfl ?_
    refine e_aload_n (pc := 65) dX11_isFree_65 rfl rfl ?_
    refine e_get (pc := 66) fl_X11_109 dX11_isFree_66 (by repeat (first | assumption | exact hset_eq _ _ _ | (apply Lay.hd; assumption) | rw [hset_ne _ _ (by omega)])) (by rfl) ?_
    refine n_icmp_ge (pc := 69) (tgt := 92) dX11_isFree_69 (by decide) (by omega) (by omega) (fun c => absurd c (by omega)) (fun hb_ => ?_)
    refine e_aload_n (pc := 72) dX11_isFree_72 rfl rfl ?_
    refine e_get (pc := 73) fl_X11_46 dX11_isFree_73 (by repeat (first | assumption | exact hset_eq _ _ _ | (apply Lay.hd; assumption) | rw [hset_ne _ _ (by omega)])) (by rfl) ?_
    refine e_iload_n (pc := 76) dX11_isFree_76 rfl rfl ?_
    refine e_aldGS (pc := 77) i dX11_isFree_77 (by repeat (first | assumption | exact hset_eq _ _ _ | (apply Lay.hd; assumption) | rw [hset_ne _ _ (by omega)])) (by rfl) (by omega) (by first | decide | omega) (f2 i (by omega)) ?_
    refine e_iload_n (pc := 78) dX11_isFree_78 rfl rfl ?_
    refine e_aload_n (pc := 79) dX11_isFree_79 rfl rfl ?_
    refine e_get (pc := 80) fl_X11_19 dX11_isFree_80 (by repeat (first | assumption | exact hset_eq _ _ _ | (apply Lay.hd; assumption) | rw [hset_ne _ _ (by omega)])) (by rfl) ?_
    refine e_iload_n (pc := 83) dX11_isFree_83 rfl rfl ?_
    refine e_ialdN (pc := 84) j dX11_isFree_84 (by repeat (first | assumption | exact hset_eq _ _ _ | (apply Lay.hd; assumption) | rw [hset_ne _ _ (by omega)])) (by rfl) (by omega) (by first | decide | omega) ?_
    rw [z]
    refine e_iastN (pc := 85) j dX11_isFree_85 (by repeat (first | assumption | exact hset_eq _ _ _ | (apply Lay.hd; assumption) | rw [hset_ne _ _ (by omega)])) (by rfl) (by omega) (by first | decide | omega) ?_
    refine n_inc (pc := 86) dX11_isFree_86 rfl (by decide) ?_
    refine e_goto (pc := 89) (tgt := 64) dX11_isFree_89 (by decide) ?_
    refine ih (j + 1) (by omega) (by omega) _ _ (er.set (by omega)) (hx.put hπ (by omega)) (fun a b h1 h2 => ?_)
    show (if a = i then upd (G i) j _ else G a) b = _
    by_cases ea : a = i
    · subst ea
      rw [if_pos rfl]
      by_cases eb : b = j
      · subst eb; rw [pk_us, if_pos ⟨rfl, by omega⟩]
      · rw [pk_un eb, hG a b h1 h2]
        by_cases e5 : b < j
        · rw [if_pos ⟨rfl, e5⟩, if_pos ⟨rfl, by omega⟩]
        · rw [if_neg (fun q => e5 q.2), if_neg (fun q => by omega)]
    · rw [if_neg ea, hG a b h1 h2, if_neg (fun q => ea q.1), if_neg (fun q => ea q.1)]
theorem l_fe_fi {π : Nat → Nat} {e : Nat} {c : Nat → Nat} {Pr : Int32 → AH → Prop} (hL : Lay hh m W s) (hk : Wok W) (hπ : Pi5 π) (he : e < W.2.1) (hg : ∃ g, hh (m + 104) = some (aI 5 g) ∧ ∀ i, i ≤ e → g i = nI (c i)) (hc : ∀ i, i ≤ e → c i < W.1 ^ W.2.1)
    (kk : ∀ h G, FmD m hh h → MRo h m → MxI h m π G → (∀ a b, a < W.2.1 → b < W.2.1 → G a b = nI (if a < e + 1 then dg W.1 (c a) b else 0)) → VI MX11_isFree sz Pr h 98 [some (.ref m), some (.int (nI e)), none, none] []) :
    ∀ (t i : Nat), t = e + 1 - i → i ≤ e + 1 → ∀ h G, FmD m hh h → (∃ g, h (m + 4) = some (aI 5 g)) → MxI h m π G → (∀ a b, a < W.2.1 → b < W.2.1 → G a b = nI (if a < i then dg W.1 (c a) b else 0)) → VI MX11_isFree sz Pr h 43 [some (.ref m), some (.int (nI e)), some (.int (nI i)), none] [] := by
  obtain ⟨b1, b2, b3, b4, b5⟩ := hk.b
  obtain ⟨g, g1, g2⟩ := hg
  intro t
  induction t with
  | zero =>
    intro i e1 e2 h G fd h4 hX hG
    have e' : i = e + 1 := by omega
    subst e'
    refine e_iload_n (pc := 43) dX11_isFree_43 rfl rfl ?_
    refine e_iload_n (pc := 44) dX11_isFree_44 rfl rfl ?_
    refine n_icmp_gt (pc := 45) (tgt := 98) dX11_isFree_45 (by decide) (by omega) (by omega) (fun hb_ => ?_) (fun c => absurd c (by omega))
    refine V.mask [true, true, false, false] ?_
    exact kk h G fd (fd.ro hL hπ h4 hX) hX hG
  | succ t ih =>
    intro i e1 e2 h G fd h4 hX hG
    have hM1 : MH h m W.1 W.2.1 (W.1 ^ W.2.1) s := (fd _ (by omega) (by omega)).trans hL.1
    have g1' : h (m + 104) = some (aI 5 g) := (fd _ (by omega) (by omega)).trans g1
    obtain ⟨g4, r4⟩ := h4
    have cl := hc i (by omega)
    have z := g2 i (by omega)
    refine e_iload_n (pc := 43) dX11_isFree_43 rfl rfl ?_
    refine e_iload_n (pc := 44) dX11_isFree_44 rfl rfl ?_
    refine n_icmp_gt (pc := 45) (tgt := 98) dX11_isFree_45 (by decide) (by omega) (by omega) (fun c => absurd c (by omega)) (fun hb_ => ?_)
    refine e_aload_n (pc := 48) dX11_isFree_48 rfl rfl ?_
    refine e_aload_n (pc := 49) dX11_isFree_49 rfl rfl ?_
    refine e_get (pc := 50) fl_X11_86 dX11_isFree_50 (by repeat (first | assumption | exact hset_eq _ _ _ | (apply Lay.hd; assumption) | rw [hset_ne _ _ (by omega)])) (by rfl) ?_
    refine e_iload_n (pc := 53) dX11_isFree_53 rfl rfl ?_
    refine e_ialdN (pc := 54) i dX11_isFree_54 (by repeat (first | assumption | exact hset_eq _ _ _ | (apply Lay.hd; assumption) | rw [hset_ne _ _ (by omega)])) (by rfl) (by omega) (by first | decide | omega) ?_
    rw [z]
    refine e_aload_n (pc := 55) dX11_isFree_55 rfl rfl ?_
    refine e_get (pc := 56) fl_X11_19 dX11_isFree_56 (by repeat (first | assumption | exact hset_eq _ _ _ | (apply Lay.hd; assumption) | rw [hset_ne _ _ (by omega)])) (by rfl) ?_
    refine n_Vv (pc := 59) (c_X11_digits hM1 ⟨b1, b2⟩ b4 (show c i < 2 ^ 31 by omega) (by omega) r4) bX11_digits q_i_X11_digits q_s_X11_digits q_m_X11_115 dX11_isFree_59 rfl rfl (by repeat (first | assumption | exact hset_eq _ _ _ | (apply Lay.hd; assumption) | rw [hset_ne _ _ (by omega)])) rfl rfl (by exact Nat.le_of_ble_eq_true rfl) ⟨by decide, by decide⟩ ⟨rfl, rfl, Nat.zero_le _, Nat.zero_le _⟩ (fun h2 hp => ?_)
    obtain ⟨gx, rfl, x2⟩ := hp
    have hM2 : MH (hset h (m + 4) (aI 5 gx)) m W.1 W.2.1 (W.1 ^ W.2.1) s := (hset_ne _ _ (by omega)).trans hM1
    refine n_iconst (pc := 62) 0 dX11_isFree_62 (by decide) ?_
    refine e_istore_n (pc := 63) dX11_isFree_63 rfl (by decide) ?_
    refine l_fe_fk (R := dg W.1 (c i)) (B := G) hM2 b4 hπ (show i < W.2.1 by omega) ⟨gx, hset_eq _ _ _, fun j hj => by rw [x2 j (by omega)]; unfold dgn; rw [if_pos hj]⟩ (fun h2 G2 er2 hx2 hG2 => ?_) W.2.1 0 rfl (Nat.zero_le _) _ G (Er.rf _ _ _) (hX.keep hπ (fun a a1 a2 => hset_ne _ _ (by omega))) (fun a b h1 h2 => by rw [if_neg (fun q => absurd q.2 (Nat.not_lt_zero b))])
    refine n_inc (pc := 92) dX11_isFree_92 rfl (by decide) ?_
    refine e_goto (pc := 95) (tgt := 43) dX11_isFree_95 (by decide) ?_
    refine ih (i + 1) (by omega) (by omega) h2 G2 (fun b q1 q2 => ((er2 b (by omega)).trans (hset_ne _ _ q1)).trans (fd b q1 q2)) ⟨gx, (er2 _ (by omega)).trans (hset_eq _ _ _)⟩ hx2 (fun a b h1 h2 => ?_)
    rw [hG2 a b h1 h2]
    by_cases ea : a = i
    · rw [if_pos ea, if_pos (by omega), ea]
    · rw [if_neg ea, hG a b h1 h2]
      by_cases e5 : a < i
      · rw [if_pos e5, if_pos (by omega)]
      · rw [if_neg e5, if_neg (by omega)]
theorem c_X11_isFree {h : AH} {e : Nat} {c : Nat → Nat} {g : Nat → Int32} (hL : Lay h m W s) (hk : Wok W) (he : e < W.2.1) (hg1 : h (m + 104) = some (aI 5 g)) (hg2 : ∀ i, i ≤ e → g i = nI (c i)) (hc : ∀ i, i ≤ e → c i < W.1 ^ W.2.1) : CI yX11_isFree MX11_isFree [.ref m, .int (nI e)] h (fun z h' => (∃ b, z = bI b ∧ (b = false → ∀ d, (∀ t, t ≤ e → d t = c t) → (∀ t, t < W.2.1 → d t < W.1 ^ W.2.1) → ¬ Ind W.1 W.2.1 d W.2.1)) ∧ Lay h' m W s ∧ FmA m h h') := by
  obtain ⟨b1, b2, b3, b4, b5⟩ := hk.b
  obtain ⟨π, G, hπ, hG⟩ := hL.2.2.mxi
  refine CI.ofV (by decide) rfl rfl (by simp [Value.category]) (by exact Nat.le_of_ble_eq_true rfl) (fun sz => ?_)
  refine n_iconst (pc := 0) 0 dX11_isFree_0 (by decide) ?_
  refine e_istore_n (pc := 1) dX11_isFree_1 rfl (by decide) ?_
  refine l_fe_zi (hh := h) hL.1 b4 hπ (fun h2 G2 er2 hx2 hG2 => ?_) W.2.1 0 rfl (Nat.zero_le _) h G (Er.rf _ _ _) hG (fun a b h1 => absurd h1 (Nat.not_lt_zero a))
  obtain ⟨g4, r4⟩ := hL.2.2.row (k := 4) (isR_d _ (by decide))
  refine n_iconst (pc := 41) 0 dX11_isFree_41 (by decide) ?_
  refine e_istore_n (pc := 42) dX11_isFree_42 rfl (by decide) ?_
  refine l_fe_fi (hh := h) (e := e) (c := c) hL hk hπ he ⟨g, hg1, hg2⟩ hc (fun h3 G3 fd3 r3 hx3 hG3 => ?_) (e + 1) 0 rfl (Nat.zero_le _) h2 G2 (fun b q1 q2 => er2 b (by omega)) ⟨g4, (er2 _ (by omega)).trans r4⟩ hx2 (fun a b h1 h2 => by rw [if_neg (Nat.not_lt_zero a)]; exact hG2 a b h1 h2)
  have hM3 : MH h3 m W.1 W.2.1 (W.1 ^ W.2.1) s := (fd3 _ (by omega) (by omega)).trans hL.1
  have A := hx3.mxa (A := fun a b => if a < e + 1 then dg W.1 (c a) b else 0) hπ b4 hG3
  have Alt : ∀ i j, i < W.2.1 → j < W.2.1 → (fun a b => if a < e + 1 then dg W.1 (c a) b else 0) i j < W.1 := fun i j _ _ => by
    show (if i < e + 1 then dg W.1 (c i) j else 0) < W.1
    by_cases e : i < e + 1
    · rw [if_pos e]; exact dg_lt (by omega) _ _
    · rw [if_neg e]; omega
  refine e_aload_n (pc := 98) dX11_isFree_98 rfl rfl ?_
  refine n_V (pc := 99) (c_X11_rank hM3 r3 hk.1 b4 ⟨π, hπ, A⟩ Alt) bX11_rank q_i_X11_rank q_s_X11_rank q_m_X11_260 dX11_isFree_99 rfl rfl (by repeat (first | assumption | exact hset_eq _ _ _ | (apply Lay.hd; assumption) | rw [hset_ne _ _ (by omega)])) rfl rfl (by exact Nat.le_of_ble_eq_true rfl) ⟨by decide, by decide⟩ ⟨rfl, rfl, Nat.zero_le _, Nat.zero_le _⟩ (fun z h4 hp => ?_)
  obtain ⟨r, rfl, rn, k1, k2, k3⟩ := hp
  have k4 : isRank W.1 W.2.1 (SM W.1 W.2.1 (e + 1) c) r := k1.congr (fun u => by
    constructor
    · intro q i hi
      have := q i (by omega)
      have e : (fun b => if i < e + 1 then dg W.1 (c i) b else 0) = dg W.1 (c i) := by funext b; exact if_pos hi
      exact (congrArg (fun v => dot W.2.1 v u % W.1) e).symm.trans this
    · intro q i hi
      by_cases e5 : i < e + 1
      · have e : (fun b => if i < e + 1 then dg W.1 (c i) b else 0) = dg W.1 (c i) := by funext b; exact if_pos e5
        exact (congrArg (fun v => dot W.2.1 v u % W.1) e).trans (q i e5)
      · have e : dot W.2.1 (fun b => if i < e + 1 then dg W.1 (c i) b else 0) u = 0 := dot_zero u (fun t _ => if_neg e5)
        exact (congrArg (· % W.1) e).trans (Nat.zero_mod _))
  have hM4 : MH h4 m W.1 W.2.1 (W.1 ^ W.2.1) s := (k3 _ (by omega)).trans hM3
  have fr4 : ∀ b, b ≠ m + 4 → (b < m + 11 ∨ m + 17 ≤ b) → h4 b = h b := fun b q1 q2 => (k3 b (by omega)).trans (fd3 b q1 q2)
  have hL4 : Lay h4 m W s := ⟨hM4, hL.2.1.keep (fr4 _ (by omega) (by omega)), k2⟩
  have fa4 : FmA m h h4 := fun b q2 => fr4 b (by omega) (by omega)
  refine e_iload_n (pc := 102) dX11_isFree_102 rfl rfl ?_
  refine n_iconst (pc := 103) 1 dX11_isFree_103 (by decide) ?_
  refine n_iadd (pc := 104) dX11_isFree_104 ?_
  refine n_icmp_ne (pc := 105) (tgt := 112) dX11_isFree_105 (by decide) (by omega) (by omega) (fun cr => ?_) (fun cr => ?_)
  · refine n_iconst (pc := 112) 0 dX11_isFree_112 (by decide) ?_
    refine n_zret (pc := 113) dX11_isFree_113 rfl rfl ⟨⟨false, rfl, fun _ d hd hdl hI => cr ?_⟩, hL4, fa4⟩
    obtain ⟨r2, q2⟩ := rank_ex hk.1 (mrow W.1 d) W.2.1
    have e2 := (one_ind hk hdl q2).mpr hI
    subst e2
    refine row_full hk.1 q2 (show e + 1 ≤ W.2.1 by omega) (k4.congr (fun u => ?_))
    have ed : ∀ a, a < e + 1 → mrow W.1 d a = mrow W.1 c a := fun a ha => by unfold mrow; rw [hd a (by omega)]
    constructor
    · intro q a ha
      rw [ed a ha]; exact q a ha
    · intro q a ha
      rw [← ed a ha]; exact q a ha
  · refine n_iconst (pc := 108) 1 dX11_isFree_108 (by decide) ?_
    refine e_goto (pc := 109) (tgt := 113) dX11_isFree_109 (by decide) ?_
    exact n_zret (pc := 113) dX11_isFree_113 rfl rfl ⟨⟨true, rfl, fun q => by cases q⟩, hL4, fa4⟩
end FR
