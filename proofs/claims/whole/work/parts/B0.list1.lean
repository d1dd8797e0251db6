/-! ===== the reference: cubes of a list ===== -/
theorem zf_2 : ∀ i : Nat, i < 2 → ∀ t : Nat, t < 125 → (if t = 26 * i then 1 else if t = 6 * i then 1 else (wfa 2 2 i i).2.2 t) = (wfa 2 2 (i + 1) (i + 1)).2.2 t := by decide +kernel
theorem zf_3 : ∀ i : Nat, i < 3 → ∀ t : Nat, t < 125 → (if t = 26 * i then 1 else if t = 6 * i then 1 else (wfa 2 3 i i).2.2 t) = (wfa 2 3 (i + 1) (i + 1)).2.2 t := by decide +kernel
theorem wfa_s {p n i t : Nat} (hK : Kd p n) (hi : i < n) (ht : t < 125) : (if t = 26 * i then 1 else if t = 6 * i then 1 else (wfa p n i i).2.2 t) = (wfa p n (i + 1) (i + 1)).2.2 t := by
  rcases hK.b.2.1 with rfl | rfl
  · exact zf_2 i hi t ht
  · exact zf_3 i hi t ht
section LI
variable {m q : Nat} {s : Ms} {p n code sz : Nat} {H : AH}
theorem l_lc_z {l1 : Option Value} {q : Nat} {Pr : AH → Prop} (hM : MH H m p n q s)
    (kk : ∀ g, (∀ t, t < 125 → g t = nI 0) → VV MX11_laysCube sz Pr (hset H (m + 3) (aI 125 g)) 21 [some (.ref m), l1, none, none, none, none] []) :
    ∀ (t k : Nat), t = 125 - k → k ≤ 125 → ∀ g, (∀ t, t < k → g t = nI 0) → VV MX11_laysCube sz Pr (hset H (m + 3) (aI 125 g)) 2 [some (.ref m), l1, some (.int (nI k)), none, none, none] [] := by
  intro t
  induction t with
  | zero =>
    intro k e1 e2 g hg
    have e' : k = 125 := by omega
    subst e'
    refine e_iload_n (pc := 2) dX11_laysCube_2 rfl rfl ?_
    refine n_bipush (pc := 3) 125 dX11_laysCube_3 (by decide) ?_
    refine n_icmp_ge (pc := 5) (tgt := 21) dX11_laysCube_5 (by decide) (by omega) (by omega) (fun hb_ => ?_) (fun c => absurd c (by omega))
    refine V.mask [true, true, false, false, false, false] ?_
    exact kk g hg
  | succ t ih =>
    intro k e1 e2 g hg
    have hM1 : MH (hset H (m + 3) (aI 125 g)) m p n q s := (hset_ne _ _ (by omega)).trans hM
    refine e_iload_n (pc := 2) dX11_laysCube_2 rfl rfl ?_
    refine n_bipush (pc := 3) 125 dX11_laysCube_3 (by decide) ?_
    refine n_icmp_ge (pc := 5) (tgt := 21) dX11_laysCube_5 (by decide) (by omega) (by omega) (fun c => absurd c (by omega)) (fun hb_ => ?_)
    refine e_aload_n (pc := 8) dX11_laysCube_8 rfl rfl ?_
    refine e_get (pc := 9) fl_X11_16 dX11_laysCube_9 (by repeat (first | assumption | exact hset_eq _ _ _ | (apply Lay.hd; assumption) | rw [hset_ne _ _ (by omega)])) (by rfl) ?_
    refine e_iload_n (pc := 12) dX11_laysCube_12 rfl rfl ?_
    refine n_iconst (pc := 13) 0 dX11_laysCube_13 (by decide) ?_
    refine e_iastN (pc := 14) k dX11_laysCube_14 (by repeat (first | assumption | exact hset_eq _ _ _ | (apply Lay.hd; assumption) | rw [hset_ne _ _ (by omega)])) (by rfl) (by omega) (by first | decide | omega) ?_
    refine e_heap (hset_hset H (m + 3) _ _) ?_
    refine n_inc (pc := 15) dX11_laysCube_15 rfl (by decide) ?_
    refine e_goto (pc := 18) (tgt := 2) dX11_laysCube_18 (by decide) ?_
    refine ih (k + 1) (by omega) (by omega) _ (fun t ht => ?_)
    by_cases c : t = k
    · subst c; rw [pk_us]
    · rw [pk_un c]; exact hg t (by omega)
theorem l_lc_u {q : Nat} {l1 : Option Value} {Pr : AH → Prop} (hM : MH H m p n q s) (hK : Kd p n)
    (kk : ∀ g, (∀ t, t < 125 → g t = nI ((wfa p n n n).2.2 t)) → VV MX11_laysCube sz Pr (hset H (m + 3) (aI 125 g)) 60 [some (.ref m), l1, none, none, none, none] []) :
    ∀ (t i : Nat), t = n - i → i ≤ n → ∀ g, (∀ t, t < 125 → g t = nI ((wfa p n i i).2.2 t)) → VV MX11_laysCube sz Pr (hset H (m + 3) (aI 125 g)) 23 [some (.ref m), l1, some (.int (nI i)), none, none, none] [] := by
  obtain ⟨k1, k2, k3, k4⟩ := hK.b
  intro t
  induction t with
  | zero =>
    intro i e1 e2 g hg
    have e' : i = n := by omega
    subst e'
    have hM1 : MH (hset H (m + 3) (aI 125 g)) m p i q s := (hset_ne _ _ (by omega)).trans hM
    refine e_iload_n (pc := 23) dX11_laysCube_23 rfl rfl ?_
    refine e_aload_n (pc := 24) dX11_laysCube_24 rfl rfl ?_
    refine e_get (pc := 25) fl_X11_109 dX11_laysCube_25 (by repeat (first | assumption | exact hset_eq _ _ _ | (apply Lay.hd; assumption) | rw [hset_ne _ _ (by omega)])) (by rfl) ?_
    refine n_icmp_ge (pc := 28) (tgt := 60) dX11_laysCube_28 (by decide) (by omega) (by omega) (fun hb_ => ?_) (fun c => absurd c (by omega))
    refine V.mask [true, true, false, false, false, false] ?_
    exact kk g hg
  | succ t ih =>
    intro i e1 e2 g hg
    have hM1 : MH (hset H (m + 3) (aI 125 g)) m p n q s := (hset_ne _ _ (by omega)).trans hM
    refine e_iload_n (pc := 23) dX11_laysCube_23 rfl rfl ?_
    refine e_aload_n (pc := 24) dX11_laysCube_24 rfl rfl ?_
    refine e_get (pc := 25) fl_X11_109 dX11_laysCube_25 (by repeat (first | assumption | exact hset_eq _ _ _ | (apply Lay.hd; assumption) | rw [hset_ne _ _ (by omega)])) (by rfl) ?_
    refine n_icmp_ge (pc := 28) (tgt := 60) dX11_laysCube_28 (by decide) (by omega) (by omega) (fun c => absurd c (by omega)) (fun hb_ => ?_)
    refine e_aload_n (pc := 31) dX11_laysCube_31 rfl rfl ?_
    refine e_get (pc := 32) fl_X11_16 dX11_laysCube_32 (by repeat (first | assumption | exact hset_eq _ _ _ | (apply Lay.hd; assumption) | rw [hset_ne _ _ (by omega)])) (by rfl) ?_
    refine n_iconst (pc := 35) 5 dX11_laysCube_35 (by decide) ?_
    refine e_iload_n (pc := 36) dX11_laysCube_36 rfl rfl ?_
    refine n_imul (pc := 37) dX11_laysCube_37 ?_
    refine e_iload_n (pc := 38) dX11_laysCube_38 rfl rfl ?_
    refine n_iadd (pc := 39) dX11_laysCube_39 ?_
    refine n_iconst (pc := 40) 1 dX11_laysCube_40 (by decide) ?_
    refine e_iastN (pc := 41) (5 * i + i) dX11_laysCube_41 (by repeat (first | assumption | exact hset_eq _ _ _ | (apply Lay.hd; assumption) | rw [hset_ne _ _ (by omega)])) (by rfl) (by omega) (by first | decide | omega) ?_
    refine e_heap (hset_hset H (m + 3) _ _) ?_
    have hM2 : MH (hset H (m + 3) (aI 125 (upd g (5 * i + i) (nI 1)))) m p n q s := (hset_ne _ _ (by omega)).trans hM
    refine e_aload_n (pc := 42) dX11_laysCube_42 rfl rfl ?_
    refine e_get (pc := 43) fl_X11_16 dX11_laysCube_43 (by repeat (first | assumption | exact hset_eq _ _ _ | (apply Lay.hd; assumption) | rw [hset_ne _ _ (by omega)])) (by rfl) ?_
    refine n_bipush (pc := 46) 25 dX11_laysCube_46 (by decide) ?_
    refine e_iload_n (pc := 48) dX11_laysCube_48 rfl rfl ?_
    refine n_imul (pc := 49) dX11_laysCube_49 ?_
    refine e_iload_n (pc := 50) dX11_laysCube_50 rfl rfl ?_
    refine n_iadd (pc := 51) dX11_laysCube_51 ?_
    refine n_iconst (pc := 52) 1 dX11_laysCube_52 (by decide) ?_
    refine e_iastN (pc := 53) (25 * i + i) dX11_laysCube_53 (by repeat (first | assumption | exact hset_eq _ _ _ | (apply Lay.hd; assumption) | rw [hset_ne _ _ (by omega)])) (by rfl) (by omega) (by first | decide | omega) ?_
    refine e_heap (hset_hset H (m + 3) _ _) ?_
    refine n_inc (pc := 54) dX11_laysCube_54 rfl (by decide) ?_
    refine e_goto (pc := 57) (tgt := 23) dX11_laysCube_57 (by decide) ?_
    refine ih (i + 1) (by omega) (by omega) _ (fun t ht => ?_)
    rw [← wfa_s hK (show i < n by omega) ht]
    by_cases c1 : t = 25 * i + i
    · rw [c1, pk_us, if_pos (by omega)]
    · rw [pk_un c1, if_neg (by omega)]
      by_cases c2 : t = 5 * i + i
      · rw [c2, pk_us, if_pos (by omega)]
      · rw [pk_un c2, if_neg (by omega)]
        exact hg t ht
theorem lws_p {i j k c : Nat} (hK : Kd p n) (hi : i < n) (hj : j < n) (hk : k < n) (i0 : 0 < i) (j0 : 0 < j) (hc : c = ((n - 1 - i) * (n - 1) + (n - 1 - j)) * n + (n - 1 - k)) {g : Nat → Int32} (hg : ∀ t, t < 125 → g t = nI ((lws p n code c).2.2 t)) : ∀ t, t < 125 → upd g (25 * i + 5 * j + k) (nI (code / p ^ c % p)) t = nI ((lws p n code (c + 1)).2.2 t) := fun t ht => by
  obtain ⟨k1, k2, k3, k4⟩ := hK.b
  rw [← lws_s k2 hi hj hk i0 j0 ((plc_ij k2 hi hj hk i0 j0).trans hc.symm)]
  show _ = nI (if t = 25 * i + 5 * j + k then dg p code c else (lws p n code c).2.2 t)
  by_cases e : t = 25 * i + 5 * j + k
  · rw [if_pos e, e, pk_us]; rfl
  · rw [if_neg e, pk_un e]; exact hg t ht
theorem l_lc_k {i j : Nat} {l1 : Option Value} {Pr : AH → Prop} (hM : MH H m p n q s) (hK : Kd p n) (hi : i < n) (hj : j < n) (i0 : 0 < i) (j0 : 0 < j) (hc : code < 2 ^ 31)
    (kk : ∀ g, (∀ t, t < 125 → g t = nI ((lws p n code (((n - 1 - i) * (n - 1) + (n - 1 - j)) * n + n)).2.2 t)) → VV MX11_laysCube sz Pr (hset H (m + 3) (aI 125 g)) 135 [some (.ref m), l1, some (.int (nI (code / p ^ (((n - 1 - i) * (n - 1) + (n - 1 - j)) * n + n)))), some (.int (nI i)), some (.int (nI j)), none] []) :
    ∀ (k : Nat), k < n → ∀ c, c = ((n - 1 - i) * (n - 1) + (n - 1 - j)) * n + (n - 1 - k) → ∀ g, (∀ t, t < 125 → g t = nI ((lws p n code c).2.2 t)) → VV MX11_laysCube sz Pr (hset H (m + 3) (aI 125 g)) 94 [some (.ref m), l1, some (.int (nI (code / p ^ c))), some (.int (nI i)), some (.int (nI j)), some (.int (nI k))] [] := by
  obtain ⟨k1, k2, k3, k4⟩ := hK.b
  have hp : 2 ≤ p ∧ p ≤ 5 := by rcases k1 with h | h | h <;> omega
  intro k
  induction k with
  | zero =>
    intro hk c hc2 g hg
    have q5 := Nat.div_le_self code (p ^ c)
    have hM1 : MH (hset H (m + 3) (aI 125 g)) m p n q s := (hset_ne _ _ (by omega)).trans hM
    have nx := lws_p hK hi hj hk i0 j0 hc2 hg
    refine e_iload (pc := 94) dX11_laysCube_94 rfl ?_
    refine n_if_lt (pc := 96) (tgt := 135) dX11_laysCube_96 (by omega) ?_ (by decide)
    refine e_aload_n (pc := 99) dX11_laysCube_99 rfl rfl ?_
    refine e_get (pc := 100) fl_X11_16 dX11_laysCube_100 (by repeat (first | assumption | exact hset_eq _ _ _ | (apply Lay.hd; assumption) | rw [hset_ne _ _ (by omega)])) (by rfl) ?_
    refine n_bipush (pc := 103) 25 dX11_laysCube_103 (by decide) ?_
    refine e_iload_n (pc := 105) dX11_laysCube_105 rfl rfl ?_
    refine n_imul (pc := 106) dX11_laysCube_106 ?_
    refine n_iconst (pc := 107) 5 dX11_laysCube_107 (by decide) ?_
    refine e_iload (pc := 108) dX11_laysCube_108 rfl ?_
    refine n_imul (pc := 110) dX11_laysCube_110 ?_
    refine n_iadd (pc := 111) dX11_laysCube_111 ?_
    refine e_iload (pc := 112) dX11_laysCube_112 rfl ?_
    refine n_iadd (pc := 114) dX11_laysCube_114 ?_
    refine e_iload_n (pc := 115) dX11_laysCube_115 rfl rfl ?_
    refine e_aload_n (pc := 116) dX11_laysCube_116 rfl rfl ?_
    refine e_get (pc := 117) fl_X11_106 dX11_laysCube_117 (by repeat (first | assumption | exact hset_eq _ _ _ | (apply Lay.hd; assumption) | rw [hset_ne _ _ (by omega)])) (by rfl) ?_
    refine n_irem (pc := 120) dX11_laysCube_120 (by omega) (by omega) (by omega) ?_
    refine e_iastN (pc := 121) (25 * i + 5 * j + 0) dX11_laysCube_121 (by repeat (first | assumption | exact hset_eq _ _ _ | (apply Lay.hd; assumption) | rw [hset_ne _ _ (by omega)])) (by rfl) (by omega) (by first | decide | omega) ?_
    refine e_heap (hset_hset H (m + 3) _ _) ?_
    have hM2 : MH (hset H (m + 3) (aI 125 (upd g (25 * i + 5 * j + 0) (nI (code / p ^ c % p))))) m p n q s := (hset_ne _ _ (by omega)).trans hM
    refine e_iload_n (pc := 122) dX11_laysCube_122 rfl rfl ?_
    refine e_aload_n (pc := 123) dX11_laysCube_123 rfl rfl ?_
    refine e_get (pc := 124) fl_X11_106 dX11_laysCube_124 (by repeat (first | assumption | exact hset_eq _ _ _ | (apply Lay.hd; assumption) | rw [hset_ne _ _ (by omega)])) (by rfl) ?_
    refine n_idiv (pc := 127) dX11_laysCube_127 (by omega) (by omega) (by omega) ?_
    refine e_istore_n (pc := 128) dX11_laysCube_128 rfl (by decide) ?_
    refine n_dec0 (pc := 129) dX11_laysCube_129 rfl (by decide) ?_
    refine e_goto (pc := 132) (tgt := 94) dX11_laysCube_132 (by decide) ?_
    refine e_iload (pc := 94) dX11_laysCube_94 rfl ?_
    refine e_if_lt (pc := 96) (tgt := 135) dX11_laysCube_96 (by decide) (fun _ => ?_) (fun q => absurd (by decide) q)
    refine V.mask [true, true, true, true, true, false] ?_
    have e : c + 1 = ((n - 1 - i) * (n - 1) + (n - 1 - j)) * n + n := by omega
    rw [e] at nx
    have qq := kk _ nx
    rw [← e, ← dg_div] at qq
    exact qq
  | succ k ih =>
    intro hk c hc2 g hg
    have q5 := Nat.div_le_self code (p ^ c)
    have hM1 : MH (hset H (m + 3) (aI 125 g)) m p n q s := (hset_ne _ _ (by omega)).trans hM
    have nx := lws_p hK hi hj hk i0 j0 hc2 hg
    refine e_iload (pc := 94) dX11_laysCube_94 rfl ?_
    refine n_if_lt (pc := 96) (tgt := 135) dX11_laysCube_96 (by omega) ?_ (by decide)
    refine e_aload_n (pc := 99) dX11_laysCube_99 rfl rfl ?_
    refine e_get (pc := 100) fl_X11_16 dX11_laysCube_100 (by repeat (first | assumption | exact hset_eq _ _ _ | (apply Lay.hd; assumption) | rw [hset_ne _ _ (by omega)])) (by rfl) ?_
    refine n_bipush (pc := 103) 25 dX11_laysCube_103 (by decide) ?_
    refine e_iload_n (pc := 105) dX11_laysCube_105 rfl rfl ?_
    refine n_imul (pc := 106) dX11_laysCube_106 ?_
    refine n_iconst (pc := 107) 5 dX11_laysCube_107 (by decide) ?_
    refine e_iload (pc := 108) dX11_laysCube_108 rfl ?_
    refine n_imul (pc := 110) dX11_laysCube_110 ?_
    refine n_iadd (pc := 111) dX11_laysCube_111 ?_
    refine e_iload (pc := 112) dX11_laysCube_112 rfl ?_
    refine n_iadd (pc := 114) dX11_laysCube_114 ?_
    refine e_iload_n (pc := 115) dX11_laysCube_115 rfl rfl ?_
    refine e_aload_n (pc := 116) dX11_laysCube_116 rfl rfl ?_
    refine e_get (pc := 117) fl_X11_106 dX11_laysCube_117 (by repeat (first | assumption | exact hset_eq _ _ _ | (apply Lay.hd; assumption) | rw [hset_ne _ _ (by omega)])) (by rfl) ?_
    refine n_irem (pc := 120) dX11_laysCube_120 (by omega) (by omega) (by omega) ?_
    refine e_iastN (pc := 121) (25 * i + 5 * j + (k + 1)) dX11_laysCube_121 (by repeat (first | assumption | exact hset_eq _ _ _ | (apply Lay.hd; assumption) | rw [hset_ne _ _ (by omega)])) (by rfl) (by omega) (by first | decide | omega) ?_
    refine e_heap (hset_hset H (m + 3) _ _) ?_
    have hM2 : MH (hset H (m + 3) (aI 125 (upd g (25 * i + 5 * j + (k + 1)) (nI (code / p ^ c % p))))) m p n q s := (hset_ne _ _ (by omega)).trans hM
    refine e_iload_n (pc := 122) dX11_laysCube_122 rfl rfl ?_
    refine e_aload_n (pc := 123) dX11_laysCube_123 rfl rfl ?_
    refine e_get (pc := 124) fl_X11_106 dX11_laysCube_124 (by repeat (first | assumption | exact hset_eq _ _ _ | (apply Lay.hd; assumption) | rw [hset_ne _ _ (by omega)])) (by rfl) ?_
    refine n_idiv (pc := 127) dX11_laysCube_127 (by omega) (by omega) (by omega) ?_
    refine e_istore_n (pc := 128) dX11_laysCube_128 rfl (by decide) ?_
    refine n_dec (pc := 129) dX11_laysCube_129 rfl (by decide) ?_
    refine e_goto (pc := 132) (tgt := 94) dX11_laysCube_132 (by decide) ?_
    have qq := ih (by omega) (c + 1) (by omega) _ nx
    rw [← dg_div] at qq
    exact qq
theorem l_lc_j {i : Nat} {l1 : Option Value} {Pr : AH → Prop} (hM : MH H m p n q s) (hK : Kd p n) (hi : i < n) (i0 : 0 < i) (hc : code < 2 ^ 31)
    (kk : ∀ g, (∀ t, t < 125 → g t = nI ((lws p n code (((n - 1 - i) * (n - 1) + (n - 1)) * n)).2.2 t)) → VV MX11_laysCube sz Pr (hset H (m + 3) (aI 125 g)) 141 [some (.ref m), l1, some (.int (nI (code / p ^ (((n - 1 - i) * (n - 1) + (n - 1)) * n)))), some (.int (nI i)), none, none] []) :
    ∀ (j : Nat), j < n → ∀ c, c = ((n - 1 - i) * (n - 1) + (n - 1 - j)) * n → ∀ g, (∀ t, t < 125 → g t = nI ((lws p n code c).2.2 t)) → VV MX11_laysCube sz Pr (hset H (m + 3) (aI 125 g)) 81 [some (.ref m), l1, some (.int (nI (code / p ^ c))), some (.int (nI i)), some (.int (nI j)), none] [] := by
  obtain ⟨k1, k2, k3, k4⟩ := hK.b
  intro j
  induction j with
  | zero =>
    intro hj c hs g hg
    refine e_iload (pc := 81) dX11_laysCube_81 rfl ?_
    refine n_if_le (pc := 83) (tgt := 141) dX11_laysCube_83 (by decide) (by omega) (fun _ => ?_) (fun c => absurd rfl c)
    refine V.mask [true, true, true, true, false, false] ?_
    rw [hs] at hg ⊢
    exact kk g hg
  | succ j ih =>
    intro hj c hs g hg
    have hM1 : MH (hset H (m + 3) (aI 125 g)) m p n q s := (hset_ne _ _ (by omega)).trans hM
    refine e_iload (pc := 81) dX11_laysCube_81 rfl ?_
    refine n_if_le (pc := 83) (tgt := 141) dX11_laysCube_83 (by decide) (by omega) (fun c => absurd c (by omega)) (fun _ => ?_)
    refine e_aload_n (pc := 86) dX11_laysCube_86 rfl rfl ?_
    refine e_get (pc := 87) fl_X11_109 dX11_laysCube_87 (by repeat (first | assumption | exact hset_eq _ _ _ | (apply Lay.hd; assumption) | rw [hset_ne _ _ (by omega)])) (by rfl) ?_
    refine n_iconst (pc := 90) 1 dX11_laysCube_90 (by decide) ?_
    refine n_isub (pc := 91) dX11_laysCube_91 (by omega) ?_
    refine e_istore (pc := 92) dX11_laysCube_92 (by decide) ?_
    refine l_lc_k (code := code) hM hK hi hj i0 (Nat.succ_pos j) hc (fun g2 hg2 => ?_) (n - 1) (by omega) c (by omega) g hg
    refine n_dec (pc := 135) dX11_laysCube_135 rfl (by decide) ?_
    refine e_goto (pc := 138) (tgt := 81) dX11_laysCube_138 (by decide) ?_
    have e : ((n - 1 - i) * (n - 1) + (n - 1 - (j + 1))) * n + n = ((n - 1 - i) * (n - 1) + (n - 1 - j)) * n := by
      rw [show n - 1 - j = n - 1 - (j + 1) + 1 by omega, ← Nat.add_assoc, Nat.add_mul _ 1 n, Nat.one_mul]
    refine V.mask [true, true, true, true, true, false] ?_
    exact ih (by omega) _ e g2 hg2
theorem l_lc_i {l1 : Option Value} (hM : MH H m p n q s) (hK : Kd p n) (hc : code < 2 ^ 31) :
    ∀ (i : Nat), i < n → ∀ c, c = (n - 1 - i) * (n - 1) * n → ∀ g, (∀ t, t < 125 → g t = nI ((lws p n code c).2.2 t)) → VV MX11_laysCube sz (fun h' => ∃ g, h' = hset H (m + 3) (aI 125 g) ∧ ∀ t, t < 125 → g t = nI ((lw p n code).2.2 t)) (hset H (m + 3) (aI 125 g)) 69 [some (.ref m), l1, some (.int (nI (code / p ^ c))), some (.int (nI i)), none, none] [] := by
  obtain ⟨k1, k2, k3, k4⟩ := hK.b
  intro i
  induction i with
  | zero =>
    intro hi c hs g hg
    refine e_iload_n (pc := 69) dX11_laysCube_69 rfl rfl ?_
    refine n_if_le (pc := 70) (tgt := 147) dX11_laysCube_70 (by decide) (by omega) (fun _ => ?_) (fun c => absurd rfl c)
    refine n_vret (pc := 147) dX11_laysCube_147 rfl ⟨g, rfl, ?_⟩
    rw [hs] at hg
    exact hg
  | succ i ih =>
    intro hi c hs g hg
    have hM1 : MH (hset H (m + 3) (aI 125 g)) m p n q s := (hset_ne _ _ (by omega)).trans hM
    refine e_iload_n (pc := 69) dX11_laysCube_69 rfl rfl ?_
    refine n_if_le (pc := 70) (tgt := 147) dX11_laysCube_70 (by decide) (by omega) (fun c => absurd c (by omega)) (fun _ => ?_)
    refine e_aload_n (pc := 73) dX11_laysCube_73 rfl rfl ?_
    refine e_get (pc := 74) fl_X11_109 dX11_laysCube_74 (by repeat (first | assumption | exact hset_eq _ _ _ | (apply Lay.hd; assumption) | rw [hset_ne _ _ (by omega)])) (by rfl) ?_
    refine n_iconst (pc := 77) 1 dX11_laysCube_77 (by decide) ?_
    refine n_isub (pc := 78) dX11_laysCube_78 (by omega) ?_
    refine e_istore (pc := 79) dX11_laysCube_79 (by decide) ?_
    have e1 : ((n - 1 - (i + 1)) * (n - 1) + (n - 1 - (n - 1))) * n = c := by rw [hs, Nat.sub_self, Nat.add_zero]
    refine l_lc_j (code := code) hM hK hi (Nat.succ_pos i) hc (fun g2 hg2 => ?_) (n - 1) (by omega) c e1.symm g hg
    refine n_dec (pc := 141) dX11_laysCube_141 rfl (by decide) ?_
    refine e_goto (pc := 144) (tgt := 69) dX11_laysCube_144 (by decide) ?_
    have e : ((n - 1 - (i + 1)) * (n - 1) + (n - 1)) * n = (n - 1 - i) * (n - 1) * n := by
      rw [show n - 1 - i = n - 1 - (i + 1) + 1 by omega, Nat.add_mul _ 1 (n - 1), Nat.one_mul]
    exact ih (by omega) _ e g2 hg2
theorem c_X11_laysCube {h : AH} (hM : MH h m p n q s) (hR : MRo h m) (hK : Kd p n) (hc : code < 2 ^ 31) : CV yX11_laysCube MX11_laysCube [.ref m, .int (nI code)] h (fun h' => ∃ g, h' = hset h (m + 3) (aI 125 g) ∧ ∀ t, t < 125 → g t = nI ((lw p n code).2.2 t)) := by
  obtain ⟨k1, k2, k3, k4⟩ := hK.b
  obtain ⟨g0, r0⟩ := hR.row (k := 3) (isR_d _ (by decide))
  refine CV.ofV (by decide) rfl rfl (by simp [Value.category]) (by exact Nat.le_of_ble_eq_true rfl) (fun sz => ?_)
  refine n_iconst (pc := 0) 0 dX11_laysCube_0 (by decide) ?_
  refine e_istore_n (pc := 1) dX11_laysCube_1 rfl (by decide) ?_
  refine e_heap (hset_self r0).symm ?_
  refine l_lc_z hM (fun g hg => ?_) 125 0 rfl (Nat.zero_le _) g0 (fun t ht => absurd ht (Nat.not_lt_zero t))
  refine n_iconst (pc := 21) 0 dX11_laysCube_21 (by decide) ?_
  refine e_istore_n (pc := 22) dX11_laysCube_22 rfl (by decide) ?_
  refine l_lc_u hM hK (fun g2 hg2 => ?_) n 0 rfl (Nat.zero_le _) g (fun t ht => by rw [hg t ht, wfa_0])
  have hM2 : MH (hset h (m + 3) (aI 125 g2)) m p n q s := (hset_ne _ _ (by omega)).trans hM
  refine e_iload_n (pc := 60) dX11_laysCube_60 rfl rfl ?_
  refine e_istore_n (pc := 61) dX11_laysCube_61 rfl (by decide) ?_
  refine e_aload_n (pc := 62) dX11_laysCube_62 rfl rfl ?_
  refine e_get (pc := 63) fl_X11_109 dX11_laysCube_63 (by repeat (first | assumption | exact hset_eq _ _ _ | (apply Lay.hd; assumption) | rw [hset_ne _ _ (by omega)])) (by rfl) ?_
  refine n_iconst (pc := 66) 1 dX11_laysCube_66 (by decide) ?_
  refine n_isub (pc := 67) dX11_laysCube_67 (by omega) ?_
  refine e_istore_n (pc := 68) dX11_laysCube_68 rfl (by decide) ?_
  rw [wfa_n (code := code)] at hg2
  have qq := l_lc_i (code := code) (sz := sz) (l1 := some (.int (nI code))) hM hK hc (n - 1) (by omega) 0 (by rw [Nat.sub_self, Nat.zero_mul, Nat.zero_mul]) g2 hg2
  rw [Nat.pow_zero, Nat.div_one] at qq
  exact qq
end LI
section LI2
variable {h : AH} {m : Nat}
theorem c_X11_isList (x y : Int32) : CI yX11_isList MX11_isList [.ref m, .int x, .int y] h (fun z h' => ((∃ p n, x = nI p ∧ y = nI n ∧ Kd p n ∧ z = bI true) ∨ (z = bI false ∧ ∀ p n, x = nI p → y = nI n → ¬ Kd p n)) ∧ h' = h) := by
  have no3 : ∀ {Q : Prop}, (∀ p n, x = nI p → y = nI n → ¬ Kd p n) → ∀ (sz : Nat) (l : List (Option Value)), VI MX11_isList sz (fun z h' => ((∃ p n, x = nI p ∧ y = nI n ∧ Kd p n ∧ z = bI true) ∨ (z = bI false ∧ ∀ p n, x = nI p → y = nI n → ¬ Kd p n)) ∧ h' = h) h 34 l [] := fun {Q} q sz l => by
    refine n_iconst (pc := 34) 0 dX11_isList_34 (by decide) ?_
    exact n_zret (pc := 35) dX11_isList_35 rfl rfl ⟨Or.inr ⟨rfl, q⟩, rfl⟩
  have yes : ∀ p n, x = nI p → y = nI n → Kd p n → ∀ (sz : Nat) (l : List (Option Value)), VI MX11_isList sz (fun z h' => ((∃ p n, x = nI p ∧ y = nI n ∧ Kd p n ∧ z = bI true) ∨ (z = bI false ∧ ∀ p n, x = nI p → y = nI n → ¬ Kd p n)) ∧ h' = h) h 30 l [] := fun p n q1 q2 q3 sz l => by
    refine n_iconst (pc := 30) 1 dX11_isList_30 (by decide) ?_
    refine e_goto (pc := 31) (tgt := 35) dX11_isList_31 (by decide) ?_
    exact n_zret (pc := 35) dX11_isList_35 rfl rfl ⟨Or.inl ⟨p, n, q1, q2, q3, rfl⟩, rfl⟩
  have three : (y = nI 2 → ∀ p, x = nI p → ¬ (p = 2 ∨ p = 3 ∨ p = 5)) → ∀ (sz : Nat), VI MX11_isList sz (fun z h' => ((∃ p n, x = nI p ∧ y = nI n ∧ Kd p n ∧ z = bI true) ∨ (z = bI false ∧ ∀ p n, x = nI p → y = nI n → ¬ Kd p n)) ∧ h' = h) h 20 [some (.ref m), some (.int x), some (.int y)] [] := fun q sz => by
    refine e_iload_n (pc := 20) dX11_isList_20 rfl rfl ?_
    refine n_iconst (pc := 21) 3 dX11_isList_21 (by decide) ?_
    refine e_icmp_ne (pc := 22) (tgt := 34) dX11_isList_22 (by decide) (fun c => ?_) (fun c => ?_)
    · refine no3 (Q := True) (fun p n e1 e2 k => ?_) sz _
      rcases k with ⟨rfl, hp⟩ | ⟨rfl, -⟩
      · exact q e2 p e1 hp
      · exact c e2
    · refine e_iload_n (pc := 25) dX11_isList_25 rfl rfl ?_
      refine n_iconst (pc := 26) 2 dX11_isList_26 (by decide) ?_
      refine e_icmp_ne (pc := 27) (tgt := 34) dX11_isList_27 (by decide) (fun c2 => ?_) (fun c2 => ?_)
      · refine no3 (Q := True) (fun p n e1 e2 k => ?_) sz _
        rcases k with ⟨rfl, hp⟩ | ⟨-, rfl⟩
        · exact q e2 p e1 hp
        · exact c2 e1
      · exact yes 2 3 c2 c (Or.inr ⟨rfl, rfl⟩) sz _
  refine CI.ofV (by decide) rfl rfl (by simp [Value.category]) (by exact Nat.le_of_ble_eq_true rfl) (fun sz => ?_)
  refine e_iload_n (pc := 0) dX11_isList_0 rfl rfl ?_
  refine n_iconst (pc := 1) 2 dX11_isList_1 (by decide) ?_
  refine e_icmp_ne (pc := 2) (tgt := 20) dX11_isList_2 (by decide) (fun c => ?_) (fun c => ?_)
  · exact three (fun q => absurd q c) sz
  · refine e_iload_n (pc := 5) dX11_isList_5 rfl rfl ?_
    refine n_iconst (pc := 6) 2 dX11_isList_6 (by decide) ?_
    refine e_icmp_eq (pc := 7) (tgt := 30) dX11_isList_7 (by decide) (fun c1 => ?_) (fun c1 => ?_)
    · exact yes 2 2 c1 c (Or.inl ⟨rfl, Or.inl rfl⟩) sz _
    · refine e_iload_n (pc := 10) dX11_isList_10 rfl rfl ?_
      refine n_iconst (pc := 11) 3 dX11_isList_11 (by decide) ?_
      refine e_icmp_eq (pc := 12) (tgt := 30) dX11_isList_12 (by decide) (fun c2 => ?_) (fun c2 => ?_)
      · exact yes 3 2 c2 c (Or.inl ⟨rfl, Or.inr (Or.inl rfl)⟩) sz _
      · refine e_iload_n (pc := 15) dX11_isList_15 rfl rfl ?_
        refine n_iconst (pc := 16) 5 dX11_isList_16 (by decide) ?_
        refine e_icmp_eq (pc := 17) (tgt := 30) dX11_isList_17 (by decide) (fun c3 => ?_) (fun c3 => ?_)
        · exact yes 5 2 c3 c (Or.inl ⟨rfl, Or.inr (Or.inr rfl)⟩) sz _
        · refine three (fun _ p e hp => ?_) sz
          rcases hp with rfl | rfl | rfl
          · exact c1 e
          · exact c2 e
          · exact c3 e
theorem c_X11_sizes {p0 n0 q0 p n : Nat} {s : Ms} (hM : MH h m p0 n0 q0 s) (hn : n < 2 ^ 31) : CV yX11_sizes MX11_sizes [.ref m, .int (nI p), .int (nI n)] h (fun h' => h' = hset h m (ob 10 (mfs m p n (p ^ n) s))) := by
  have hM0 : h m = some (ob 10 (mfs m p0 n0 q0 s)) := hM
  refine CV.ofV (by decide) rfl rfl (by simp [Value.category]) (by exact Nat.le_of_ble_eq_true rfl) (fun sz => ?_)
  refine e_aload_n (pc := 0) dX11_sizes_0 rfl rfl ?_
  refine e_iload_n (pc := 1) dX11_sizes_1 rfl rfl ?_
  refine e_put (pc := 2) pl_X11_106 dX11_sizes_2 (by repeat (first | assumption | exact hset_eq _ _ _ | (apply Lay.hd; assumption) | rw [hset_ne _ _ (by omega)])) (by rfl) (by rfl) (by exact Nat.le_of_ble_eq_true rfl) ?_
  refine e_aload_n (pc := 5) dX11_sizes_5 rfl rfl ?_
  refine e_iload_n (pc := 6) dX11_sizes_6 rfl rfl ?_
  refine e_put (pc := 7) pl_X11_109 dX11_sizes_7 (by repeat (first | assumption | exact hset_eq _ _ _ | (apply Lay.hd; assumption) | rw [hset_ne _ _ (by omega)])) (by rfl) (by rfl) (by exact Nat.le_of_ble_eq_true rfl) ?_
  refine e_heap (hset_hset h m _ _) ?_
  refine e_aload_n (pc := 10) dX11_sizes_10 rfl rfl ?_
  refine e_aload_n (pc := 11) dX11_sizes_11 rfl rfl ?_
  refine e_get (pc := 12) fl_X11_106 dX11_sizes_12 (by repeat (first | assumption | exact hset_eq _ _ _ | (apply Lay.hd; assumption) | rw [hset_ne _ _ (by omega)])) (by rfl) ?_
  refine e_aload_n (pc := 15) dX11_sizes_15 rfl rfl ?_
  refine e_get (pc := 16) fl_X11_109 dX11_sizes_16 (by repeat (first | assumption | exact hset_eq _ _ _ | (apply Lay.hd; assumption) | rw [hset_ne _ _ (by omega)])) (by rfl) ?_
  refine n_SP (pc := 19) (c_X11_power hn) bX11_power q_st_X11_power q_m_X11_102 dX11_sizes_19 rfl rfl (by exact Nat.le_of_ble_eq_true rfl) ⟨by decide, by decide⟩ ⟨rfl, rfl, Nat.zero_le _, Nat.zero_le _⟩ ?_
  refine e_put (pc := 22) pl_X11_112 dX11_sizes_22 (by repeat (first | assumption | exact hset_eq _ _ _ | (apply Lay.hd; assumption) | rw [hset_ne _ _ (by omega)])) (by rfl) (by rfl) (by exact Nat.le_of_ble_eq_true rfl) ?_
  refine e_heap (hset_hset h m _ _) ?_
  exact n_vret (pc := 25) dX11_sizes_25 rfl rfl
end LI2
