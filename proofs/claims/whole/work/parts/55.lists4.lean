/-! ===== Lists: searched once ===== -/
section LR
variable {h : AH} {L E : Nat} {W : Wd} {f : Int32} {p n : Nat}
def kp (d : Nat) : Nat := if d = 2 then 3 else if d = 3 then 5 else 2
def kn (d : Nat) : Nat := if d = 1 then 3 else 2
theorem kd_kp {p n : Nat} (h : Kd p n) : kp (kdn p n) = p ∧ kn (kdn p n) = n ∧ kdn p n < 4 := by
  rcases h with ⟨rfl, rfl | rfl | rfl⟩ | ⟨rfl, rfl⟩ <;> decide
theorem kp_kd {d : Nat} (h : d < 4) : Kd (kp d) (kn d) := by
  match d, h with
  | 0, _ => exact Or.inl ⟨rfl, Or.inl rfl⟩
  | 1, _ => exact Or.inr ⟨rfl, rfl⟩
  | 2, _ => exact Or.inl ⟨rfl, Or.inr (Or.inl rfl)⟩
  | 3, _ => exact Or.inl ⟨rfl, Or.inr (Or.inr rfl)⟩
/-- the Lists object: which kinds were searched, what was found -/
def LSh (h : AH) (L E : Nat) (S : Nat → Bool) : Prop := LHd h L E ∧ LGr h L ∧ (∃ W f, WAt h (L + 1) W f ∧ Wok W) ∧ (∃ g, h (L + 4) = some (aZ 4 g) ∧ ∀ d, d < 4 → g d = bI (S d)) ∧ ∀ d, d < 4 → RowA h L d (kp d) (kn d) (if S d = true then Lall (kp d) (kn d) else 0)
theorem LSh.far {h2 : AH} {S : Nat → Bool} (q : LSh h L E S) (e : ∀ a, L ≤ a → a < L + 15 → h2 a = h a) : LSh h2 L E S := by
  obtain ⟨a1, ⟨a2, a3⟩, ⟨W, f, a4, a5⟩, ⟨g, a6, a7⟩, a8⟩ := q
  refine ⟨(e _ (by omega) (by omega)).trans a1, ⟨(e _ (by omega) (by omega)).trans a2, (e _ (by omega) (by omega)).trans a3⟩, ⟨W, f, a4.kept (e _ (by omega) (by omega)) (e _ (by omega) (by omega)) ?_, a5⟩, ⟨g, (e _ (by omega) (by omega)).trans a6, a7⟩, fun d hd => (a8 d hd).far (e _ (by omega) (by omega)) (e _ (by omega) (by omega))⟩
  obtain ⟨g, hg⟩ := a4.2.2
  exact ⟨g, (e _ (by omega) (by omega)).trans hg⟩
/-- nothing changed but the tools and the Lists' own cells -/
def Fq (E L : Nat) (h h' : AH) : Prop := ∀ a, (a < E ∨ E + 89 ≤ a) → (a < L ∨ L + 15 ≤ a) → h' a = h a
theorem Fq.rf (E L : Nat) (h : AH) : Fq E L h h := fun _ _ _ => rfl
theorem Fq.tr {E L : Nat} {h h1 h2 : AH} (a : Fq E L h h1) (b : Fq E L h1 h2) : Fq E L h h2 := fun q x y => (b q x y).trans (a q x y)
/-- what stands between the steps of a search -/
def RSt (hh h1 : AH) (L E d p n c : Nat) (gs : Nat → Int32) : Prop := LHd h1 L E ∧ LGr h1 L ∧ (∃ W f, WAt h1 (L + 1) W f ∧ Wok W) ∧ h1 (L + 4) = some (aZ 4 gs) ∧ TSh h1 E ∧ RowA h1 L d p n c ∧ (∀ e, e < 4 → e ≠ d → h1 (L + 11 + e) = hh (L + 11 + e) ∧ h1 (L + 6 + e) = hh (L + 6 + e)) ∧ Fq E L hh h1
theorem l_rd {d : Nat} {gs : Nat → Int32} {sz : Nat} {hh : AH} (hK : Kd p n) (hd : d < 4) (dd : E + 89 ≤ L ∨ L + 15 ≤ E) :
    ∀ (m c τ : Nat), Lall p n - c ≤ m → c ≤ Lall p n → τ ≤ c → (c % p ^ (n * (n - 1)) = 0 ∨ ¬ Ef (lw p n c)) → ∀ h1, RSt hh h1 L E d p n c gs → VV MX2_ready sz (fun h' => RSt hh h' L E d p n (Lall p n) gs) h1 49 [some (.ref L), some (.int (nI d)), some (.int (nI p)), some (.int (nI n)), some (.int (nI (p ^ (n * (n - 1))))), some (.int (nI (Lall p n))), some (.int (nI c)), some (.int (nI τ)), none] [] := by
  obtain ⟨k1, k2, k3, k4⟩ := hK.b
  obtain ⟨l1, l2, l3, l4, l5, l6⟩ := Lall_b hK
  intro m
  induction m with
  | zero =>
    intro c τ e1 e2 e3 e4 h1 hS
    have e' : c = Lall p n := by omega
    subst e'
    refine e_iload (pc := 49) dX2_ready_49 rfl ?_
    refine e_iload (pc := 51) dX2_ready_51 rfl ?_
    refine n_icmp_ge (pc := 53) (tgt := 126) dX2_ready_53 (by decide) (by omega) (by omega) (fun q1 => ?_) (fun q1 => ?_)
    · exact n_vret (pc := 126) dX2_ready_126 rfl hS
    · refine e_iload (pc := 56) dX2_ready_56 rfl ?_
      refine e_iload (pc := 58) dX2_ready_58 rfl ?_
      refine n_icmp_ge (pc := 60) (tgt := 126) dX2_ready_60 (by decide) (by omega) (by omega) (fun hb_ => ?_) (fun c => absurd c (by omega))
      exact n_vret (pc := 126) dX2_ready_126 rfl hS
  | succ m ih =>
    intro c τ e1 e2 e3 e4 h1 hS
    by_cases ec : c = Lall p n
    · subst ec
      refine e_iload (pc := 49) dX2_ready_49 rfl ?_
      refine e_iload (pc := 51) dX2_ready_51 rfl ?_
      refine n_icmp_ge (pc := 53) (tgt := 126) dX2_ready_53 (by decide) (by omega) (by omega) (fun q1 => ?_) (fun q1 => ?_)
      · exact n_vret (pc := 126) dX2_ready_126 rfl hS
      · refine e_iload (pc := 56) dX2_ready_56 rfl ?_
        refine e_iload (pc := 58) dX2_ready_58 rfl ?_
        refine n_icmp_ge (pc := 60) (tgt := 126) dX2_ready_60 (by decide) (by omega) (by omega) (fun hb_ => ?_) (fun c => absurd c (by omega))
        exact n_vret (pc := 126) dX2_ready_126 rfl hS
    have hc : c < Lall p n := by omega
    obtain ⟨s1, ⟨s2, s2'⟩, ⟨W0, f0, s3, s3'⟩, s4, s5, s6, s7, s8⟩ := hS
    refine e_iload (pc := 49) dX2_ready_49 rfl ?_
    refine e_iload (pc := 51) dX2_ready_51 rfl ?_
    refine n_icmp_ge (pc := 53) (tgt := 126) dX2_ready_53 (by decide) (by omega) (by omega) (fun c => absurd c (by omega)) (fun hb_ => ?_)
    refine e_iload (pc := 56) dX2_ready_56 rfl ?_
    refine e_iload (pc := 58) dX2_ready_58 rfl ?_
    refine n_icmp_ge (pc := 60) (tgt := 126) dX2_ready_60 (by decide) (by omega) (by omega) (fun c => absurd c (by omega)) (fun hb_ => ?_)
    refine e_aload_n (pc := 63) dX2_ready_63 rfl rfl ?_
    refine e_get (pc := 64) fl_X2_12 dX2_ready_64 (by repeat (first | assumption | exact hset_eq _ _ _ | (apply WAt.hd; assumption) | rw [hset_ne _ _ (by omega)])) (by rfl) ?_
    refine e_iload_n (pc := 67) dX2_ready_67 rfl rfl ?_
    refine e_iload_n (pc := 68) dX2_ready_68 rfl rfl ?_
    refine e_iload (pc := 69) dX2_ready_69 rfl ?_
    refine n_Sv (pc := 71) (c_X2_fill s3 s3' hK (show c < 2 ^ 31 by omega)) bX2_fill q_st_X2_fill q_m_X2_42 dX2_ready_71 rfl rfl (by exact Nat.le_of_ble_eq_true rfl) ⟨by decide, by decide⟩ ⟨rfl, rfl, Nat.zero_le _, Nat.zero_le _⟩ (fun h2 hp => ?_)
    obtain ⟨p1, p2⟩ := hp
    have hk := lw_ok (code := c) k4
    have T2 : TSh h2 E := s5.ew p2 (by omega)
    have t2 := T2.2.1
    have y1 : LHd h2 L E := (p2 _ (by omega) (by omega) (by omega)).trans s1
    refine e_aload_n (pc := 74) dX2_ready_74 rfl rfl ?_
    refine e_get (pc := 75) fl_X2_30 dX2_ready_75 (by repeat (first | assumption | exact hset_eq _ _ _ | (apply WAt.hd; assumption) | rw [hset_ne _ _ (by omega)])) (by rfl) ?_
    refine e_aload_n (pc := 78) dX2_ready_78 rfl rfl ?_
    refine e_get (pc := 79) fl_X2_12 dX2_ready_79 (by repeat (first | assumption | exact hset_eq _ _ _ | (apply WAt.hd; assumption) | rw [hset_ne _ _ (by omega)])) (by rfl) ?_
    refine n_V (pc := 82) (c_X7_failing T2 p1 hk (Or.inl rfl) (by omega)) bX7_failing q_i_X7_failing q_s_X7_failing q_m_X2_49 dX2_ready_82 rfl rfl (by repeat (first | assumption | exact hset_eq _ _ _ | (apply WAt.hd; assumption) | rw [hset_ne _ _ (by omega)])) rfl rfl (by exact Nat.le_of_ble_eq_true rfl) ⟨by decide, by decide⟩ ⟨rfl, rfl, Nat.zero_le _, Nat.zero_le _⟩ (fun z h3 hp => ?_)
    obtain ⟨r1, r2, r3, r4⟩ := hp
    have far : ∀ a, (a < E ∨ E + 89 ≤ a) → a ≠ L + 1 → a ≠ L + 1 + 1 → a ≠ L + 1 + 2 → h3 a = h1 a := fun a q0 q1 q2 q3 => (r4 a q0 q1 q2 q3).trans (p2 a q1 q2 q3)
    have y2 : LHd h3 L E := (far _ (by omega) (by omega) (by omega) (by omega)).trans s1
    have y3 : LGr h3 L := ⟨(far _ (by omega) (by omega) (by omega) (by omega)).trans s2, (far _ (by omega) (by omega) (by omega) (by omega)).trans s2'⟩
    have y4 : RowA h3 L d p n c := s6.far (far _ (by omega) (by omega) (by omega) (by omega)) (far _ (by omega) (by omega) (by omega) (by omega))
    refine e_istore (pc := 85) dX2_ready_85 (by decide) ?_
    refine e_iload (pc := 87) dX2_ready_87 rfl ?_
    refine e_iconst (pc := 89) (v := -1) dX2_ready_89 (by decide) ?_
    have key : ∀ h4, (∃ f, WAt h4 (L + 1) (lw p n c) f) → TSh h4 E → RowA h4 L d p n (c + 1) → (∀ a, a ≠ L + 3 → a ≠ L + 6 + d → a ≠ L + 11 + d → h4 a = h3 a) → VV MX2_ready sz (fun h' => RSt hh h' L E d p n (Lall p n) gs) h4 100 [some (.ref L), some (.int (nI d)), some (.int (nI p)), some (.int (nI n)), some (.int (nI (p ^ (n * (n - 1))))), some (.int (nI (Lall p n))), some (.int (nI c)), some (.int (nI τ)), some (.int z)] [] := fun h4 ⟨f4, w1⟩ w2 w3 w4 => by
      have v1 : LHd h4 L E := (w4 _ (by omega) (by omega) (by omega)).trans y2
      have v2 : LGr h4 L := ⟨(w4 _ (by omega) (by omega) (by omega)).trans y3.1, (w4 _ (by omega) (by omega) (by omega)).trans y3.2⟩
      have v4 : h4 (L + 4) = some (aZ 4 gs) := (w4 _ (by omega) (by omega) (by omega)).trans ((far _ (by omega) (by omega) (by omega) (by omega)).trans s4)
      have v5 : ∀ e, e < 4 → e ≠ d → h4 (L + 11 + e) = hh (L + 11 + e) ∧ h4 (L + 6 + e) = hh (L + 6 + e) := fun e he hne => ⟨((w4 _ (by omega) (by omega) (by omega)).trans (far _ (by omega) (by omega) (by omega) (by omega))).trans (s7 e he hne).1, ((w4 _ (by omega) (by omega) (by omega)).trans (far _ (by omega) (by omega) (by omega) (by omega))).trans (s7 e he hne).2⟩
      have v6 : Fq E L hh h4 := s8.tr (fun a q0 q1 => (w4 a (by omega) (by omega) (by omega)).trans (far a q0 (by omega) (by omega) (by omega)))
      refine e_iload (pc := 100) dX2_ready_100 rfl ?_
      refine e_aload_n (pc := 102) dX2_ready_102 rfl rfl ?_
      refine e_iload (pc := 103) dX2_ready_103 rfl ?_
      refine n_V (pc := 105) (c_X2_isFailedEarly v1 w1 hk r1) bX2_isFailedEarly q_i_X2_isFailedEarly q_s_X2_isFailedEarly q_m_X2_59 dX2_ready_105 rfl rfl (by repeat (first | assumption | exact hset_eq _ _ _ | (apply WAt.hd; assumption) | rw [hset_ne _ _ (by omega)])) rfl rfl (by exact Nat.le_of_ble_eq_true rfl) ⟨by decide, by decide⟩ ⟨rfl, rfl, Nat.zero_le _, Nat.zero_le _⟩ (fun r h5 hp => ?_)
      obtain ⟨hr, rfl⟩ := hp
      rcases hr with ⟨hr, rfl⟩ | ⟨hr, rfl⟩
      · refine e_if_eq (pc := 108) (tgt := 116) dX2_ready_108 (by decide) (fun q => absurd q (by decide)) (fun _ => ?_)
        have al : c % p ^ (n * (n - 1)) = 0 := e4.resolve_right (fun q => q hr)
        have cl : c + p ^ (n * (n - 1)) ≤ Lall p n := by
          rcases l5 with q | ⟨q1, q2⟩
          · rw [← q] at al ⊢
            rw [Nat.mod_eq_of_lt hc] at al
            omega
          · rw [q2] at al ⊢
            rw [q1] at hc ⊢
            omega
        refine e_iload (pc := 111) dX2_ready_111 rfl ?_
        refine e_goto (pc := 113) (tgt := 117) dX2_ready_113 (by decide) ?_
        refine n_iadd (pc := 117) dX2_ready_117 ?_
        refine e_istore (pc := 118) dX2_ready_118 (by decide) ?_
        refine n_inc (pc := 120) dX2_ready_120 rfl (by decide) ?_
        refine e_goto (pc := 123) (tgt := 49) dX2_ready_123 (by decide) ?_
        refine V.mask [true, true, true, true, true, true, true, true, false] ?_
        refine ih (c + p ^ (n * (n - 1))) (τ + 1) (by omega) cl (by omega) (Or.inl (by rw [Nat.add_mod_right]; exact al)) h5 ⟨v1, v2, ⟨_, _, w1, hk⟩, v4, w2, ?_, v5, v6⟩
        have nd : ∀ k, k < p ^ (n * (n - 1)) → ¬ Div (lw p n (c + k)) := fun k hkl => by
          refine Ef_nd (lw_ok k4) (Ef_block hK ?_ hr)
          obtain ⟨j, hj⟩ := Nat.dvd_of_mod_eq_zero al
          rw [hj, Nat.mul_div_cancel_left _ l4, Nat.mul_add_div l4, Nat.div_eq_of_lt hkl, Nat.add_zero]
        have w3' : RowA h5 L d p n c := by
          obtain ⟨⟨g, a1, a2⟩, g2, a3, a4⟩ := w3
          have e0 : ∀ w, Lc p n w (c + 1) = Lc p n w c := fun w => by rw [Lc_s, bl_f (fun q => nd 0 l4 q.1)]; rfl
          refine ⟨⟨g, a1, fun w hw => by rw [← e0]; exact a2 w hw⟩, g2, a3, fun t ht => ?_⟩
          obtain ⟨k, b1, b2, b3, b4⟩ := a4 t (by rw [e0]; exact ht)
          refine ⟨k, b1, ?_, b3, b4⟩
          by_cases q : k = c
          · subst q; exact absurd b3 (nd 0 l4)
          · omega
        exact w3'.skip nd
      · refine e_if_eq (pc := 108) (tgt := 116) dX2_ready_108 (by decide) (fun _ => ?_) (fun q => absurd rfl q)
        refine n_iconst (pc := 116) 1 dX2_ready_116 (by decide) ?_
        refine n_iadd (pc := 117) dX2_ready_117 ?_
        refine e_istore (pc := 118) dX2_ready_118 (by decide) ?_
        refine n_inc (pc := 120) dX2_ready_120 rfl (by decide) ?_
        refine e_goto (pc := 123) (tgt := 49) dX2_ready_123 (by decide) ?_
        refine V.mask [true, true, true, true, true, true, true, true, false] ?_
        refine ih (c + 1) (τ + 1) (by omega) (by omega) (by omega) ?_ h5 ⟨v1, v2, ⟨_, _, w1, hk⟩, v4, w2, w3, v5, v6⟩
        by_cases q : c / p ^ (n * (n - 1)) = (c + 1) / p ^ (n * (n - 1))
        · exact Or.inr (fun z => hr (Ef_block hK q.symm z))
        · refine Or.inl ?_
          rcases Nat.eq_zero_or_pos ((c + 1) % p ^ (n * (n - 1))) with z | z
          · exact z
          · exfalso
            refine q ?_
            have e1 := Nat.div_add_mod (c + 1) (p ^ (n * (n - 1)))
            have e2 : c = p ^ (n * (n - 1)) * ((c + 1) / p ^ (n * (n - 1))) + ((c + 1) % p ^ (n * (n - 1)) - 1) := by omega
            have e3 : (c + 1) % p ^ (n * (n - 1)) - 1 < p ^ (n * (n - 1)) := by
              have := Nat.mod_lt (c + 1) l4
              omega
            have := (q_div (m := (c + 1) / p ^ (n * (n - 1))) e3).1
            rw [← e2] at this
            exact this
    rcases id r1 with ⟨x, y, rfl, x0, x1, y0, y1, e, f1, f2⟩ | ⟨rfl, f1⟩
    · have nz : ¬ Div (lw p n c) := fun q => q x y x0 x1 y0 y1 e
      refine e_icmp_ne (pc := 90) (tgt := 100) dX2_ready_90 (by decide) (fun _ => ?_) (fun q => absurd q (nI_ne ?_))
      · exact key h3 ⟨_, r2⟩ r3 (y4.skip (m := 1) (fun k hk0 => by rw [show k = 0 by omega]; exact nz)) (fun _ _ _ _ => rfl)
      · have hxy : p ^ n * x + y < 30 * 30 := by
          have x1 : x < p ^ n := x1
          have y1 : y < p ^ n := y1
          have := Nat.mul_le_mul_left (p ^ n) (show x + 1 ≤ 25 by omega)
          rw [Nat.mul_add] at this
          omega
        exact Nat.lt_trans hxy (by decide)
    · refine e_icmp_ne (pc := 90) (tgt := 100) dX2_ready_90 (by decide) (fun q => absurd rfl q) (fun _ => ?_)
      refine e_aload_n (pc := 93) dX2_ready_93 rfl rfl ?_
      refine e_iload_n (pc := 94) dX2_ready_94 rfl rfl ?_
      refine e_iload (pc := 95) dX2_ready_95 rfl ?_
      refine n_Vv (pc := 97) (c_X2_note y2 y3 r3 r2 hK hd hc f1 y4 dd) bX2_note q_i_X2_note q_s_X2_note q_m_X2_55 dX2_ready_97 rfl rfl (by repeat (first | assumption | exact hset_eq _ _ _ | (apply WAt.hd; assumption) | rw [hset_ne _ _ (by omega)])) rfl rfl (by exact Nat.le_of_ble_eq_true rfl) ⟨by decide, by decide⟩ ⟨rfl, rfl, Nat.zero_le _, Nat.zero_le _⟩ (fun h4 hp => ?_)
      obtain ⟨u1, u2, u3, u4⟩ := hp
      exact key h4 ⟨_, u3⟩ u2 u1 u4
theorem c_X2_ready {S : Nat → Bool} {d : Nat} (hL : LSh h L E S) (hT : TSh h E) (hd : d < 4) (dd : E + 89 ≤ L ∨ L + 15 ≤ E) : CV yX2_ready MX2_ready [.ref L, .int (nI d), .int (nI (kp d)), .int (nI (kn d))] h (fun h' => (∃ S2, S2 d = true ∧ LSh h' L E S2) ∧ TSh h' E ∧ Fq E L h h') := by
  have hL0 := hL
  have hK := kp_kd hd
  obtain ⟨k1, k2, k3, k4⟩ := hK.b
  obtain ⟨l1, l2, l3, l4, l5, l6⟩ := Lall_b hK
  obtain ⟨a1, a2, a3, ⟨g, a6, a7⟩, a8⟩ := hL
  have gd := a7 d hd
  refine CV.ofV (by decide) rfl rfl (by simp [Value.category]) (by exact Nat.le_of_ble_eq_true rfl) (fun sz => ?_)
  refine e_aload_n (pc := 0) dX2_ready_0 rfl rfl ?_
  refine e_get (pc := 1) fl_X2_18 dX2_ready_1 (by repeat (first | assumption | exact hset_eq _ _ _ | (apply WAt.hd; assumption) | rw [hset_ne _ _ (by omega)])) (by rfl) ?_
  refine e_iload_n (pc := 4) dX2_ready_4 rfl rfl ?_
  refine e_zaldN (pc := 5) d dX2_ready_5 (by repeat (first | assumption | exact hset_eq _ _ _ | (apply WAt.hd; assumption) | rw [hset_ne _ _ (by omega)])) (by rfl) (by omega) (by first | decide | omega) ?_
  rw [gd]
  cases hs : S d with
  | true =>
    refine e_if_eq (pc := 6) (tgt := 10) dX2_ready_6 (by decide) (fun q => absurd q (by decide)) (fun _ => ?_)
    exact n_vret (pc := 9) dX2_ready_9 rfl ⟨⟨S, hs, hL0⟩, hT, Fq.rf _ _ _⟩
  | false =>
    refine e_if_eq (pc := 6) (tgt := 10) dX2_ready_6 (by decide) (fun _ => ?_) (fun q => absurd rfl q)
    have x1 : kn d * (kn d - 1) < 2 ^ 31 := by rcases k2 with q | q <;> rw [q] <;> decide
    have x2 : kn d * (kn d - 1) * (kn d - 1) < 2 ^ 31 := by rcases k2 with q | q <;> rw [q] <;> decide
    refine e_aload_n (pc := 10) dX2_ready_10 rfl rfl ?_
    refine e_get (pc := 11) fl_X2_18 dX2_ready_11 (by repeat (first | assumption | exact hset_eq _ _ _ | (apply WAt.hd; assumption) | rw [hset_ne _ _ (by omega)])) (by rfl) ?_
    refine e_iload_n (pc := 14) dX2_ready_14 rfl rfl ?_
    refine n_iconst (pc := 15) 1 dX2_ready_15 (by decide) ?_
    refine e_zastN (pc := 16) d dX2_ready_16 (by repeat (first | assumption | exact hset_eq _ _ _ | (apply WAt.hd; assumption) | rw [hset_ne _ _ (by omega)])) (by rfl) (by omega) (by first | decide | omega) ?_
    refine e_iload_n (pc := 17) dX2_ready_17 rfl rfl ?_
    refine e_iload_n (pc := 18) dX2_ready_18 rfl rfl ?_
    refine e_iload_n (pc := 19) dX2_ready_19 rfl rfl ?_
    refine n_iconst (pc := 20) 1 dX2_ready_20 (by decide) ?_
    refine n_isub (pc := 21) dX2_ready_21 (by omega) ?_
    refine n_imul (pc := 22) dX2_ready_22 ?_
    refine n_SP (pc := 23) (c_X2_power x1) bX2_power q_st_X2_power q_m_X2_46 dX2_ready_23 rfl rfl (by exact Nat.le_of_ble_eq_true rfl) ⟨by decide, by decide⟩ ⟨rfl, rfl, Nat.zero_le _, Nat.zero_le _⟩ ?_
    refine e_istore (pc := 26) dX2_ready_26 (by decide) ?_
    refine e_iload_n (pc := 28) dX2_ready_28 rfl rfl ?_
    refine e_iload_n (pc := 29) dX2_ready_29 rfl rfl ?_
    refine e_iload_n (pc := 30) dX2_ready_30 rfl rfl ?_
    refine n_iconst (pc := 31) 1 dX2_ready_31 (by decide) ?_
    refine n_isub (pc := 32) dX2_ready_32 (by omega) ?_
    refine n_imul (pc := 33) dX2_ready_33 ?_
    refine e_iload_n (pc := 34) dX2_ready_34 rfl rfl ?_
    refine n_iconst (pc := 35) 1 dX2_ready_35 (by decide) ?_
    refine n_isub (pc := 36) dX2_ready_36 (by omega) ?_
    refine n_imul (pc := 37) dX2_ready_37 ?_
    refine n_SP (pc := 38) (c_X2_power x2) bX2_power q_st_X2_power q_m_X2_46 dX2_ready_38 rfl rfl (by exact Nat.le_of_ble_eq_true rfl) ⟨by decide, by decide⟩ ⟨rfl, rfl, Nat.zero_le _, Nat.zero_le _⟩ ?_
    rw [← l6]
    refine e_istore (pc := 41) dX2_ready_41 (by decide) ?_
    refine n_iconst (pc := 43) 0 dX2_ready_43 (by decide) ?_
    refine e_istore (pc := 44) dX2_ready_44 (by decide) ?_
    refine n_iconst (pc := 46) 0 dX2_ready_46 (by decide) ?_
    refine e_istore (pc := 47) dX2_ready_47 (by decide) ?_
    have hR := a8 d hd
    rw [hs] at hR
    have hR : RowA h L d (kp d) (kn d) 0 := hR
    obtain ⟨W, f, w1, w2⟩ := a3
    have q := l_rd (sz := sz) (hh := hset h (L + 4) (aZ 4 (upd g d (vp_nar .boolean (nI 1))))) (gs := upd g d (vp_nar .boolean (nI 1))) hK hd dd (Lall (kp d) (kn d)) 0 0 (by omega) (by omega) (Nat.le_refl 0) (Or.inl (Nat.zero_mod _)) _ ⟨(hset_ne _ _ (by omega)).trans a1, ⟨(hset_ne _ _ (by omega)).trans a2.1, (hset_ne _ _ (by omega)).trans a2.2⟩, ⟨W, f, w1.hs (by omega), w2⟩, hset_eq _ _ _, hT.far (fun a q1 q2 => hset_ne _ _ (by omega)), hR.far (hset_ne _ _ (by omega)) (hset_ne _ _ (by omega)), fun _ _ _ => ⟨rfl, rfl⟩, Fq.rf _ _ _⟩
    refine V.post ?_ q
    intro r h' z qq
    obtain ⟨q1, q2, s1, s2, s3, s4, s5, s6, s7, s8⟩ := qq
    refine ⟨q1, q2, ⟨fun e => if e = d then true else S e, if_pos rfl, s1, s2, s3, ⟨_, s4, fun e he => ?_⟩, fun e he => ?_⟩, s5, fun a q3 q4 => (s8 a q3 q4).trans (hset_ne _ _ (by omega))⟩
    · by_cases c : e = d
      · subst c
        show _ = bI (if e = e then true else S e)
        rw [pk_us, if_pos rfl]
        rfl
      · show _ = bI (if e = d then true else S e)
        rw [pk_un c, if_neg c]
        exact a7 e he
    · by_cases c : e = d
      · subst c
        show RowA h' L e (kp e) (kn e) (if (if e = e then true else S e) = true then Lall (kp e) (kn e) else 0)
        rw [if_pos rfl, if_pos rfl]
        exact s6
      · show RowA h' L e (kp e) (kn e) (if (if e = d then true else S e) = true then Lall (kp e) (kn e) else 0)
        rw [if_neg c]
        exact (a8 e he).far ((s7 e he c).1.trans (hset_ne _ _ (by omega))) ((s7 e he c).2.trans (hset_ne _ _ (by omega)))
/-- how many are listed; none such list -/
def LstC (x y w : Int32) (z : Int32) : Prop := (∃ p n k, x = nI p ∧ y = nI n ∧ Kd p n ∧ w = nI k ∧ k < 3 ∧ z = nI (Lc p n k (Lall p n))) ∨ (z = -1 ∧ ∀ p n k, x = nI p → y = nI n → Kd p n → w = nI k → ¬ k < 3)
theorem le2 {w : Int32} (h0 : ¬ w < 0) (h2 : w ≤ nI 2) : ∃ k, w = nI k ∧ k < 3 := by
  have e : okI w 3 = true := by
    unfold okI
    rw [decide_eq_false h0]
    have : w < nI 3 := by
      rw [Int32.le_iff_toInt_le] at h2
      rw [Int32.lt_iff_toInt_lt]
      have a1 : (nI 2).toInt = 2 := by decide
      have a2 : (nI 3).toInt = 3 := by decide
      omega
    rw [decide_eq_true this]
    rfl
  obtain ⟨k, h1, h2⟩ := okI_of (by decide) e
  exact ⟨k, h2, h1⟩
theorem c_X2_count {S : Nat → Bool} (hL : LSh h L E S) (hT : TSh h E) (dd : E + 89 ≤ L ∨ L + 15 ≤ E) (x y w : Int32) : CI yX2_count MX2_count [.ref L, .int x, .int y, .int w] h (fun z h' => LstC x y w z ∧ (∃ S2, LSh h' L E S2) ∧ TSh h' E ∧ Fq E L h h') := by
  obtain ⟨s1, -⟩ := id hL
  refine CI.ofV (by decide) rfl rfl (by simp [Value.category]) (by exact Nat.le_of_ble_eq_true rfl) (fun sz => ?_)
  refine e_iload_n (pc := 0) dX2_count_0 rfl rfl ?_
  refine e_iload_n (pc := 1) dX2_count_1 rfl rfl ?_
  refine n_S (pc := 2) (c_X2_kindOf x y) bX2_kindOf q_st_X2_kindOf q_m_X2_34 dX2_count_2 rfl rfl (by exact Nat.le_of_ble_eq_true rfl) ⟨by decide, by decide⟩ ⟨rfl, rfl, Nat.zero_le _, Nat.zero_le _⟩ (fun z h2 hp => ?_)
  obtain ⟨hz, rfl⟩ := hp
  refine e_istore (pc := 5) dX2_count_5 (by decide) ?_
  refine e_iload (pc := 7) dX2_count_7 rfl ?_
  refine e_iconst (pc := 9) (v := -1) dX2_count_9 (by decide) ?_
  rcases hz with ⟨p, n, rfl, rfl, hK, rfl⟩ | ⟨rfl, hn⟩
  · obtain ⟨e1, e2, e3⟩ := kd_kp hK
    refine e_icmp_eq (pc := 10) (tgt := 22) dX2_count_10 (by decide) (fun c => absurd c (nI_ne (by omega))) (fun _ => ?_)
    refine e_iload_n (pc := 13) dX2_count_13 rfl rfl ?_
    refine e_if_lt (pc := 14) (tgt := 22) dX2_count_14 (by decide) (fun c => ?_) (fun c => ?_)
    · refine e_iconst (pc := 22) (v := -1) dX2_count_22 (by decide) ?_
      refine n_iret (pc := 23) dX2_count_23 rfl ⟨Or.inr ⟨rfl, fun p n k _ _ _ ek hk => ?_⟩, ⟨S, hL⟩, hT, Fq.rf _ _ _⟩
      rw [ek] at c
      exact absurd c (nI_pos (by omega))
    · refine e_iload_n (pc := 17) dX2_count_17 rfl rfl ?_
      refine n_iconst (pc := 18) 2 dX2_count_18 (by decide) ?_
      refine e_icmp_le (pc := 19) (tgt := 24) dX2_count_19 (by decide) (fun c2 => ?_) (fun c2 => ?_)
      · obtain ⟨k, rfl, hk⟩ := le2 c c2
        refine e_aload_n (pc := 24) dX2_count_24 rfl rfl ?_
        refine e_iload (pc := 25) dX2_count_25 rfl ?_
        refine e_iload_n (pc := 27) dX2_count_27 rfl rfl ?_
        refine e_iload_n (pc := 28) dX2_count_28 rfl rfl ?_
        have q := c_X2_ready hL hT e3 dd
        rw [e1, e2] at q
        refine n_Vv (pc := 29) (q) bX2_ready q_i_X2_ready q_s_X2_ready q_m_X2_38 dX2_count_29 rfl rfl (by repeat (first | assumption | exact hset_eq _ _ _ | (apply WAt.hd; assumption) | rw [hset_ne _ _ (by omega)])) rfl rfl (by exact Nat.le_of_ble_eq_true rfl) ⟨by decide, by decide⟩ ⟨rfl, rfl, Nat.zero_le _, Nat.zero_le _⟩ (fun h3 hp => ?_)
        obtain ⟨⟨S2, p1, p2⟩, p3, p4⟩ := hp
        obtain ⟨a1, ⟨a2, a2'⟩, a3, a4, a8⟩ := id p2
        have r := a8 _ e3
        rw [p1, e1, e2, if_pos rfl] at r
        obtain ⟨⟨g, r1, r2⟩, -⟩ := r
        have r3 := r2 k hk
        refine e_aload_n (pc := 32) dX2_count_32 rfl rfl ?_
        refine e_get (pc := 33) fl_X2_27 dX2_count_33 (by repeat (first | assumption | exact hset_eq _ _ _ | (apply WAt.hd; assumption) | rw [hset_ne _ _ (by omega)])) (by rfl) ?_
        refine e_iload (pc := 36) dX2_count_36 rfl ?_
        refine e_aldGS (pc := 38) _ dX2_count_38 (by repeat (first | assumption | exact hset_eq _ _ _ | (apply WAt.hd; assumption) | rw [hset_ne _ _ (by omega)])) (by rfl) (by omega) (by first | decide | omega) (if_pos e3) ?_
        refine e_iload_n (pc := 39) dX2_count_39 rfl rfl ?_
        refine e_ialdN (pc := 40) _ dX2_count_40 (by repeat (first | assumption | exact hset_eq _ _ _ | (apply WAt.hd; assumption) | rw [hset_ne _ _ (by omega)])) (by rfl) (by omega) (by first | decide | omega) ?_
        exact n_iret (pc := 41) dX2_count_41 rfl ⟨Or.inl ⟨p, n, k, rfl, rfl, hK, rfl, hk, r3⟩, ⟨S2, p2⟩, p3, p4⟩
      · refine e_iconst (pc := 22) (v := -1) dX2_count_22 (by decide) ?_
        refine n_iret (pc := 23) dX2_count_23 rfl ⟨Or.inr ⟨rfl, fun p n k _ _ _ ek hk => ?_⟩, ⟨S, hL⟩, hT, Fq.rf _ _ _⟩
        rw [ek] at c2
        exact c2 ((nI_leI (by omega) (by omega)).mpr (by omega))
  · refine e_icmp_eq (pc := 10) (tgt := 22) dX2_count_10 (by decide) (fun _ => ?_) (fun c => absurd rfl c)
    refine e_iconst (pc := 22) (v := -1) dX2_count_22 (by decide) ?_
    exact n_iret (pc := 23) dX2_count_23 rfl ⟨Or.inr ⟨rfl, fun p n k e1 e2 e3 _ _ => hn p n e1 e2 e3⟩, ⟨S, hL⟩, hT, Fq.rf _ _ _⟩
/-- the code of the i-th world listed -/
def LstN (x y i : Int32) (c : Nat) : Prop := ∃ p n t, x = nI p ∧ y = nI n ∧ Kd p n ∧ i = nI t ∧ t < 32 ∧ c < Lall p n ∧ Div (lw p n c) ∧ Lc p n 0 c = t
def LstH (x y i : Int32) : Prop := ∃ p n t, x = nI p ∧ y = nI n ∧ Kd p n ∧ i = nI t ∧ t < Lc p n 0 (Lall p n)
theorem c_X2_hasWorld {S : Nat → Bool} (hL : LSh h L E S) (hT : TSh h E) (dd : E + 89 ≤ L ∨ L + 15 ≤ E) (x y i : Int32) : CI yX2_hasWorld MX2_hasWorld [.ref L, .int x, .int y, .int i] h (fun z h' => isB z (LstH x y i) ∧ (z = 1 → ∃ S2 p n, x = nI p ∧ y = nI n ∧ Kd p n ∧ S2 (kdn p n) = true ∧ LSh h' L E S2) ∧ (∃ S2, LSh h' L E S2) ∧ TSh h' E ∧ Fq E L h h') := by
  obtain ⟨s1, -⟩ := id hL
  refine CI.ofV (by decide) rfl rfl (by simp [Value.category]) (by exact Nat.le_of_ble_eq_true rfl) (fun sz => ?_)
  refine e_iload_n (pc := 0) dX2_hasWorld_0 rfl rfl ?_
  refine e_iload_n (pc := 1) dX2_hasWorld_1 rfl rfl ?_
  refine n_S (pc := 2) (c_X2_kindOf x y) bX2_kindOf q_st_X2_kindOf q_m_X2_34 dX2_hasWorld_2 rfl rfl (by exact Nat.le_of_ble_eq_true rfl) ⟨by decide, by decide⟩ ⟨rfl, rfl, Nat.zero_le _, Nat.zero_le _⟩ (fun z h2 hp => ?_)
  obtain ⟨hz, rfl⟩ := hp
  refine e_istore (pc := 5) dX2_hasWorld_5 (by decide) ?_
  refine e_iload (pc := 7) dX2_hasWorld_7 rfl ?_
  refine e_iconst (pc := 9) (v := -1) dX2_hasWorld_9 (by decide) ?_
  rcases hz with ⟨p, n, rfl, rfl, hK, rfl⟩ | ⟨rfl, hn⟩
  · obtain ⟨e1, e2, e3⟩ := kd_kp hK
    have l32 := Lc_32 hK (Nat.le_refl (Lall p n))
    refine e_icmp_eq (pc := 10) (tgt := 17) dX2_hasWorld_10 (by decide) (fun c => absurd c (nI_ne (by omega))) (fun _ => ?_)
    refine e_iload_n (pc := 13) dX2_hasWorld_13 rfl rfl ?_
    refine e_if_ge (pc := 14) (tgt := 19) dX2_hasWorld_14 (by decide) (fun c => ?_) (fun c => ?_)
    · refine e_aload_n (pc := 19) dX2_hasWorld_19 rfl rfl ?_
      refine e_iload (pc := 20) dX2_hasWorld_20 rfl ?_
      refine e_iload_n (pc := 22) dX2_hasWorld_22 rfl rfl ?_
      refine e_iload_n (pc := 23) dX2_hasWorld_23 rfl rfl ?_
      have q := c_X2_ready hL hT e3 dd
      rw [e1, e2] at q
      refine n_Vv (pc := 24) (q) bX2_ready q_i_X2_ready q_s_X2_ready q_m_X2_38 dX2_hasWorld_24 rfl rfl (by repeat (first | assumption | exact hset_eq _ _ _ | (apply WAt.hd; assumption) | rw [hset_ne _ _ (by omega)])) rfl rfl (by exact Nat.le_of_ble_eq_true rfl) ⟨by decide, by decide⟩ ⟨rfl, rfl, Nat.zero_le _, Nat.zero_le _⟩ (fun h3 hp => ?_)
      obtain ⟨⟨S2, p1, p2⟩, p3, p4⟩ := hp
      obtain ⟨a1, ⟨a2, a2'⟩, a3, a4, a8⟩ := id p2
      have r := a8 _ e3
      rw [p1, e1, e2, if_pos rfl] at r
      obtain ⟨⟨g, r1, r2⟩, -⟩ := r
      have r3 := r2 0 (by decide)
      refine e_iload_n (pc := 27) dX2_hasWorld_27 rfl rfl ?_
      refine e_aload_n (pc := 28) dX2_hasWorld_28 rfl rfl ?_
      refine e_get (pc := 29) fl_X2_27 dX2_hasWorld_29 (by repeat (first | assumption | exact hset_eq _ _ _ | (apply WAt.hd; assumption) | rw [hset_ne _ _ (by omega)])) (by rfl) ?_
      refine e_iload (pc := 32) dX2_hasWorld_32 rfl ?_
      refine e_aldGS (pc := 34) _ dX2_hasWorld_34 (by repeat (first | assumption | exact hset_eq _ _ _ | (apply WAt.hd; assumption) | rw [hset_ne _ _ (by omega)])) (by rfl) (by omega) (by first | decide | omega) (if_pos e3) ?_
      refine n_iconst (pc := 35) 0 dX2_hasWorld_35 (by decide) ?_
      refine e_ialdN (pc := 36) _ dX2_hasWorld_36 (by repeat (first | assumption | exact hset_eq _ _ _ | (apply WAt.hd; assumption) | rw [hset_ne _ _ (by omega)])) (by rfl) (by omega) (by first | decide | omega) ?_
      rw [r3]
      refine e_icmp_ge (pc := 37) (tgt := 44) dX2_hasWorld_37 (by decide) (fun c2 => ?_) (fun c2 => ?_)
      · refine n_iconst (pc := 44) 0 dX2_hasWorld_44 (by decide) ?_
        refine n_zret (pc := 45) dX2_hasWorld_45 rfl rfl ⟨Or.inr ⟨fun ⟨p', n', t, x1, x2, x3, x4, x5⟩ => ?_, rfl⟩, fun q => absurd q (by decide), ⟨S2, p2⟩, p3, p4⟩
        have b1 := x3.b
        have b2 := hK.b
        have b3 : p ≤ 5 := by rcases b2.1 with q | q | q <;> omega
        have b4 : p' ≤ 5 := by rcases b1.1 with q | q | q <;> omega
        have g1 := (nI_eq (by omega) (by omega)).mp x1
        have g2 := (nI_eq (by omega) (by omega)).mp x2
        subst g1
        subst g2
        rw [x4] at c2
        have := (nI_leI (by omega) (by omega)).mp c2
        omega
      · refine n_iconst (pc := 40) 1 dX2_hasWorld_40 (by decide) ?_
        refine e_goto (pc := 41) (tgt := 45) dX2_hasWorld_41 (by decide) ?_
        have ok : okI i (Lc p n 0 (Lall p n)) = true := by
          unfold okI
          rw [decide_eq_false (fun q => by rw [Int32.lt_iff_toInt_lt] at q; rw [Int32.le_iff_toInt_le] at c; omega), decide_eq_true (by rw [Int32.lt_iff_toInt_lt]; rw [Int32.le_iff_toInt_le] at c2; omega)]
          rfl
        obtain ⟨t, t1, t2⟩ := okI_of (by omega) ok
        exact n_zret (pc := 45) dX2_hasWorld_45 rfl rfl ⟨Or.inl ⟨⟨p, n, t, rfl, rfl, hK, t2, t1⟩, rfl⟩, fun _ => ⟨S2, p, n, rfl, rfl, hK, p1, p2⟩, ⟨S2, p2⟩, p3, p4⟩
    · refine n_iconst (pc := 17) 0 dX2_hasWorld_17 (by decide) ?_
      refine n_zret (pc := 18) dX2_hasWorld_18 rfl rfl ⟨Or.inr ⟨fun ⟨p', n', t, x1, x2, x3, x4, x5⟩ => ?_, rfl⟩, fun q => absurd q (by decide), ⟨S, hL⟩, hT, Fq.rf _ _ _⟩
      rw [x4] at c
      exact c (nI_pos' (by have := Lc_32 x3 (Nat.le_refl _); omega))
  · refine e_icmp_eq (pc := 10) (tgt := 17) dX2_hasWorld_10 (by decide) (fun _ => ?_) (fun c => absurd rfl c)
    refine n_iconst (pc := 17) 0 dX2_hasWorld_17 (by decide) ?_
    exact n_zret (pc := 18) dX2_hasWorld_18 rfl rfl ⟨Or.inr ⟨fun ⟨p', n', t, x1, x2, x3, x4, x5⟩ => hn p' n' x1 x2 x3, rfl⟩, fun q => absurd q (by decide), ⟨S, hL⟩, hT, Fq.rf _ _ _⟩
theorem c_X2_bring {S : Nat → Bool} {o t : Nat} (hL : LSh h L E S) (hW : WAt h o W f) (hk : Wok W) (hK : Kd p n) (hS : S (kdn p n) = true) (ht : t < Lc p n 0 (Lall p n)) : CV yX2_bring MX2_bring [.ref L, .int (nI p), .int (nI n), .int (nI t), .ref o] h (fun h' => (∃ c, c < Lall p n ∧ Div (lw p n c) ∧ Lc p n 0 c = t ∧ WAt h' o (lw p n c) (-2)) ∧ Ew o h h') := by
  obtain ⟨a1, ⟨a2, a2'⟩, a3, a4, a8⟩ := id hL
  obtain ⟨e1, e2, e3⟩ := kd_kp hK
  have l32 := Lc_32 hK (Nat.le_refl (Lall p n))
  have lb := Lall_b hK
  have r := a8 _ e3
  rw [hS, e1, e2, if_pos rfl] at r
  obtain ⟨-, g, r1, r2⟩ := r
  obtain ⟨k, k1, k2, k3, k4⟩ := r2 t ht
  refine CV.ofV (by decide) rfl rfl (by simp [Value.category]) (by exact Nat.le_of_ble_eq_true rfl) (fun sz => ?_)
  refine e_iload_n (pc := 0) dX2_bring_0 rfl rfl ?_
  refine e_iload_n (pc := 1) dX2_bring_1 rfl rfl ?_
  refine n_S (pc := 2) (c_X2_kindOf (nI p) (nI n)) bX2_kindOf q_st_X2_kindOf q_m_X2_34 dX2_bring_2 rfl rfl (by exact Nat.le_of_ble_eq_true rfl) ⟨by decide, by decide⟩ ⟨rfl, rfl, Nat.zero_le _, Nat.zero_le _⟩ (fun z h2 hp => ?_)
  obtain ⟨hz, rfl⟩ := hp
  have hz : z = nI (kdn p n) := by
    rcases hz with ⟨p', n', x1, x2, x3, x4⟩ | ⟨-, hn⟩
    · have b1 := x3.b
      have b2 := hK.b
      have b3 : p ≤ 5 := by rcases b2.1 with q | q | q <;> omega
      have b4 : p' ≤ 5 := by rcases b1.1 with q | q | q <;> omega
      have g1 := (nI_eq (by omega) (by omega)).mp x1
      have g2 := (nI_eq (by omega) (by omega)).mp x2
      subst g1
      subst g2
      exact x4
    · exact absurd hK (hn p n rfl rfl)
  subst hz
  refine e_istore (pc := 5) dX2_bring_5 (by decide) ?_
  refine e_iload (pc := 7) dX2_bring_7 rfl ?_
  refine e_iconst (pc := 9) (v := -1) dX2_bring_9 (by decide) ?_
  refine e_icmp_eq (pc := 10) (tgt := 39) dX2_bring_10 (by decide) (fun c => absurd c (nI_ne (by omega))) (fun _ => ?_)
  refine e_iload_n (pc := 13) dX2_bring_13 rfl rfl ?_
  refine n_if_lt (pc := 14) (tgt := 39) dX2_bring_14 (by omega) ?_ (by decide)
  refine e_iload_n (pc := 17) dX2_bring_17 rfl rfl ?_
  refine n_bipush (pc := 18) 32 dX2_bring_18 (by decide) ?_
  refine n_icmp_ge (pc := 20) (tgt := 39) dX2_bring_20 (by decide) (by omega) (by omega) (fun c => absurd c (by omega)) (fun hb_ => ?_)
  refine e_aload (pc := 23) dX2_bring_23 rfl ?_
  refine e_iload_n (pc := 25) dX2_bring_25 rfl rfl ?_
  refine e_iload_n (pc := 26) dX2_bring_26 rfl rfl ?_
  refine e_aload_n (pc := 27) dX2_bring_27 rfl rfl ?_
  refine e_get (pc := 28) fl_X2_24 dX2_bring_28 (by repeat (first | assumption | exact hset_eq _ _ _ | (apply WAt.hd; assumption) | rw [hset_ne _ _ (by omega)])) (by rfl) ?_
  refine e_iload (pc := 31) dX2_bring_31 rfl ?_
  refine e_aldGS (pc := 33) _ dX2_bring_33 (by repeat (first | assumption | exact hset_eq _ _ _ | (apply WAt.hd; assumption) | rw [hset_ne _ _ (by omega)])) (by rfl) (by omega) (by first | decide | omega) (if_pos e3) ?_
  refine e_iload_n (pc := 34) dX2_bring_34 rfl rfl ?_
  refine e_ialdN (pc := 35) _ dX2_bring_35 (by repeat (first | assumption | exact hset_eq _ _ _ | (apply WAt.hd; assumption) | rw [hset_ne _ _ (by omega)])) (by rfl) (by omega) (by first | decide | omega) ?_
  rw [k1]
  refine n_Sv (pc := 36) (c_X2_fill hW hk hK (show k < 2 ^ 31 by omega)) bX2_fill q_st_X2_fill q_m_X2_42 dX2_bring_36 rfl rfl (by exact Nat.le_of_ble_eq_true rfl) ⟨by decide, by decide⟩ ⟨rfl, rfl, Nat.zero_le _, Nat.zero_le _⟩ (fun h3 hp => ?_)
  obtain ⟨p1, p2⟩ := hp
  exact n_vret (pc := 39) dX2_bring_39 rfl ⟨⟨k, k2, k3, k4, p1⟩, p2⟩
end LR
