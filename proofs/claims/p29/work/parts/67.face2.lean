/-! ===== the class's face: questions of one world ===== -/
theorem isB_bl {z : Int32} {P : Prop} (h : isB z P) : z = bI (bl P) := isB_bI h bl_iff.symm
/-- the same with the places of the worlds -/
def XAs (h : AH) (o : Nat) (σ : Nat → Nat) (x y : Sx) (ik : Bool) (len : Nat) (f : Nat → Nat) (ft fp : Int32) : Prop := XAt h o x y ik len f ft fp ∧ StA h (o + 1) σ x
section XG
variable {h : AH} {o : Nat} {x y : Sx} {ik : Bool} {len : Nat} {f : Nat → Nat} {ft fp : Int32} {σ : Nat → Nat}
theorem XAs.fr {h2 : AH} {k : Nat} {f2 : Int32} (q : XAs h o σ x y ik len f ft fp) (hk : k < 6) (e : Fr (o + 181) (wa (o + 1) σ k) h h2) (hT : TSh h2 (o + 181)) (hW : WAt h2 (wa (o + 1) σ k) (x.ws k) f2) (hf : fOk (x.ws k) f2) : XAs h2 o σ x y ik len f ft fp ∧ Er o (o + 303) h h2 := by
  have r := q.1.fr q.2 hk e hT hW hf
  have bd := q.2.bd (show k < 26 by omega)
  exact ⟨⟨r.1, q.2.same (show k < 26 by omega) (fun a q1 q2 q3 q4 q5 => e a (by omega) q3 q4 q5) hW hf⟩, r.2⟩
/-- two worlds, the tools and the Search have changed -/
theorem XAs.two {h2 : AH} {a b : Nat} (q : XAs h o σ x y ik len f ft fp) (ha : a < 6) (hb : b < 6) (e : ∀ t, (t < o + 181 ∨ o + 181 + 89 ≤ t) → (t < o + 181 + 90 ∨ o + 181 + 104 ≤ t) → t ≠ wa (o + 1) σ a → t ≠ wa (o + 1) σ a + 1 → t ≠ wa (o + 1) σ a + 2 → t ≠ wa (o + 1) σ b → t ≠ wa (o + 1) σ b + 1 → t ≠ wa (o + 1) σ b + 2 → h2 t = h t) (hT : TSh h2 (o + 181)) (hS : ShS h2 (o + 181 + 90)) (hA : ∃ f, WAt h2 (wa (o + 1) σ a) (x.ws a) f ∧ fOk (x.ws a) f) (hB : ∃ f, WAt h2 (wa (o + 1) σ b) (x.ws b) f ∧ fOk (x.ws b) f) : XAs h2 o σ x y ik len f ft fp ∧ Er o (o + 303) h h2 := by
  obtain ⟨⟨a1, a2, ⟨τ, a3⟩, a4, a5, a6, ⟨S, a7⟩, W, fd, a8, a9⟩, hx⟩ := q
  have ba := hx.bd (show a < 26 by omega)
  have bb := hx.bd (show b < 26 by omega)
  have st : StA h2 (o + 1) σ x := by
    have ap := @StA.ap h (o + 1) σ x hx
    obtain ⟨⟨b1, ⟨f2, b2, b2'⟩, ⟨f3, b3, b3'⟩, ⟨g4, b4, b4'⟩, g5, b5, b5'⟩, p, ok, w⟩ := hx
    have far : ∀ t, o + 1 ≤ t → t < o + 1 + 5 → h2 t = h t := fun t t1 t2 => e t (by omega) (by omega) (by omega) (by omega) (by omega) (by omega) (by omega) (by omega)
    refine ⟨⟨(far _ (by omega) (by omega)).trans b1, ⟨f2, (far _ (by omega) (by omega)).trans b2, b2'⟩, ⟨f3, (far _ (by omega) (by omega)).trans b3, b3'⟩, ⟨g4, (far _ (by omega) (by omega)).trans b4, b4'⟩, g5, (far _ (by omega) (by omega)).trans b5, b5'⟩, p, ok, fun l hl => ?_⟩
    by_cases c1 : l = a
    · subst c1; exact hA
    by_cases c2 : l = b
    · subst c2; exact hB
    obtain ⟨fl, w1, w2⟩ := w l hl
    have d1 := ap hl (show a < 26 by omega) c1
    have d2 := ap hl (show b < 26 by omega) c2
    have p1 := p.1 l hl
    have p2 : wa (o + 1) σ l = o + 1 + 5 + 3 * σ l := rfl
    exact ⟨fl, w1.kp (fun t t1 t2 => e t (by omega) (by omega) (by omega) (by omega) (by omega) (by omega) (by omega) (by omega)), w2⟩
  have far : ∀ t, (t < o + 1 ∨ o + 84 ≤ t) → (t < o + 181 ∨ o + 181 + 89 ≤ t) → (t < o + 181 + 90 ∨ o + 181 + 104 ≤ t) → h2 t = h t := fun t t1 t2 t3 => e t t2 t3 (by omega) (by omega) (by omega) (by omega) (by omega) (by omega)
  exact ⟨⟨⟨(far _ (by omega) (by omega) (by omega)).trans a1, ⟨σ, st⟩, ⟨τ, a3.far (fun t t1 t2 => far t (by omega) (by omega) (by omega))⟩, a4.kp (fun t t1 t2 => far t (by omega) (by omega) (by omega)), ⟨hT, (far _ (by omega) (by omega) (by omega)).trans a5.2⟩, hS, ⟨S, a7.far (fun t t1 t2 => far t (by omega) (by omega) (by omega))⟩, W, fd, a8.kp (fun t t1 t2 => far t (by omega) (by omega) (by omega)), a9⟩, st⟩, fun t t1 => far t (by omega) (by omega) (by omega)⟩
/-- the parts that a call wants -/
theorem XAs.get (q : XAs h o σ x y ik len f ft fp) : h o = some (ob 9 [.ref (o + 1), .ref (o + 84), .int (bI ik), .ref (o + 167), .ref (o + 181), .ref (o + 181 + 79), .ref (o + 181 + 83), .ref (o + 181 + 89), .ref (o + 181 + 90), .ref (o + 181 + 104), .ref (o + 181 + 119)]) ∧ PSh h (o + 181) ∧ ShS h (o + 181 + 90) ∧ (∃ S, LSh h (o + 181 + 104) (o + 181) S) := ⟨q.1.1, q.1.2.2.2.2.1, q.1.2.2.2.2.2.1, q.1.2.2.2.2.2.2.1⟩
def Q_fano (x : Sx) (w a b c d z : Int32) : Prop := if (okI w 6 && bl (Div (wld x w))) = true then Fano (wld x w) a b c d z else z = -1
def PlP (W : Wd) (u v : Nat) (t z : Int32) : Prop := if t = nI 0 then z = (if u = v then -1 else nI (jnP W u v)) else if t = nI 1 then z = (if u = v then -1 else nI (mtP W u v)) else if t = nI 2 then z = bI (bl (OnP W u v)) else z = -1
def Q_plane (x : Sx) (w u v t z : Int32) : Prop := if (okI w 6 && (bl (Div (wld x w)) && (okI u (lastP (wld x w) + 1) && okI v (lastP (wld x w) + 1)))) = true then PlP (wld x w) u.toNatClampNeg v.toNatClampNeg t z else z = -1
theorem sw_out {t : Int32} {n : Nat} (hn : n < 2 ^ 30) (h : okI t (n + 1) = false) : t.toInt < 0 ∨ (n : Int) < t.toInt := by
  rcases Classical.em (t < 0) with c | c
  · left; rw [Int32.lt_iff_toInt_lt] at c; exact c
  · right
    rcases Classical.em (nI (n + 1) ≤ t) with d | d
    · rw [Int32.le_iff_toInt_le, nI_toInt (by omega)] at d; omega
    · rw [okI_in c d] at h; cases h
def OfP (W : Wd) (t z : Int32) : Prop :=
  if t = nI 0 then z = nI W.1 else if t = nI 1 then z = nI W.2.1 else if t = nI 2 then z = nI (W.1 ^ W.2.1) else
  if t = nI 3 then z = bI (bl (Div W)) else if t = nI 4 then Fail W z else if t = nI 5 then UnitOf W z else
  if t = nI 6 then z = bI (bl (Wcom W)) else if t = nI 7 then z = bI (bl (Joi W)) else if t = nI 8 then Unj W z else
  if t = nI 9 then z = nI (cn (W.1 ^ W.2.1) (fun x => bl (Joins W 0 x))) else if t = nI 10 then z = nI (cn (W.1 ^ W.2.1) (fun x => bl (Joins W 1 x))) else if t = nI 11 then z = nI (cn (W.1 ^ W.2.1) (fun x => bl (Joins W 2 x))) else
  if t = nI 12 then z = nI (cn (W.1 ^ W.2.1) (fun x => bl (InC W x))) else if t = nI 13 then z = nI (cn (W.1 ^ W.2.1) (fun x => decide (mul W x x = x))) else
  if t = nI 14 then ((W.1 = 2 ∧ z = -1) ∨ (W.1 ≠ 2 ∧ isB z (∀ y, 0 < y → y < W.1 ^ W.2.1 → rankE W 3 y = W.2.1))) else
  if t = nI 15 then z = nI (cn (W.1 ^ W.2.1) (sqs W (W.1 ^ W.2.1))) else if t = nI 16 then z = nI (W.2.1 * W.2.1 - rkD W (W.2.1 * W.2.1) 0 0) else
  if t = nI 17 then z = nI (3 * (W.2.1 * W.2.1) - rkD W (3 * (W.2.1 * W.2.1)) (W.2.1 * W.2.1) (2 * (W.2.1 * W.2.1))) else z = -2
def Q_of (x : Sx) (w t z : Int32) : Prop := if okI w 6 = true then OfP (wld x w) t z else z = -2
theorem OfP_out {W : Wd} {t : Int32} (h : okI t (17 + 1) = false) : OfP W t (-2) := by
  unfold OfP
  have ne : ∀ k, k < 18 → t ≠ nI k := fun k hk q => by rw [q, okq hk (by omega)] at h; cases h
  rw [if_neg (ne 0 (by decide)), if_neg (ne 1 (by decide)), if_neg (ne 2 (by decide)), if_neg (ne 3 (by decide)), if_neg (ne 4 (by decide)), if_neg (ne 5 (by decide)), if_neg (ne 6 (by decide)), if_neg (ne 7 (by decide)), if_neg (ne 8 (by decide)), if_neg (ne 9 (by decide)), if_neg (ne 10 (by decide)), if_neg (ne 11 (by decide)), if_neg (ne 12 (by decide)), if_neg (ne 13 (by decide)), if_neg (ne 14 (by decide)), if_neg (ne 15 (by decide)), if_neg (ne 16 (by decide)), if_neg (ne 17 (by decide))]
theorem c_X10_of (hX : XAt h o x y ik len f ft fp) (w t : Int32) : CI yX10_of MX10_of [.ref o, .int w, .int t] h (fun z h' => Q_of x w t z ∧ XAt h' o x y ik len f ft fp ∧ Er o (o + 303) h h') := by
  obtain ⟨a1, ⟨σ, a2⟩, -, -, a5, a6, ⟨S0, a7⟩, -⟩ := id hX
  have hs : XAs h o σ x y ik len f ft fp := ⟨hX, a2⟩
  obtain ⟨s1, -⟩ := id a2.1
  have t5 := a5.1.2.1
  have f5 := a5.1.1.2.1
  have g5 := a5.2
  refine CI.ofV (by decide) rfl rfl (by simp [Value.category]) (by exact Nat.le_of_ble_eq_true rfl) (fun sz => ?_)
  refine e_aload_n (pc := 0) dX10_of_0 rfl rfl ?_
  refine e_get (pc := 1) fl_X10_10 dX10_of_1 (by repeat (first | assumption | exact hset_eq _ _ _ | (apply WAt.hd; assumption) | rw [hset_ne _ _ (by omega)])) (by rfl) ?_
  refine e_iload_n (pc := 4) dX10_of_4 rfl rfl ?_
  refine n_Vr (pc := 5) (c_X6_world a2 w) bX6_world q_i_X6_world q_s_X6_world q_m_X10_101 dX10_of_5 rfl rfl (by repeat (first | assumption | exact hset_eq _ _ _ | (apply WAt.hd; assumption) | rw [hset_ne _ _ (by omega)])) rfl rfl (by exact Nat.le_of_ble_eq_true rfl) ⟨by decide, by decide⟩ ⟨rfl, rfl, Nat.zero_le _, Nat.zero_le _⟩ (fun r h2 hp => ?_)
  obtain ⟨rfl, hr⟩ := hp
  rcases hr with ⟨a, ha, rfl, rfl⟩ | ⟨hw, rfl⟩
  · obtain ⟨wf, w1, w2⟩ := a2.w (show a < 26 by omega)
    have wk := a2.ok (show a < 26 by omega)
    have nb := wk.b
    have bd := a2.bd (show a < 26 by omega)
    have cl : wld x (nI a) = x.ws a := by unfold wld; rw [cl_nI (by omega)]
    have o6 := ok6 ha
    refine e_astore_n (pc := 8) dX10_of_8 rfl (by decide) ?_
    refine e_aload_n (pc := 9) dX10_of_9 rfl rfl ?_
    refine e_ifnonnull (pc := 10) (tgt := 16) dX10_of_10 (by decide) ?_
    refine e_iload_n (pc := 16) dX10_of_16 rfl rfl ?_
    cases ht : okI t (17 + 1) with
    | false =>
      refine e_switchOut (pc := 17) (tgt := 261) dX10_of_17 (sw_out (n := 17) (by decide) ht) (by decide) ?_
      refine e_bipush (pc := 261) (v := -2) dX10_of_261 (by decide) ?_
      exact n_iret (pc := 263) dX10_of_263 rfl ⟨qT o6 (OfP_out ht), hX, Er.rf _ _ _⟩
    | true =>
      obtain ⟨t', t1, rfl⟩ := okI_of (by omega) ht
      match t', t1 with
      | 0, _ =>
        refine e_switchIn (pc := 17) (off := 87) (tgt := 104) dX10_of_17 (by decide) (by decide) (by decide) (by decide) ?_
        refine e_aload_n (pc := 104) dX10_of_104 rfl rfl ?_
        refine n_VP (pc := 105) (c_X9_prime w1) bX9_prime q_i_X9_prime q_s_X9_prime q_m_X10_132 dX10_of_105 rfl rfl (by repeat (first | assumption | exact hset_eq _ _ _ | (apply WAt.hd; assumption) | rw [hset_ne _ _ (by omega)])) rfl rfl (by exact Nat.le_of_ble_eq_true rfl) ⟨by decide, by decide⟩ ⟨rfl, rfl, Nat.zero_le _, Nat.zero_le _⟩ ?_
        refine n_iret (pc := 108) dX10_of_108 rfl ⟨qT o6 ?_, hX, Er.rf _ _ _⟩
        rw [cl]
        unfold OfP; rw [if_pos rfl]
      | 1, _ =>
        refine e_switchIn (pc := 17) (off := 92) (tgt := 109) dX10_of_17 (by decide) (by decide) (by decide) (by decide) ?_
        refine e_aload_n (pc := 109) dX10_of_109 rfl rfl ?_
        refine n_VP (pc := 110) (c_X9_size w1) bX9_size q_i_X9_size q_s_X9_size q_m_X10_147 dX10_of_110 rfl rfl (by repeat (first | assumption | exact hset_eq _ _ _ | (apply WAt.hd; assumption) | rw [hset_ne _ _ (by omega)])) rfl rfl (by exact Nat.le_of_ble_eq_true rfl) ⟨by decide, by decide⟩ ⟨rfl, rfl, Nat.zero_le _, Nat.zero_le _⟩ ?_
        refine n_iret (pc := 113) dX10_of_113 rfl ⟨qT o6 ?_, hX, Er.rf _ _ _⟩
        rw [cl]
        unfold OfP; rw [if_neg (by decide), if_pos rfl]
      | 2, _ =>
        refine e_switchIn (pc := 17) (off := 97) (tgt := 114) dX10_of_17 (by decide) (by decide) (by decide) (by decide) ?_
        refine e_aload_n (pc := 114) dX10_of_114 rfl rfl ?_
        refine n_VP (pc := 115) (c_X9_order w1) bX9_order q_i_X9_order q_s_X9_order q_m_X10_119 dX10_of_115 rfl rfl (by repeat (first | assumption | exact hset_eq _ _ _ | (apply WAt.hd; assumption) | rw [hset_ne _ _ (by omega)])) rfl rfl (by exact Nat.le_of_ble_eq_true rfl) ⟨by decide, by decide⟩ ⟨rfl, rfl, Nat.zero_le _, Nat.zero_le _⟩ ?_
        refine n_iret (pc := 118) dX10_of_118 rfl ⟨qT o6 ?_, hX, Er.rf _ _ _⟩
        rw [cl]
        unfold OfP; rw [if_neg (by decide), if_neg (by decide), if_pos rfl]
      | 3, _ =>
        refine e_switchIn (pc := 17) (off := 102) (tgt := 119) dX10_of_17 (by decide) (by decide) (by decide) (by decide) ?_
        refine e_aload_n (pc := 119) dX10_of_119 rfl rfl ?_
        refine e_get (pc := 120) fl_X10_51 dX10_of_120 (by repeat (first | assumption | exact hset_eq _ _ _ | (apply WAt.hd; assumption) | rw [hset_ne _ _ (by omega)])) (by rfl) ?_
        refine e_aload_n (pc := 123) dX10_of_123 rfl rfl ?_
        refine n_V (pc := 124) (c_X7_divides a5.1 w1 wk w2 (by omega)) bX7_divides q_i_X7_divides q_s_X7_divides q_m_X10_150 dX10_of_124 rfl rfl (by repeat (first | assumption | exact hset_eq _ _ _ | (apply WAt.hd; assumption) | rw [hset_ne _ _ (by omega)])) rfl rfl (by exact Nat.le_of_ble_eq_true rfl) ⟨by decide, by decide⟩ ⟨rfl, rfl, Nat.zero_le _, Nat.zero_le _⟩ (fun z h3 hp => ?_)
        obtain ⟨hz, ⟨f2, p1, p2⟩, p3, p4⟩ := hp
        have h3s := hX.fr a2 ha p4 p3 p2 p1
        rcases hz with ⟨hD, rfl⟩ | ⟨hD, rfl⟩
        · refine e_if_eq (pc := 127) (tgt := 134) dX10_of_127 (by decide) (fun q => absurd q (by decide)) (fun _ => ?_)
          refine n_iconst (pc := 130) 1 dX10_of_130 (by decide) ?_
          refine e_goto (pc := 131) (tgt := 135) dX10_of_131 (by decide) ?_
          refine n_iret (pc := 135) dX10_of_135 rfl ⟨qT o6 ?_, h3s⟩
          rw [cl]
          unfold OfP; rw [if_neg (by decide), if_neg (by decide), if_neg (by decide), if_pos rfl]
          rw [bl_t hD]; rfl
        · refine e_if_eq (pc := 127) (tgt := 134) dX10_of_127 (by decide) (fun _ => ?_) (fun q => absurd rfl q)
          refine n_iconst (pc := 134) 0 dX10_of_134 (by decide) ?_
          refine n_iret (pc := 135) dX10_of_135 rfl ⟨qT o6 ?_, h3s⟩
          rw [cl]
          unfold OfP; rw [if_neg (by decide), if_neg (by decide), if_neg (by decide), if_pos rfl]
          rw [bl_f hD]; rfl
      | 4, _ =>
        refine e_switchIn (pc := 17) (off := 119) (tgt := 136) dX10_of_17 (by decide) (by decide) (by decide) (by decide) ?_
        refine e_aload_n (pc := 136) dX10_of_136 rfl rfl ?_
        refine e_get (pc := 137) fl_X10_51 dX10_of_137 (by repeat (first | assumption | exact hset_eq _ _ _ | (apply WAt.hd; assumption) | rw [hset_ne _ _ (by omega)])) (by rfl) ?_
        refine e_aload_n (pc := 140) dX10_of_140 rfl rfl ?_
        refine n_V (pc := 141) (c_X7_failing a5.1 w1 wk w2 (by omega)) bX7_failing q_i_X7_failing q_s_X7_failing q_m_X10_154 dX10_of_141 rfl rfl (by repeat (first | assumption | exact hset_eq _ _ _ | (apply WAt.hd; assumption) | rw [hset_ne _ _ (by omega)])) rfl rfl (by exact Nat.le_of_ble_eq_true rfl) ⟨by decide, by decide⟩ ⟨rfl, rfl, Nat.zero_le _, Nat.zero_le _⟩ (fun z h3 hp => ?_)
        obtain ⟨p1, p2, p3, p4⟩ := hp
        refine n_iret (pc := 144) dX10_of_144 rfl ⟨qT o6 ?_, hX.fr a2 ha p4 p3 p2 (Or.inr p1)⟩
        rw [cl]
        unfold OfP; rw [if_neg (by decide), if_neg (by decide), if_neg (by decide), if_neg (by decide), if_pos rfl]
        exact p1
      | 5, _ =>
        refine e_switchIn (pc := 17) (off := 128) (tgt := 145) dX10_of_17 (by decide) (by decide) (by decide) (by decide) ?_
        refine e_aload_n (pc := 145) dX10_of_145 rfl rfl ?_
        refine e_get (pc := 146) fl_X10_51 dX10_of_146 (by repeat (first | assumption | exact hset_eq _ _ _ | (apply WAt.hd; assumption) | rw [hset_ne _ _ (by omega)])) (by rfl) ?_
        refine e_aload_n (pc := 149) dX10_of_149 rfl rfl ?_
        refine n_V (pc := 150) (c_X7_unit a5.1 w1 wk (by omega)) bX7_unit q_i_X7_unit q_s_X7_unit q_m_X10_158 dX10_of_150 rfl rfl (by repeat (first | assumption | exact hset_eq _ _ _ | (apply WAt.hd; assumption) | rw [hset_ne _ _ (by omega)])) rfl rfl (by exact Nat.le_of_ble_eq_true rfl) ⟨by decide, by decide⟩ ⟨rfl, rfl, Nat.zero_le _, Nat.zero_le _⟩ (fun z h3 hp => ?_)
        obtain ⟨p1, p2, p3⟩ := hp
        refine n_iret (pc := 153) dX10_of_153 rfl ⟨qT o6 ?_, hX.fr a2 ha p3.fr (a5.1.es p3 (by omega)) p2 w2⟩
        rw [cl]
        unfold OfP; rw [if_neg (by decide), if_neg (by decide), if_neg (by decide), if_neg (by decide), if_neg (by decide), if_pos rfl]
        exact p1
      | 6, _ =>
        refine e_switchIn (pc := 17) (off := 137) (tgt := 154) dX10_of_17 (by decide) (by decide) (by decide) (by decide) ?_
        refine e_aload_n (pc := 154) dX10_of_154 rfl rfl ?_
        refine n_V (pc := 155) (c_X9_commutes w1 wk) bX9_commutes q_i_X9_commutes q_s_X9_commutes q_m_X10_161 dX10_of_155 rfl rfl (by repeat (first | assumption | exact hset_eq _ _ _ | (apply WAt.hd; assumption) | rw [hset_ne _ _ (by omega)])) rfl rfl (by exact Nat.le_of_ble_eq_true rfl) ⟨by decide, by decide⟩ ⟨rfl, rfl, Nat.zero_le _, Nat.zero_le _⟩ (fun z h3 hp => ?_)
        obtain ⟨hz, rfl⟩ := hp
        rcases hz with ⟨hD, rfl⟩ | ⟨hD, rfl⟩
        · refine e_if_eq (pc := 158) (tgt := 165) dX10_of_158 (by decide) (fun q => absurd q (by decide)) (fun _ => ?_)
          refine n_iconst (pc := 161) 1 dX10_of_161 (by decide) ?_
          refine e_goto (pc := 162) (tgt := 166) dX10_of_162 (by decide) ?_
          refine n_iret (pc := 166) dX10_of_166 rfl ⟨qT o6 ?_, hX, Er.rf _ _ _⟩
          rw [cl]
          unfold OfP; rw [if_neg (by decide), if_neg (by decide), if_neg (by decide), if_neg (by decide), if_neg (by decide), if_neg (by decide), if_pos rfl]
          rw [bl_t hD]; rfl
        · refine e_if_eq (pc := 158) (tgt := 165) dX10_of_158 (by decide) (fun _ => ?_) (fun q => absurd rfl q)
          refine n_iconst (pc := 165) 0 dX10_of_165 (by decide) ?_
          refine n_iret (pc := 166) dX10_of_166 rfl ⟨qT o6 ?_, hX, Er.rf _ _ _⟩
          rw [cl]
          unfold OfP; rw [if_neg (by decide), if_neg (by decide), if_neg (by decide), if_neg (by decide), if_neg (by decide), if_neg (by decide), if_pos rfl]
          rw [bl_f hD]; rfl
      | 7, _ =>
        refine e_switchIn (pc := 17) (off := 150) (tgt := 167) dX10_of_17 (by decide) (by decide) (by decide) (by decide) ?_
        refine e_aload_n (pc := 167) dX10_of_167 rfl rfl ?_
        refine e_get (pc := 168) fl_X10_51 dX10_of_168 (by repeat (first | assumption | exact hset_eq _ _ _ | (apply WAt.hd; assumption) | rw [hset_ne _ _ (by omega)])) (by rfl) ?_
        refine e_aload_n (pc := 171) dX10_of_171 rfl rfl ?_
        refine n_V (pc := 172) (c_X7_firstUnjoined a5.1 w1 wk (by omega)) bX7_firstUnjoined q_i_X7_firstUnjoined q_s_X7_firstUnjoined q_m_X10_164 dX10_of_172 rfl rfl (by repeat (first | assumption | exact hset_eq _ _ _ | (apply WAt.hd; assumption) | rw [hset_ne _ _ (by omega)])) rfl rfl (by exact Nat.le_of_ble_eq_true rfl) ⟨by decide, by decide⟩ ⟨rfl, rfl, Nat.zero_le _, Nat.zero_le _⟩ (fun z h3 hp => ?_)
        obtain ⟨p1, p2, p3⟩ := hp
        have h3s := hX.fr a2 ha p3.fr (a5.1.es p3 (by omega)) p2 w2
        refine e_iconst (pc := 175) (v := -1) dX10_of_175 (by decide) ?_
        rcases p1 with ⟨i, j, k, rfl, i1, j1, k1, hn, -⟩ | ⟨rfl, hj⟩
        · refine e_icmp_ne (pc := 176) (tgt := 183) dX10_of_176 (by decide) (fun _ => ?_) (fun q => absurd q (nI_ne (by omega)))
          refine n_iconst (pc := 183) 0 dX10_of_183 (by decide) ?_
          refine n_iret (pc := 184) dX10_of_184 rfl ⟨qT o6 ?_, h3s⟩
          rw [cl]
          unfold OfP; rw [if_neg (by decide), if_neg (by decide), if_neg (by decide), if_neg (by decide), if_neg (by decide), if_neg (by decide), if_neg (by decide), if_pos rfl]
          rw [bl_f (fun q => hn (q i j k i1 j1 k1))]; rfl
        · refine e_icmp_ne (pc := 176) (tgt := 183) dX10_of_176 (by decide) (fun q => absurd rfl q) (fun _ => ?_)
          refine n_iconst (pc := 179) 1 dX10_of_179 (by decide) ?_
          refine e_goto (pc := 180) (tgt := 184) dX10_of_180 (by decide) ?_
          refine n_iret (pc := 184) dX10_of_184 rfl ⟨qT o6 ?_, h3s⟩
          rw [cl]
          unfold OfP; rw [if_neg (by decide), if_neg (by decide), if_neg (by decide), if_neg (by decide), if_neg (by decide), if_neg (by decide), if_neg (by decide), if_pos rfl]
          rw [bl_t (show Joi (x.ws a) from hj)]; rfl
      | 8, _ =>
        refine e_switchIn (pc := 17) (off := 168) (tgt := 185) dX10_of_17 (by decide) (by decide) (by decide) (by decide) ?_
        refine e_aload_n (pc := 185) dX10_of_185 rfl rfl ?_
        refine e_get (pc := 186) fl_X10_51 dX10_of_186 (by repeat (first | assumption | exact hset_eq _ _ _ | (apply WAt.hd; assumption) | rw [hset_ne _ _ (by omega)])) (by rfl) ?_
        refine e_aload_n (pc := 189) dX10_of_189 rfl rfl ?_
        refine n_V (pc := 190) (c_X7_firstUnjoined a5.1 w1 wk (by omega)) bX7_firstUnjoined q_i_X7_firstUnjoined q_s_X7_firstUnjoined q_m_X10_164 dX10_of_190 rfl rfl (by repeat (first | assumption | exact hset_eq _ _ _ | (apply WAt.hd; assumption) | rw [hset_ne _ _ (by omega)])) rfl rfl (by exact Nat.le_of_ble_eq_true rfl) ⟨by decide, by decide⟩ ⟨rfl, rfl, Nat.zero_le _, Nat.zero_le _⟩ (fun z h3 hp => ?_)
        obtain ⟨p1, p2, p3⟩ := hp
        refine n_iret (pc := 193) dX10_of_193 rfl ⟨qT o6 ?_, hX.fr a2 ha p3.fr (a5.1.es p3 (by omega)) p2 w2⟩
        rw [cl]
        unfold OfP; rw [if_neg (by decide), if_neg (by decide), if_neg (by decide), if_neg (by decide), if_neg (by decide), if_neg (by decide), if_neg (by decide), if_neg (by decide), if_pos rfl]
        exact p1
      | 9, _ =>
        refine e_switchIn (pc := 17) (off := 177) (tgt := 194) dX10_of_17 (by decide) (by decide) (by decide) (by decide) ?_
        refine e_aload_n (pc := 194) dX10_of_194 rfl rfl ?_
        refine e_get (pc := 195) fl_X10_51 dX10_of_195 (by repeat (first | assumption | exact hset_eq _ _ _ | (apply WAt.hd; assumption) | rw [hset_ne _ _ (by omega)])) (by rfl) ?_
        refine e_aload_n (pc := 198) dX10_of_198 rfl rfl ?_
        refine e_iload_n (pc := 199) dX10_of_199 rfl rfl ?_
        refine n_bipush (pc := 200) 9 dX10_of_200 (by decide) ?_
        refine n_isub (pc := 202) dX10_of_202 (by omega) ?_
        refine n_V (pc := 203) (c_X7_nucleus (w := 0) (by decide) a5.1 w1 wk (by omega)) bX7_nucleus q_i_X7_nucleus q_s_X7_nucleus q_m_X10_167 dX10_of_203 rfl rfl (by repeat (first | assumption | exact hset_eq _ _ _ | (apply WAt.hd; assumption) | rw [hset_ne _ _ (by omega)])) rfl rfl (by exact Nat.le_of_ble_eq_true rfl) ⟨by decide, by decide⟩ ⟨rfl, rfl, Nat.zero_le _, Nat.zero_le _⟩ (fun z h3 hp => ?_)
        obtain ⟨rfl, p2, p3, p4⟩ := hp
        refine n_iret (pc := 206) dX10_of_206 rfl ⟨qT o6 ?_, hX.fr a2 ha p4 p2 p3 w2⟩
        rw [cl]
        unfold OfP; rw [if_neg (by decide), if_neg (by decide), if_neg (by decide), if_neg (by decide), if_neg (by decide), if_neg (by decide), if_neg (by decide), if_neg (by decide), if_neg (by decide), if_pos rfl]
      | 10, _ =>
        refine e_switchIn (pc := 17) (off := 177) (tgt := 194) dX10_of_17 (by decide) (by decide) (by decide) (by decide) ?_
        refine e_aload_n (pc := 194) dX10_of_194 rfl rfl ?_
        refine e_get (pc := 195) fl_X10_51 dX10_of_195 (by repeat (first | assumption | exact hset_eq _ _ _ | (apply WAt.hd; assumption) | rw [hset_ne _ _ (by omega)])) (by rfl) ?_
        refine e_aload_n (pc := 198) dX10_of_198 rfl rfl ?_
        refine e_iload_n (pc := 199) dX10_of_199 rfl rfl ?_
        refine n_bipush (pc := 200) 9 dX10_of_200 (by decide) ?_
        refine n_isub (pc := 202) dX10_of_202 (by omega) ?_
        refine n_V (pc := 203) (c_X7_nucleus (w := 1) (by decide) a5.1 w1 wk (by omega)) bX7_nucleus q_i_X7_nucleus q_s_X7_nucleus q_m_X10_167 dX10_of_203 rfl rfl (by repeat (first | assumption | exact hset_eq _ _ _ | (apply WAt.hd; assumption) | rw [hset_ne _ _ (by omega)])) rfl rfl (by exact Nat.le_of_ble_eq_true rfl) ⟨by decide, by decide⟩ ⟨rfl, rfl, Nat.zero_le _, Nat.zero_le _⟩ (fun z h3 hp => ?_)
        obtain ⟨rfl, p2, p3, p4⟩ := hp
        refine n_iret (pc := 206) dX10_of_206 rfl ⟨qT o6 ?_, hX.fr a2 ha p4 p2 p3 w2⟩
        rw [cl]
        unfold OfP; rw [if_neg (by decide), if_neg (by decide), if_neg (by decide), if_neg (by decide), if_neg (by decide), if_neg (by decide), if_neg (by decide), if_neg (by decide), if_neg (by decide), if_neg (by decide), if_pos rfl]
      | 11, _ =>
        refine e_switchIn (pc := 17) (off := 177) (tgt := 194) dX10_of_17 (by decide) (by decide) (by decide) (by decide) ?_
        refine e_aload_n (pc := 194) dX10_of_194 rfl rfl ?_
        refine e_get (pc := 195) fl_X10_51 dX10_of_195 (by repeat (first | assumption | exact hset_eq _ _ _ | (apply WAt.hd; assumption) | rw [hset_ne _ _ (by omega)])) (by rfl) ?_
        refine e_aload_n (pc := 198) dX10_of_198 rfl rfl ?_
        refine e_iload_n (pc := 199) dX10_of_199 rfl rfl ?_
        refine n_bipush (pc := 200) 9 dX10_of_200 (by decide) ?_
        refine n_isub (pc := 202) dX10_of_202 (by omega) ?_
        refine n_V (pc := 203) (c_X7_nucleus (w := 2) (by decide) a5.1 w1 wk (by omega)) bX7_nucleus q_i_X7_nucleus q_s_X7_nucleus q_m_X10_167 dX10_of_203 rfl rfl (by repeat (first | assumption | exact hset_eq _ _ _ | (apply WAt.hd; assumption) | rw [hset_ne _ _ (by omega)])) rfl rfl (by exact Nat.le_of_ble_eq_true rfl) ⟨by decide, by decide⟩ ⟨rfl, rfl, Nat.zero_le _, Nat.zero_le _⟩ (fun z h3 hp => ?_)
        obtain ⟨rfl, p2, p3, p4⟩ := hp
        refine n_iret (pc := 206) dX10_of_206 rfl ⟨qT o6 ?_, hX.fr a2 ha p4 p2 p3 w2⟩
        rw [cl]
        unfold OfP; rw [if_neg (by decide), if_neg (by decide), if_neg (by decide), if_neg (by decide), if_neg (by decide), if_neg (by decide), if_neg (by decide), if_neg (by decide), if_neg (by decide), if_neg (by decide), if_neg (by decide), if_pos rfl]
      | 12, _ =>
        refine e_switchIn (pc := 17) (off := 190) (tgt := 207) dX10_of_17 (by decide) (by decide) (by decide) (by decide) ?_
        refine e_aload_n (pc := 207) dX10_of_207 rfl rfl ?_
        refine e_get (pc := 208) fl_X10_51 dX10_of_208 (by repeat (first | assumption | exact hset_eq _ _ _ | (apply WAt.hd; assumption) | rw [hset_ne _ _ (by omega)])) (by rfl) ?_
        refine e_aload_n (pc := 211) dX10_of_211 rfl rfl ?_
        refine n_V (pc := 212) (c_X7_centre a5.1 w1 wk (by omega)) bX7_centre q_i_X7_centre q_s_X7_centre q_m_X10_171 dX10_of_212 rfl rfl (by repeat (first | assumption | exact hset_eq _ _ _ | (apply WAt.hd; assumption) | rw [hset_ne _ _ (by omega)])) rfl rfl (by exact Nat.le_of_ble_eq_true rfl) ⟨by decide, by decide⟩ ⟨rfl, rfl, Nat.zero_le _, Nat.zero_le _⟩ (fun z h3 hp => ?_)
        obtain ⟨rfl, p2, p3, p4⟩ := hp
        refine n_iret (pc := 215) dX10_of_215 rfl ⟨qT o6 ?_, hX.fr a2 ha p4 p2 p3 w2⟩
        rw [cl]
        unfold OfP; rw [if_neg (by decide), if_neg (by decide), if_neg (by decide), if_neg (by decide), if_neg (by decide), if_neg (by decide), if_neg (by decide), if_neg (by decide), if_neg (by decide), if_neg (by decide), if_neg (by decide), if_neg (by decide), if_pos rfl]
      | 13, _ =>
        refine e_switchIn (pc := 17) (off := 199) (tgt := 216) dX10_of_17 (by decide) (by decide) (by decide) (by decide) ?_
        refine e_aload_n (pc := 216) dX10_of_216 rfl rfl ?_
        refine e_get (pc := 217) fl_X10_51 dX10_of_217 (by repeat (first | assumption | exact hset_eq _ _ _ | (apply WAt.hd; assumption) | rw [hset_ne _ _ (by omega)])) (by rfl) ?_
        refine e_aload_n (pc := 220) dX10_of_220 rfl rfl ?_
        refine n_V (pc := 221) (c_X7_idempotents w1 wk) bX7_idempotents q_i_X7_idempotents q_s_X7_idempotents q_m_X10_174 dX10_of_221 rfl rfl (by repeat (first | assumption | exact hset_eq _ _ _ | (apply WAt.hd; assumption) | rw [hset_ne _ _ (by omega)])) rfl rfl (by exact Nat.le_of_ble_eq_true rfl) ⟨by decide, by decide⟩ ⟨rfl, rfl, Nat.zero_le _, Nat.zero_le _⟩ (fun z h3 hp => ?_)
        obtain ⟨rfl, p2, p3⟩ := hp
        refine n_iret (pc := 224) dX10_of_224 rfl ⟨qT o6 ?_, hX.fr a2 ha p3.fr (a5.1.es p3 (by omega)) p2 w2⟩
        rw [cl]
        unfold OfP; rw [if_neg (by decide), if_neg (by decide), if_neg (by decide), if_neg (by decide), if_neg (by decide), if_neg (by decide), if_neg (by decide), if_neg (by decide), if_neg (by decide), if_neg (by decide), if_neg (by decide), if_neg (by decide), if_neg (by decide), if_pos rfl]
      | 14, _ =>
        refine e_switchIn (pc := 17) (off := 208) (tgt := 225) dX10_of_17 (by decide) (by decide) (by decide) (by decide) ?_
        refine e_aload_n (pc := 225) dX10_of_225 rfl rfl ?_
        refine e_get (pc := 226) fl_X10_42 dX10_of_226 (by repeat (first | assumption | exact hset_eq _ _ _ | (apply WAt.hd; assumption) | rw [hset_ne _ _ (by omega)])) (by rfl) ?_
        refine e_aload_n (pc := 229) dX10_of_229 rfl rfl ?_
        refine n_V (pc := 230) (c_X1_planar a5.1.1 w1 wk (by omega)) bX1_planar q_i_X1_planar q_s_X1_planar q_m_X10_177 dX10_of_230 rfl rfl (by repeat (first | assumption | exact hset_eq _ _ _ | (apply WAt.hd; assumption) | rw [hset_ne _ _ (by omega)])) rfl rfl (by exact Nat.le_of_ble_eq_true rfl) ⟨by decide, by decide⟩ ⟨rfl, rfl, Nat.zero_le _, Nat.zero_le _⟩ (fun z h3 hp => ?_)
        obtain ⟨p1, p2, p3⟩ := hp
        refine n_iret (pc := 233) dX10_of_233 rfl ⟨qT o6 ?_, hX.fr a2 ha (p3.fr (by omega) (by omega)) (a5.1.er p2 p3) (w1.er p3 (by omega)) w2⟩
        rw [cl]
        unfold OfP; rw [if_neg (by decide), if_neg (by decide), if_neg (by decide), if_neg (by decide), if_neg (by decide), if_neg (by decide), if_neg (by decide), if_neg (by decide), if_neg (by decide), if_neg (by decide), if_neg (by decide), if_neg (by decide), if_neg (by decide), if_neg (by decide), if_pos rfl]
        exact p1
      | 15, _ =>
        refine e_switchIn (pc := 17) (off := 217) (tgt := 234) dX10_of_17 (by decide) (by decide) (by decide) (by decide) ?_
        refine e_aload_n (pc := 234) dX10_of_234 rfl rfl ?_
        refine e_get (pc := 235) fl_X10_51 dX10_of_235 (by repeat (first | assumption | exact hset_eq _ _ _ | (apply WAt.hd; assumption) | rw [hset_ne _ _ (by omega)])) (by rfl) ?_
        refine e_aload_n (pc := 238) dX10_of_238 rfl rfl ?_
        refine n_V (pc := 239) (c_X7_squares a5.1 w1 wk (by omega)) bX7_squares q_i_X7_squares q_s_X7_squares q_m_X10_180 dX10_of_239 rfl rfl (by repeat (first | assumption | exact hset_eq _ _ _ | (apply WAt.hd; assumption) | rw [hset_ne _ _ (by omega)])) rfl rfl (by exact Nat.le_of_ble_eq_true rfl) ⟨by decide, by decide⟩ ⟨rfl, rfl, Nat.zero_le _, Nat.zero_le _⟩ (fun z h3 hp => ?_)
        obtain ⟨rfl, p2, p3, p4⟩ := hp
        refine n_iret (pc := 242) dX10_of_242 rfl ⟨qT o6 ?_, hX.fr a2 ha p4 p2 p3 w2⟩
        rw [cl]
        unfold OfP; rw [if_neg (by decide), if_neg (by decide), if_neg (by decide), if_neg (by decide), if_neg (by decide), if_neg (by decide), if_neg (by decide), if_neg (by decide), if_neg (by decide), if_neg (by decide), if_neg (by decide), if_neg (by decide), if_neg (by decide), if_neg (by decide), if_neg (by decide), if_pos rfl]
      | 16, _ =>
        refine e_switchIn (pc := 17) (off := 226) (tgt := 243) dX10_of_17 (by decide) (by decide) (by decide) (by decide) ?_
        refine e_aload_n (pc := 243) dX10_of_243 rfl rfl ?_
        refine e_get (pc := 244) fl_X10_42 dX10_of_244 (by repeat (first | assumption | exact hset_eq _ _ _ | (apply WAt.hd; assumption) | rw [hset_ne _ _ (by omega)])) (by rfl) ?_
        refine e_aload_n (pc := 247) dX10_of_247 rfl rfl ?_
        refine n_V (pc := 248) (c_X1_derivations a5.1.1 w1 wk (by omega)) bX1_derivations q_i_X1_derivations q_s_X1_derivations q_m_X10_183 dX10_of_248 rfl rfl (by repeat (first | assumption | exact hset_eq _ _ _ | (apply WAt.hd; assumption) | rw [hset_ne _ _ (by omega)])) rfl rfl (by exact Nat.le_of_ble_eq_true rfl) ⟨by decide, by decide⟩ ⟨rfl, rfl, Nat.zero_le _, Nat.zero_le _⟩ (fun z h3 hp => ?_)
        obtain ⟨⟨rfl, -⟩, p2, p3⟩ := hp
        refine n_iret (pc := 251) dX10_of_251 rfl ⟨qT o6 ?_, hX.fr a2 ha (p3.fr (by omega) (by omega)) (a5.1.er p2 p3) (w1.er p3 (by omega)) w2⟩
        rw [cl]
        unfold OfP; rw [if_neg (by decide), if_neg (by decide), if_neg (by decide), if_neg (by decide), if_neg (by decide), if_neg (by decide), if_neg (by decide), if_neg (by decide), if_neg (by decide), if_neg (by decide), if_neg (by decide), if_neg (by decide), if_neg (by decide), if_neg (by decide), if_neg (by decide), if_neg (by decide), if_pos rfl]
      | 17, _ =>
        refine e_switchIn (pc := 17) (off := 235) (tgt := 252) dX10_of_17 (by decide) (by decide) (by decide) (by decide) ?_
        refine e_aload_n (pc := 252) dX10_of_252 rfl rfl ?_
        refine e_get (pc := 253) fl_X10_42 dX10_of_253 (by repeat (first | assumption | exact hset_eq _ _ _ | (apply WAt.hd; assumption) | rw [hset_ne _ _ (by omega)])) (by rfl) ?_
        refine e_aload_n (pc := 256) dX10_of_256 rfl rfl ?_
        refine n_V (pc := 257) (c_X1_triples a5.1.1 w1 wk (by omega)) bX1_triples q_i_X1_triples q_s_X1_triples q_m_X10_186 dX10_of_257 rfl rfl (by repeat (first | assumption | exact hset_eq _ _ _ | (apply WAt.hd; assumption) | rw [hset_ne _ _ (by omega)])) rfl rfl (by exact Nat.le_of_ble_eq_true rfl) ⟨by decide, by decide⟩ ⟨rfl, rfl, Nat.zero_le _, Nat.zero_le _⟩ (fun z h3 hp => ?_)
        obtain ⟨⟨rfl, -⟩, p2, p3⟩ := hp
        refine n_iret (pc := 260) dX10_of_260 rfl ⟨qT o6 ?_, hX.fr a2 ha (p3.fr (by omega) (by omega)) (a5.1.er p2 p3) (w1.er p3 (by omega)) w2⟩
        rw [cl]
        unfold OfP; rw [if_neg (by decide), if_neg (by decide), if_neg (by decide), if_neg (by decide), if_neg (by decide), if_neg (by decide), if_neg (by decide), if_neg (by decide), if_neg (by decide), if_neg (by decide), if_neg (by decide), if_neg (by decide), if_neg (by decide), if_neg (by decide), if_neg (by decide), if_neg (by decide), if_neg (by decide), if_pos rfl]
      | n + 18, h => exact absurd h (by omega)
  · refine e_astore_nN (pc := 8) dX10_of_8 rfl (by decide) ?_
    refine e_aload_nN (pc := 9) dX10_of_9 rfl rfl ?_
    refine e_ifnonnullN (pc := 10) dX10_of_10 ?_
    refine e_bipush (pc := 13) (v := -2) dX10_of_13 (by decide) ?_
    exact n_iret (pc := 15) dX10_of_15 rfl ⟨qF hw rfl, hX, Er.rf _ _ _⟩
end XG
