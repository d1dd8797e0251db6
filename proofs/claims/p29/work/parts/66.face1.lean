/-! ===== the class's face: its object; simple questions ===== -/
/-- the object at o and all that it made -/
def XAt (h : AH) (o : Nat) (x y : Sx) (ik : Bool) (len : Nat) (f : Nat → Nat) (ft fp : Int32) : Prop :=
  h o = some (ob 9 [.ref (o + 1), .ref (o + 84), .int (bI ik), .ref (o + 167), .ref (o + 181), .ref (o + 181 + 79), .ref (o + 181 + 83), .ref (o + 181 + 89), .ref (o + 181 + 90), .ref (o + 181 + 104), .ref (o + 181 + 119)]) ∧
  (∃ σ, StA h (o + 1) σ x) ∧ (∃ σ, StA h (o + 84) σ y) ∧ RdS h (o + 167) len f ft fp ∧ PSh h (o + 181) ∧ ShS h (o + 181 + 90) ∧ (∃ S, LSh h (o + 181 + 104) (o + 181) S) ∧ ∃ W f, WAt h (o + 181 + 119) W f ∧ Wok W
section NUL
variable {M : MI} {Post : Option Value → AH → Nat → Prop} {al : Nat × Nat × Nat} {h : AH} {pc : Nat} {ls : List (Option Value)} {st : List Value}
theorem e_aloadN {i : Nat} (hd : decode (MI.cc M) pc = .ok (.aload i, 2)) (hv : ls[i]? = some (some .null)) (k : V M Post al h (pc + 2) ls (.null :: st)) : V M Post al h pc ls st := V.go (fun hx hb hl w => lv_aloadN hx hb hd (hl.at hv) w) k
theorem e_astoreN {i : Nat} (hd : decode (MI.cc M) pc = .ok (.astore i, 2)) (hn : i < MI.nL M) (k : V M Post al h (pc + 2) (ls.set i (some .null)) st) : V M Post al h pc ls (.null :: st) := V.store (fun hx hb hl w => by
  obtain ⟨l1, h1, h3, h2⟩ := hl
  exact lv_astoreN hx hb hd h1 hn rfl (fun lsB hB => w lsB (en_L.put h3 h2 rfl hB))) k
end NUL
theorem qT {b : Bool} {P Q : Prop} (hb : b = true) (h : P) : if b = true then P else Q := by rw [if_pos hb]; exact h
theorem qF {b : Bool} {P Q : Prop} (hb : b = false) (h : Q) : if b = true then P else Q := by rw [if_neg (by rw [hb]; decide)]; exact h
theorem okI_gt {x : Int32} {n : Nat} (hn : n < 2 ^ 30) (h : nI n < x) : okI x (n + 1) = false := okI_ge (by
  rw [Int32.le_iff_toInt_le, nI_toInt (by omega)]
  rw [Int32.lt_iff_toInt_lt, nI_toInt (by omega)] at h
  omega)
theorem okI_le {x : Int32} {n : Nat} (hn : n < 2 ^ 30) (h0 : ¬ x < 0) (h : x ≤ nI n) : okI x (n + 1) = true := okI_in h0 (fun z => by
  rw [Int32.le_iff_toInt_le, nI_toInt (by omega)] at z h
  omega)
section XF
variable {h : AH} {o : Nat} {x y : Sx} {ik : Bool} {len : Nat} {f : Nat → Nat} {ft fp : Int32}
theorem ShS.far {h2 : AH} {B : Nat} (q : ShS h B) (e : ∀ a, B ≤ a → a < B + 14 → h2 a = h a) : ShS h2 B := by
  obtain ⟨⟨p, n, r, c, fx, s1⟩, s2⟩ := q
  exact ⟨⟨p, n, r, c, fx, (e _ (by omega) (by omega)).trans s1⟩, s2.far (fun a x y => e a (by omega) y)⟩
/-- the state that is in force, the tools, the draft have changed -/
theorem XAt.up {h2 : AH} {x2 : Sx} (hX : XAt h o x y ik len f ft fp) (e : ∀ a, (a < o + 1 ∨ o + 84 ≤ a) → (a < o + 181 ∨ o + 181 + 89 ≤ a) → (a < o + 181 + 119 ∨ o + 181 + 122 ≤ a) → h2 a = h a) (hT : TSh h2 (o + 181)) (hx : ∃ τ, StA h2 (o + 1) τ x2) (hd : ∃ W f, WAt h2 (o + 181 + 119) W f ∧ Wok W) : XAt h2 o x2 y ik len f ft fp ∧ Er o (o + 303) h h2 := by
  obtain ⟨a1, a2, ⟨τ, a3⟩, a4, a5, a6, ⟨S, a7⟩, a8⟩ := hX
  exact ⟨⟨(e _ (by omega) (by omega) (by omega)).trans a1, hx, ⟨τ, a3.far (fun a x y => e a (by omega) (by omega) (by omega))⟩, a4.kp (fun a x y => e a (by omega) (by omega) (by omega)), ⟨hT, (e _ (by omega) (by omega) (by omega)).trans a5.2⟩, a6.far (fun a x y => e a (by omega) (by omega) (by omega)), ⟨S, a7.far (fun a x y => e a (by omega) (by omega) (by omega))⟩, hd⟩, fun a q => e a (by omega) (by omega) (by omega)⟩
theorem XAt.fr {h2 : AH} {σ : Nat → Nat} {k : Nat} {f2 : Int32} (hX : XAt h o x y ik len f ft fp) (hx : StA h (o + 1) σ x) (hk : k < 6) (e : Fr (o + 181) (wa (o + 1) σ k) h h2) (hT : TSh h2 (o + 181)) (hW : WAt h2 (wa (o + 1) σ k) (x.ws k) f2) (hf : fOk (x.ws k) f2) : XAt h2 o x y ik len f ft fp ∧ Er o (o + 303) h h2 := by
  have bd := hx.bd (show k < 26 by omega)
  obtain ⟨W, fd, d1, d2⟩ := hX.2.2.2.2.2.2.2
  exact hX.up (fun a x y z => e a y (by omega) (by omega) (by omega)) hT ⟨σ, hx.same (show k < 26 by omega) (fun a q1 q2 q3 q4 q5 => e a (by omega) q3 q4 q5) hW hf⟩ ⟨W, fd, d1.kp (fun a q1 q2 => e a (by omega) (by omega) (by omega) (by omega)), d2⟩
def wld (x : Sx) (w : Int32) : Wd := x.ws w.toNatClampNeg
theorem cl_nI {k : Nat} (h : k < 2 ^ 31) : (nI k).toNatClampNeg = k := nI_clamp (by omega)
theorem ok6 {k : Nat} (h : k < 6) : okI (nI k) 6 = true := by rw [okI_nI (by omega) (by omega), decide_eq_true h]
theorem okq {k q : Nat} (h : k < q) (hq : q < 2 ^ 31) : okI (nI k) q = true := by rw [okI_nI (by omega) hq, decide_eq_true h]


def Q_cube (x : Sx) (w i j k z : Int32) : Prop := if (okI w 6 && (okI i (wld x w).2.1 && okI j (wld x w).2.1 && okI k (wld x w).2.1)) = true then z = nI ((wld x w).2.2 (25 * i.toNatClampNeg + 5 * j.toNatClampNeg + k.toNatClampNeg)) else z = -1
theorem c_X10_cube (hX : XAt h o x y ik len f ft fp) (w i j k : Int32) : CI yX10_cube MX10_cube [.ref o, .int w, .int i, .int j, .int k] h (fun z h' => Q_cube x w i j k z ∧ XAt h' o x y ik len f ft fp ∧ Er o (o + 303) h h') := by
  obtain ⟨a1, ⟨σ, a2⟩, -, -, a5, a6, ⟨S0, a7⟩, -⟩ := id hX
  obtain ⟨s1, -⟩ := id a2.1
  have t5 := a5.1.2.1
  have f5 := a5.1.1.2.1
  have g5 := a5.2
  refine CI.ofV (by decide) rfl rfl (by simp [Value.category]) (by exact Nat.le_of_ble_eq_true rfl) (fun sz => ?_)
  refine e_aload_n (pc := 0) dX10_cube_0 rfl rfl ?_
  refine e_get (pc := 1) fl_X10_10 dX10_cube_1 (by repeat (first | assumption | exact hset_eq _ _ _ | (apply WAt.hd; assumption) | rw [hset_ne _ _ (by omega)])) (by rfl) ?_
  refine e_iload_n (pc := 4) dX10_cube_4 rfl rfl ?_
  refine n_Vr (pc := 5) (c_X6_world a2 w) bX6_world q_i_X6_world q_s_X6_world q_m_X10_101 dX10_cube_5 rfl rfl (by repeat (first | assumption | exact hset_eq _ _ _ | (apply WAt.hd; assumption) | rw [hset_ne _ _ (by omega)])) rfl rfl (by exact Nat.le_of_ble_eq_true rfl) ⟨by decide, by decide⟩ ⟨rfl, rfl, Nat.zero_le _, Nat.zero_le _⟩ (fun r h2 hp => ?_)
  obtain ⟨rfl, hr⟩ := hp
  rcases hr with ⟨a, ha, rfl, rfl⟩ | ⟨hw, rfl⟩
  · obtain ⟨wf, w1, w2⟩ := a2.w (show a < 26 by omega)
    have wk := a2.ok (show a < 26 by omega)
    have nb := wk.b
    have bd := a2.bd (show a < 26 by omega)
    have cl : wld x (nI a) = x.ws a := by unfold wld; rw [cl_nI (by omega)]
    refine e_astore (pc := 8) dX10_cube_8 (by decide) ?_
    refine e_aload (pc := 10) dX10_cube_10 rfl ?_
    refine e_ifnull (pc := 12) dX10_cube_12 ?_
    refine e_aload (pc := 15) dX10_cube_15 rfl ?_
    refine e_iload_n (pc := 17) dX10_cube_17 rfl rfl ?_
    refine e_iload_n (pc := 18) dX10_cube_18 rfl rfl ?_
    refine e_iload (pc := 19) dX10_cube_19 rfl ?_
    refine n_VP (pc := 21) (c_X9_hasCell w1 i j k) bX9_hasCell q_i_X9_hasCell q_s_X9_hasCell q_m_X10_128 dX10_cube_21 rfl rfl (by repeat (first | assumption | exact hset_eq _ _ _ | (apply WAt.hd; assumption) | rw [hset_ne _ _ (by omega)])) rfl rfl (by exact Nat.le_of_ble_eq_true rfl) ⟨by decide, by decide⟩ ⟨rfl, rfl, Nat.zero_le _, Nat.zero_le _⟩ ?_
    cases hc : (okI i (x.ws a).2.1 && okI j (x.ws a).2.1 && okI k (x.ws a).2.1) with
    | true =>
      have hc' := hc
      simp only [Bool.and_eq_true] at hc'
      obtain ⟨i', hi, rfl⟩ := okI_of (by omega) hc'.1.1
      obtain ⟨j', hj, rfl⟩ := okI_of (by omega) hc'.1.2
      obtain ⟨k', hk, rfl⟩ := okI_of (by omega) hc'.2
      refine e_if_ne (pc := 24) (tgt := 29) dX10_cube_24 (by decide) (fun _ => ?_) (fun q => absurd q (by decide))
      refine e_aload (pc := 29) dX10_cube_29 rfl ?_
      refine e_iload_n (pc := 31) dX10_cube_31 rfl rfl ?_
      refine e_iload_n (pc := 32) dX10_cube_32 rfl rfl ?_
      refine e_iload (pc := 33) dX10_cube_33 rfl ?_
      refine n_VP (pc := 35) (c_X9_cell w1 wk hi hj hk) bX9_cell q_i_X9_cell q_s_X9_cell q_m_X10_143 dX10_cube_35 rfl rfl (by repeat (first | assumption | exact hset_eq _ _ _ | (apply WAt.hd; assumption) | rw [hset_ne _ _ (by omega)])) rfl rfl (by exact Nat.le_of_ble_eq_true rfl) ⟨by decide, by decide⟩ ⟨rfl, rfl, Nat.zero_le _, Nat.zero_le _⟩ ?_
      refine n_iret (pc := 38) dX10_cube_38 rfl ⟨qT (by rw [cl, ok6 ha, hc]; rfl) ?_, hX, Er.rf _ _ _⟩
      rw [cl, cl_nI (by omega), cl_nI (by omega), cl_nI (by omega)]
    | false =>
      refine e_if_ne (pc := 24) (tgt := 29) dX10_cube_24 (by decide) (fun q => absurd rfl q) (fun _ => ?_)
      refine e_iconst (pc := 27) (v := -1) dX10_cube_27 (by decide) ?_
      exact n_iret (pc := 28) dX10_cube_28 rfl ⟨qF (by rw [cl, hc, Bool.and_false]) rfl, hX, Er.rf _ _ _⟩
  · refine e_astoreN (pc := 8) dX10_cube_8 (by decide) ?_
    refine e_aloadN (pc := 10) dX10_cube_10 rfl ?_
    refine e_ifnullN (pc := 12) (tgt := 27) dX10_cube_12 (by decide) ?_
    refine e_iconst (pc := 27) (v := -1) dX10_cube_27 (by decide) ?_
    exact n_iret (pc := 28) dX10_cube_28 rfl ⟨qF (by rw [hw, Bool.false_and]) rfl, hX, Er.rf _ _ _⟩
def Q_prod (x : Sx) (w u v z : Int32) : Prop := if (okI w 6 && (okI u ((wld x w).1 ^ (wld x w).2.1) && okI v ((wld x w).1 ^ (wld x w).2.1))) = true then z = nI (mul (wld x w) u.toNatClampNeg v.toNatClampNeg) else z = -1
theorem c_X10_product (hX : XAt h o x y ik len f ft fp) (w u v : Int32) : CI yX10_product MX10_product [.ref o, .int w, .int u, .int v] h (fun z h' => Q_prod x w u v z ∧ XAt h' o x y ik len f ft fp ∧ Er o (o + 303) h h') := by
  obtain ⟨a1, ⟨σ, a2⟩, -, -, a5, a6, ⟨S0, a7⟩, -⟩ := id hX
  obtain ⟨s1, -⟩ := id a2.1
  have t5 := a5.1.2.1
  have f5 := a5.1.1.2.1
  have g5 := a5.2
  refine CI.ofV (by decide) rfl rfl (by simp [Value.category]) (by exact Nat.le_of_ble_eq_true rfl) (fun sz => ?_)
  refine e_aload_n (pc := 0) dX10_product_0 rfl rfl ?_
  refine e_get (pc := 1) fl_X10_10 dX10_product_1 (by repeat (first | assumption | exact hset_eq _ _ _ | (apply WAt.hd; assumption) | rw [hset_ne _ _ (by omega)])) (by rfl) ?_
  refine e_iload_n (pc := 4) dX10_product_4 rfl rfl ?_
  refine n_Vr (pc := 5) (c_X6_world a2 w) bX6_world q_i_X6_world q_s_X6_world q_m_X10_101 dX10_product_5 rfl rfl (by repeat (first | assumption | exact hset_eq _ _ _ | (apply WAt.hd; assumption) | rw [hset_ne _ _ (by omega)])) rfl rfl (by exact Nat.le_of_ble_eq_true rfl) ⟨by decide, by decide⟩ ⟨rfl, rfl, Nat.zero_le _, Nat.zero_le _⟩ (fun r h2 hp => ?_)
  obtain ⟨rfl, hr⟩ := hp
  rcases hr with ⟨a, ha, rfl, rfl⟩ | ⟨hw, rfl⟩
  · obtain ⟨wf, w1, w2⟩ := a2.w (show a < 26 by omega)
    have wk := a2.ok (show a < 26 by omega)
    have nb := wk.b
    have bd := a2.bd (show a < 26 by omega)
    have cl : wld x (nI a) = x.ws a := by unfold wld; rw [cl_nI (by omega)]
    refine e_astore (pc := 8) dX10_product_8 (by decide) ?_
    refine e_aload (pc := 10) dX10_product_10 rfl ?_
    refine e_ifnull (pc := 12) dX10_product_12 ?_
    refine e_aload (pc := 15) dX10_product_15 rfl ?_
    refine e_iload_n (pc := 17) dX10_product_17 rfl rfl ?_
    refine n_VP (pc := 18) (c_X9_hasElement w1 u) bX9_hasElement q_i_X9_hasElement q_s_X9_hasElement q_m_X10_189 dX10_product_18 rfl rfl (by repeat (first | assumption | exact hset_eq _ _ _ | (apply WAt.hd; assumption) | rw [hset_ne _ _ (by omega)])) rfl rfl (by exact Nat.le_of_ble_eq_true rfl) ⟨by decide, by decide⟩ ⟨rfl, rfl, Nat.zero_le _, Nat.zero_le _⟩ ?_
    cases hu : okI u ((x.ws a).1 ^ (x.ws a).2.1) with
    | false =>
      refine e_if_eq (pc := 21) (tgt := 33) dX10_product_21 (by decide) (fun _ => ?_) (fun q => absurd rfl q)
      refine e_iconst (pc := 33) (v := -1) dX10_product_33 (by decide) ?_
      exact n_iret (pc := 34) dX10_product_34 rfl ⟨qF (by rw [cl, hu, Bool.false_and, Bool.and_false]) rfl, hX, Er.rf _ _ _⟩
    | true =>
      refine e_if_eq (pc := 21) (tgt := 33) dX10_product_21 (by decide) (fun q => absurd q (by decide)) (fun _ => ?_)
      refine e_aload (pc := 24) dX10_product_24 rfl ?_
      refine e_iload_n (pc := 26) dX10_product_26 rfl rfl ?_
      refine n_VP (pc := 27) (c_X9_hasElement w1 v) bX9_hasElement q_i_X9_hasElement q_s_X9_hasElement q_m_X10_189 dX10_product_27 rfl rfl (by repeat (first | assumption | exact hset_eq _ _ _ | (apply WAt.hd; assumption) | rw [hset_ne _ _ (by omega)])) rfl rfl (by exact Nat.le_of_ble_eq_true rfl) ⟨by decide, by decide⟩ ⟨rfl, rfl, Nat.zero_le _, Nat.zero_le _⟩ ?_
      cases hv : okI v ((x.ws a).1 ^ (x.ws a).2.1) with
      | false =>
        refine e_if_ne (pc := 30) (tgt := 35) dX10_product_30 (by decide) (fun q => absurd rfl q) (fun _ => ?_)
        refine e_iconst (pc := 33) (v := -1) dX10_product_33 (by decide) ?_
        exact n_iret (pc := 34) dX10_product_34 rfl ⟨qF (by rw [cl, hv, Bool.and_false, Bool.and_false]) rfl, hX, Er.rf _ _ _⟩
      | true =>
        refine e_if_ne (pc := 30) (tgt := 35) dX10_product_30 (by decide) (fun _ => ?_) (fun q => absurd q (by decide))
        obtain ⟨u', u1, rfl⟩ := okI_of (by omega) hu
        obtain ⟨v', v1, rfl⟩ := okI_of (by omega) hv
        have cu : (nI u').toNatClampNeg = u' := cl_nI (by omega)
        have cv : (nI v').toNatClampNeg = v' := cl_nI (by omega)
        have e2 : (okI (nI a) 6 && (okI (nI u') ((wld x (nI a)).1 ^ (wld x (nI a)).2.1) && okI (nI v') ((wld x (nI a)).1 ^ (wld x (nI a)).2.1))) = true := by rw [cl, ok6 ha, hu, hv]; rfl
        refine e_aload (pc := 35) dX10_product_35 rfl ?_
        refine e_iload_n (pc := 37) dX10_product_37 rfl rfl ?_
        refine e_iload_n (pc := 38) dX10_product_38 rfl rfl ?_
        refine n_V (pc := 39) (c_X9_times2 w1 wk (show u' < 3125 by omega) (show v' < 3125 by omega)) bX9_times q_i_X9_times q_s_X9_times q_m_X10_192 dX10_product_39 rfl rfl (by repeat (first | assumption | exact hset_eq _ _ _ | (apply WAt.hd; assumption) | rw [hset_ne _ _ (by omega)])) rfl rfl (by exact Nat.le_of_ble_eq_true rfl) ⟨by decide, by decide⟩ ⟨rfl, rfl, Nat.zero_le _, Nat.zero_le _⟩ (fun z h3 hp => ?_)
        obtain ⟨rfl, p1, p2⟩ := hp
        refine n_iret (pc := 42) dX10_product_42 rfl ⟨qT e2 ?_, hX.fr a2 ha p2.fr (a5.1.es p2 (by omega)) p1 w2⟩
        rw [cl, cu, cv]
  · refine e_astoreN (pc := 8) dX10_product_8 (by decide) ?_
    refine e_aloadN (pc := 10) dX10_product_10 rfl ?_
    refine e_ifnullN (pc := 12) (tgt := 33) dX10_product_12 (by decide) ?_
    refine e_iconst (pc := 33) (v := -1) dX10_product_33 (by decide) ?_
    exact n_iret (pc := 34) dX10_product_34 rfl ⟨qF (by rw [hw, Bool.false_and]) rfl, hX, Er.rf _ _ _⟩
def Q_quot (x : Sx) (w u v : Int32) (l : Bool) (z : Int32) : Prop := if (okI w 6 && (okI u ((wld x w).1 ^ (wld x w).2.1) && okI v ((wld x w).1 ^ (wld x w).2.1))) = true then Quo (wld x w) u.toNatClampNeg v.toNatClampNeg l z else z = -1
def Q_span (x : Sx) (w u v z : Int32) : Prop := if (okI w 6 && (okI u ((wld x w).1 ^ (wld x w).2.1) && okI v ((wld x w).1 ^ (wld x w).2.1))) = true then Span (wld x w) u.toNatClampNeg v.toNatClampNeg z else z = -1
def Q_pow (x : Sx) (w u z : Int32) : Prop := if (okI w 6 && okI u ((wld x w).1 ^ (wld x w).2.1)) = true then (∃ m, z = nI m ∧ m ≤ 243 ∧ Pws (wld x w) u.toNatClampNeg m) else z = -1
def Q_ranks (x : Sx) (w s r z : Int32) : Prop := if (okI w 6 && (okI s 3 && okI r ((wld x w).2.1 + 1))) = true then z = nI (cntR (wld x w) s.toNatClampNeg r.toNatClampNeg) else z = -1
end XF
