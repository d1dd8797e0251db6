/-! ===== Reader: statements, all but twists ===== -/
section R3
variable {h : AH} {R len : Nat} {f : Nat → Nat} {ft fp sm hf : Int32} {W F : Wd}
def RWk (h : AH) (R : Nat) (W F : Wd) : Prop := WAt h (R + 2) W (-2) ∧ Wok W ∧ (∃ f, WAt h (R + 5) F f) ∧ Wok F ∧ (∃ S f, WAt h (R + 8) S f ∧ Wok S) ∧ (∃ g, h (R + 11) = some (aI 5 g)) ∧ (∃ g, h (R + 12) = some (aI 5 g)) ∧ ∃ g, h (R + 13) = some (aI 5 g)
theorem WAt.kp {h2 : AH} {o : Nat} {f : Int32} (q : WAt h o W f) (e : ∀ a, o ≤ a → a < o + 3 → h2 a = h a) : WAt h2 o W f := by
  refine q.kept (e _ (by omega) (by omega)) (e _ (by omega) (by omega)) ?_
  rw [e _ (by omega) (by omega)]
  exact q.2.2
theorem RWk.kp {h2 : AH} (q : RWk h R W F) (e : ∀ a, R + 2 ≤ a → a < R + 14 → h2 a = h a) : RWk h2 R W F := by
  obtain ⟨a1, a2, ⟨f3, a3⟩, a4, ⟨S, f5, a5, a6⟩, ⟨g7, a7⟩, ⟨g8, a8⟩, ⟨g9, a9⟩⟩ := q
  exact ⟨a1.kp (fun a x y => e a (by omega) (by omega)), a2, ⟨f3, a3.kp (fun a x y => e a (by omega) (by omega))⟩, a4, ⟨S, f5, a5.kp (fun a x y => e a (by omega) (by omega)), a6⟩, ⟨g7, (e _ (by omega) (by omega)).trans a7⟩, ⟨g8, (e _ (by omega) (by omega)).trans a8⟩, ⟨g9, (e _ (by omega) (by omega)).trans a9⟩⟩
theorem RWk.er {h2 : AH} (q : RWk h R W F) (e : Er R (R + 1) h h2) : RWk h2 R W F := q.kp (fun a x y => e a (by omega))
/-- the told world alone is another -/
theorem RWk.w {h2 : AH} {W2 : Wd} (q : RWk h R W F) (e : Ew (R + 2) h h2) (hW : WAt h2 (R + 2) W2 (-2)) (hk : Wok W2) : RWk h2 R W2 F := by
  obtain ⟨a1, a2, ⟨f3, a3⟩, a4, ⟨S, f5, a5, a6⟩, ⟨g7, a7⟩, ⟨g8, a8⟩, ⟨g9, a9⟩⟩ := q
  exact ⟨hW, hk, ⟨f3, a3.kp (fun a x y => e a (by omega) (by omega) (by omega))⟩, a4, ⟨S, f5, a5.kp (fun a x y => e a (by omega) (by omega) (by omega)), a6⟩, ⟨g7, (e _ (by omega) (by omega) (by omega)).trans a7⟩, ⟨g8, (e _ (by omega) (by omega) (by omega)).trans a8⟩, ⟨g9, (e _ (by omega) (by omega) (by omega)).trans a9⟩⟩
theorem Ew.rr {h2 : AH} (e : Ew (R + 2) h h2) : Er R (R + 14) h h2 := fun a x => e a (by omega) (by omega) (by omega)
theorem Er.rr {h2 : AH} (e : Er R (R + 1) h h2) : Er R (R + 14) h h2 := e.mono (by omega) (by omega)
theorem Tk.ew {h2 : AH} {i : Nat} (q : Tk h R len f i ft fp sm hf) (e : Ew (R + 2) h h2) : Tk h2 R len f i ft fp sm hf := q.keep (e _ (by omega) (by omega) (by omega)) (e _ (by omega) (by omega) (by omega))
/-- what the part of a statement behind its keyword does -/
def Part (hh : AH) (R len : Nat) (f : Nat → Nat) (i k : Nat) (W F : Wd) (ft fp sm hf : Int32) (z : Int32) (h' : AH) : Prop :=
  ((sF f len i W k = none ∧ z = 1 ∧ Tk h' R len f (nt f len i (scn W k + 1)) ft fp sm (if k = 5 then 1 else hf) ∧ RWk h' R (sW W F k (vl f len i)) (if k = 5 then polyW W.1 W.2.1 (vl f len i) else F)) ∨ (∃ x, sF f len i W k = some x ∧ z = 0 ∧ Flt h' R len f x ∧ ∃ W' F', RWk h' R W' F')) ∧ Er R (R + 14) hh h'
theorem nF_some {b : Nat → Nat} {i m : Nat} {x : Nat × Nat} (h : nF f len i b m = some x) : ∀ d, nF f len i b (m + d) = some x
  | 0 => h
  | d + 1 => by
    show (if nF f len i b (m + d) = none then _ else nF f len i b (m + d)) = some x
    rw [nF_some h d]
    rfl
theorem nF_s {b : Nat → Nat} {i m : Nat} (h : nF f len i b m = none) : nF f len i b (m + 1) = tokF f len (nt f len i (m + 1)) (b m) := if_pos h
theorem tokF_none {j bd : Nat} (h : tokF f len j bd = none) : tC f len j = 2 ∧ tV f len j < bd := by
  unfold tokF at h
  split at h
  · split at h
    · exact ⟨by assumption, by assumption⟩
    · cases h
  · cases h
theorem Tk.val {i : Nat} (q : Tk h R len f i ft fp sm hf) (hc : tC f len i = 2) : RdH h R (nI len) (nI (tE f len i)) (nI (tC f len i)) (nI (tS f len i)) (nI (tV f len i)) ft fp sm hf := by
  obtain ⟨a, b, v, c, d⟩ := q
  rw [← d hc]
  exact c
theorem c_X4_stepT {i : Nat} (hT : Tk h R len f i ft fp sm hf) : CV yX4_step MX4_step [.ref R] h (fun h' => Tk h' R len f (nt f len i 1) ft fp sm hf ∧ Er R (R + 1) h h') := by
  obtain ⟨a, b, v, c, d⟩ := hT
  have tb := tE_b (f := f) a
  exact (c_X4_step b tb.2.2.1 c).mono (fun h' ⟨p1, p2⟩ => ⟨⟨tb.2.2.1, b.keep (p2 _ (by omega)), p1⟩, p2⟩)
theorem c_X4_order {i : Nat} (hT : Tk h R len f i ft fp sm hf) (hW : RWk h R W F) : CI yX4_order MX4_order [.ref R] h (Part h R len f i 4 W F ft fp sm hf) := by
  obtain ⟨_, _, v, c, _⟩ := id hT
  refine CI.ofV (by decide) rfl rfl (by simp [Value.category]) (by exact Nat.le_of_ble_eq_true rfl) (fun sz => ?_)
  refine e_aload_n (pc := 0) dX4_order_0 rfl rfl ?_
  refine n_bipush (pc := 1) 6 dX4_order_1 (by decide) ?_
  refine n_V (pc := 3) (c_X4_numberBelow hT (show 6 < 2 ^ 31 by omega)) bX4_numberBelow q_i_X4_numberBelow q_s_X4_numberBelow q_m_X4_110 dX4_order_3 rfl rfl (by repeat (first | assumption | exact hset_eq _ _ _ | (apply WAt.hd; assumption) | rw [hset_ne _ _ (by omega)])) rfl rfl (by exact Nat.le_of_ble_eq_true rfl) ⟨by decide, by decide⟩ ⟨rfl, rfl, Nat.zero_le _, Nat.zero_le _⟩ (fun z h2 hp => ?_)
  obtain ⟨hp, p2⟩ := hp
  rcases hp with ⟨q1, rfl, T2⟩ | ⟨x, q1, rfl, F2⟩
  · refine e_if_ne (pc := 6) (tgt := 11) dX4_order_6 (by decide) (fun _ => ?_) (fun q => absurd q (by decide))
    obtain ⟨n1, n2⟩ := tokF_none q1
    have n2 : vl f len i 0 < 6 := n2
    have c2 := T2.val n1
    have c2 : RdH h2 R (nI len) (nI (tE f len (nt f len i 1))) (nI (tC f len (nt f len i 1))) (nI (tS f len (nt f len i 1))) (nI (vl f len i 0)) ft fp sm hf := c2
    refine e_aload_n (pc := 11) dX4_order_11 rfl rfl ?_
    refine e_get (pc := 12) fl_X4_28 dX4_order_12 (by repeat (first | assumption | exact hset_eq _ _ _ | (apply WAt.hd; assumption) | rw [hset_ne _ _ (by omega)])) (by rfl) ?_
    refine e_istore_n (pc := 15) dX4_order_15 rfl (by decide) ?_
    refine e_iload_n (pc := 16) dX4_order_16 rfl rfl ?_
    refine n_SP (pc := 17) (c_X8_isPrime (show vl f len i 0 < 2 ^ 31 by omega)) bX8_isPrime q_st_X8_isPrime q_m_X4_113 dX4_order_17 rfl rfl (by exact Nat.le_of_ble_eq_true rfl) ⟨by decide, by decide⟩ ⟨rfl, rfl, Nat.zero_le _, Nat.zero_le _⟩ ?_
    by_cases pr : vl f len i 0 = 2 ∨ vl f len i 0 = 3 ∨ vl f len i 0 = 5
    · rw [if_pos pr]
      refine n_if_ne (pc := 20) (tgt := 29) dX4_order_20 (by decide) (by omega) (fun _ => ?_) (fun q => absurd q (by omega))
      refine e_aload_n (pc := 29) dX4_order_29 rfl rfl ?_
      refine n_bipush (pc := 30) 6 dX4_order_30 (by decide) ?_
      refine n_V (pc := 32) (c_X4_numberBelow T2 (show 6 < 2 ^ 31 by omega)) bX4_numberBelow q_i_X4_numberBelow q_s_X4_numberBelow q_m_X4_110 dX4_order_32 rfl rfl (by repeat (first | assumption | exact hset_eq _ _ _ | (apply WAt.hd; assumption) | rw [hset_ne _ _ (by omega)])) rfl rfl (by exact Nat.le_of_ble_eq_true rfl) ⟨by decide, by decide⟩ ⟨rfl, rfl, Nat.zero_le _, Nat.zero_le _⟩ (fun z h3 hp => ?_)
      obtain ⟨hp, p3⟩ := hp
      rcases hp with ⟨q3, rfl, T3⟩ | ⟨x, q3, rfl, F3⟩
      · refine e_if_ne (pc := 35) (tgt := 40) dX4_order_35 (by decide) (fun _ => ?_) (fun q => absurd q (by decide))
        obtain ⟨n3, n4⟩ := tokF_none q3
        have n4 : vl f len i 1 < 6 := n4
        have n3 : tC f len (nt f len i 2) = 2 := n3
        have T3 : Tk h3 R len f (nt f len i 2) ft fp sm hf := T3
        have c3 : RdH h3 R (nI len) (nI (tE f len (nt f len i 2))) (nI (tC f len (nt f len i 2))) (nI (tS f len (nt f len i 2))) (nI (vl f len i 1)) ft fp sm hf := T3.val n3
        refine e_iload_n (pc := 40) dX4_order_40 rfl rfl ?_
        refine e_aload_n (pc := 41) dX4_order_41 rfl rfl ?_
        refine e_get (pc := 42) fl_X4_28 dX4_order_42 (by repeat (first | assumption | exact hset_eq _ _ _ | (apply WAt.hd; assumption) | rw [hset_ne _ _ (by omega)])) (by rfl) ?_
        refine n_S (pc := 45) (c_X9_canBe (show vl f len i 0 < 2 ^ 31 by omega) (show vl f len i 1 < 2 ^ 31 by omega)) bX9_canBe q_st_X9_canBe q_m_X4_118 dX4_order_45 rfl rfl (by exact Nat.le_of_ble_eq_true rfl) ⟨by decide, by decide⟩ ⟨rfl, rfl, Nat.zero_le _, Nat.zero_le _⟩ (fun z h4 hp => ?_)
        obtain ⟨hz, rfl⟩ := hp
        rcases hz with ⟨cb, rfl⟩ | ⟨cb, rfl⟩
        · refine e_if_ne (pc := 48) (tgt := 57) dX4_order_48 (by decide) (fun _ => ?_) (fun q => absurd q (by decide))
          have W3 := (hW.er p2).er p3
          obtain ⟨w1, w2, -⟩ := id W3
          refine e_aload_n (pc := 57) dX4_order_57 rfl rfl ?_
          refine e_get (pc := 58) fl_X4_47 dX4_order_58 (by repeat (first | assumption | exact hset_eq _ _ _ | (apply WAt.hd; assumption) | rw [hset_ne _ _ (by omega)])) (by rfl) ?_
          refine e_iload_n (pc := 61) dX4_order_61 rfl rfl ?_
          refine e_aload_n (pc := 62) dX4_order_62 rfl rfl ?_
          refine e_get (pc := 63) fl_X4_28 dX4_order_63 (by repeat (first | assumption | exact hset_eq _ _ _ | (apply WAt.hd; assumption) | rw [hset_ne _ _ (by omega)])) (by rfl) ?_
          refine n_Vv (pc := 66) (c_X9_clear w1 w2 cb) bX9_clear q_i_X9_clear q_s_X9_clear q_m_X4_66 dX4_order_66 rfl rfl (by repeat (first | assumption | exact hset_eq _ _ _ | (apply WAt.hd; assumption) | rw [hset_ne _ _ (by omega)])) rfl rfl (by exact Nat.le_of_ble_eq_true rfl) ⟨by decide, by decide⟩ ⟨rfl, rfl, Nat.zero_le _, Nat.zero_le _⟩ (fun h5 hp => ?_)
          obtain ⟨r1, r2⟩ := hp
          have T5 := T3.ew r2
          obtain ⟨_, _, v5, c5, _⟩ := id T5
          refine e_aload_n (pc := 69) dX4_order_69 rfl rfl ?_
          refine n_Vv (pc := 70) (c_X4_stepT T5) bX4_step q_i_X4_step q_s_X4_step q_m_X4_70 dX4_order_70 rfl rfl (by repeat (first | assumption | exact hset_eq _ _ _ | (apply WAt.hd; assumption) | rw [hset_ne _ _ (by omega)])) rfl rfl (by exact Nat.le_of_ble_eq_true rfl) ⟨by decide, by decide⟩ ⟨rfl, rfl, Nat.zero_le _, Nat.zero_le _⟩ (fun h6 hp => ?_)
          obtain ⟨s1, s2⟩ := hp
          refine n_iconst (pc := 73) 1 dX4_order_73 (by decide) ?_
          refine n_zret (pc := 74) dX4_order_74 rfl rfl ⟨Or.inl ⟨?_, rfl, s1, ?_⟩, ((p2.rr.tr p3.rr).tr r2.rr).tr s2.rr⟩
          · show ordF f len i = none
            unfold ordF
            rw [if_pos n1, if_pos pr, if_pos n3, if_pos (bl_t cb)]
          · exact (W3.w r2 r1 ⟨cb.1, cb.2.1, cb.2.2.1, cb.2.2.2, fun k => ⟨by show 0 < vl f len i 0; omega, fun _ => rfl⟩⟩).er s2
        · refine e_if_ne (pc := 48) (tgt := 57) dX4_order_48 (by decide) (fun q => absurd rfl q) (fun _ => ?_)
          refine e_aload_n (pc := 51) dX4_order_51 rfl rfl ?_
          refine n_iconst (pc := 52) 2 dX4_order_52 (by decide) ?_
          refine n_V (pc := 53) (c_X4_fail (k := 2) T3) bX4_fail q_i_X4_fail q_s_X4_fail q_m_X4_89 dX4_order_53 rfl rfl (by repeat (first | assumption | exact hset_eq _ _ _ | (apply WAt.hd; assumption) | rw [hset_ne _ _ (by omega)])) rfl rfl (by exact Nat.le_of_ble_eq_true rfl) ⟨by decide, by decide⟩ ⟨rfl, rfl, Nat.zero_le _, Nat.zero_le _⟩ (fun z h5 hp => ?_)
          obtain ⟨rfl, r1, r2⟩ := hp
          refine n_zret (pc := 56) dX4_order_56 rfl rfl ⟨Or.inr ⟨_, ?_, rfl, r1, W, F, ((hW.er p2).er p3).er r2⟩, (p2.rr.tr p3.rr).tr r2.rr⟩
          show ordF f len i = _
          unfold ordF
          rw [if_pos n1, if_pos pr, if_pos n3, if_neg (by rw [bl_f cb]; decide)]
      · refine e_if_ne (pc := 35) (tgt := 40) dX4_order_35 (by decide) (fun q => absurd rfl q) (fun _ => ?_)
        refine n_iconst (pc := 38) 0 dX4_order_38 (by decide) ?_
        refine n_zret (pc := 39) dX4_order_39 rfl rfl ⟨Or.inr ⟨x, ?_, rfl, F3, W, F, (hW.er p2).er p3⟩, p2.rr.tr p3.rr⟩
        show ordF f len i = _
        unfold ordF
        rw [if_pos n1, if_pos pr]
        have q3 : tokF f len (nt f len i 2) 6 = some x := q3
        unfold tokF at q3
        by_cases n3 : tC f len (nt f len i 2) = 2
        · rw [if_pos n3] at q3 ⊢
          by_cases n4 : tV f len (nt f len i 2) < 6
          · rw [if_pos n4] at q3; cases q3
          · rw [if_neg n4] at q3
            rw [if_neg (by
              rw [bl_f (fun z => n4 (by have := z.2.2.1; have e : vl f len i 1 = tV f len (nt f len i 2) := rfl; omega))]
              decide)]
            exact q3
        · rw [if_neg n3] at q3 ⊢
          exact q3
    · rw [if_neg pr]
      refine n_if_ne (pc := 20) (tgt := 29) dX4_order_20 (by decide) (by omega) (fun q => absurd rfl q) (fun _ => ?_)
      refine e_aload_n (pc := 23) dX4_order_23 rfl rfl ?_
      refine n_iconst (pc := 24) 2 dX4_order_24 (by decide) ?_
      refine n_V (pc := 25) (c_X4_fail (k := 2) T2) bX4_fail q_i_X4_fail q_s_X4_fail q_m_X4_89 dX4_order_25 rfl rfl (by repeat (first | assumption | exact hset_eq _ _ _ | (apply WAt.hd; assumption) | rw [hset_ne _ _ (by omega)])) rfl rfl (by exact Nat.le_of_ble_eq_true rfl) ⟨by decide, by decide⟩ ⟨rfl, rfl, Nat.zero_le _, Nat.zero_le _⟩ (fun z h3 hp => ?_)
      obtain ⟨rfl, r1, r2⟩ := hp
      refine n_zret (pc := 28) dX4_order_28 rfl rfl ⟨Or.inr ⟨_, ?_, rfl, r1, W, F, (hW.er p2).er r2⟩, p2.rr.tr r2.rr⟩
      show ordF f len i = _
      unfold ordF
      rw [if_pos n1, if_neg pr]
  · refine e_if_ne (pc := 6) (tgt := 11) dX4_order_6 (by decide) (fun q => absurd rfl q) (fun _ => ?_)
    refine n_iconst (pc := 9) 0 dX4_order_9 (by decide) ?_
    refine n_zret (pc := 10) dX4_order_10 rfl rfl ⟨Or.inr ⟨x, ?_, rfl, F2, W, F, hW.er p2⟩, p2.rr⟩
    show ordF f len i = _
    unfold ordF
    unfold tokF at q1
    by_cases n1 : tC f len (nt f len i 1) = 2
    · rw [if_pos n1] at q1 ⊢
      by_cases n2 : tV f len (nt f len i 1) < 6
      · rw [if_pos n2] at q1; cases q1
      · rw [if_neg n2] at q1
        rw [if_neg (by have e : vl f len i 0 = tV f len (nt f len i 1) := rfl; omega)]
        exact q1
    · rw [if_neg n1] at q1 ⊢
      exact q1
theorem c_X4_turning {i : Nat} (hT : Tk h R len f i ft fp sm hf) (hW : RWk h R W F) : CI yX4_turning MX4_turning [.ref R] h (Part h R len f i 8 W F ft fp sm hf) := by
  obtain ⟨_, _, v, c, _⟩ := id hT
  refine CI.ofV (by decide) rfl rfl (by simp [Value.category]) (by exact Nat.le_of_ble_eq_true rfl) (fun sz => ?_)
  refine e_aload_n (pc := 0) dX4_turning_0 rfl rfl ?_
  refine n_bipush (pc := 1) 6 dX4_turning_1 (by decide) ?_
  refine n_V (pc := 3) (c_X4_numberBelow hT (show 6 < 2 ^ 31 by omega)) bX4_numberBelow q_i_X4_numberBelow q_s_X4_numberBelow q_m_X4_110 dX4_turning_3 rfl rfl (by repeat (first | assumption | exact hset_eq _ _ _ | (apply WAt.hd; assumption) | rw [hset_ne _ _ (by omega)])) rfl rfl (by exact Nat.le_of_ble_eq_true rfl) ⟨by decide, by decide⟩ ⟨rfl, rfl, Nat.zero_le _, Nat.zero_le _⟩ (fun z h2 hp => ?_)
  obtain ⟨hp, p2⟩ := hp
  rcases hp with ⟨q1, rfl, T2⟩ | ⟨x, q1, rfl, F2⟩
  · refine e_if_ne (pc := 6) (tgt := 11) dX4_turning_6 (by decide) (fun _ => ?_) (fun q => absurd q (by decide))
    obtain ⟨n1, n2⟩ := tokF_none q1
    have n2 : vl f len i 0 < 6 := n2
    have c2 : RdH h2 R (nI len) (nI (tE f len (nt f len i 1))) (nI (tC f len (nt f len i 1))) (nI (tS f len (nt f len i 1))) (nI (vl f len i 0)) ft fp sm hf := T2.val n1
    have W2 := hW.er p2
    obtain ⟨w1, w2, ⟨f3, w3⟩, w4, ⟨S, f5, w5, w6⟩, ⟨g7, w7⟩, ⟨g8, w8⟩, ⟨g9, w9⟩⟩ := id W2
    refine e_aload_n (pc := 11) dX4_turning_11 rfl rfl ?_
    refine e_get (pc := 12) fl_X4_54 dX4_turning_12 (by repeat (first | assumption | exact hset_eq _ _ _ | (apply WAt.hd; assumption) | rw [hset_ne _ _ (by omega)])) (by rfl) ?_
    refine e_aload_n (pc := 15) dX4_turning_15 rfl rfl ?_
    refine e_get (pc := 16) fl_X4_47 dX4_turning_16 (by repeat (first | assumption | exact hset_eq _ _ _ | (apply WAt.hd; assumption) | rw [hset_ne _ _ (by omega)])) (by rfl) ?_
    refine n_Vv (pc := 19) (c_X9_copy w5 w1 w6 w2 (by omega)) bX9_copy q_i_X9_copy q_s_X9_copy q_m_X4_132 dX4_turning_19 rfl rfl (by repeat (first | assumption | exact hset_eq _ _ _ | (apply WAt.hd; assumption) | rw [hset_ne _ _ (by omega)])) rfl rfl (by exact Nat.le_of_ble_eq_true rfl) ⟨by decide, by decide⟩ ⟨rfl, rfl, Nat.zero_le _, Nat.zero_le _⟩ (fun h3 hp => ?_)
    obtain ⟨r1, r2⟩ := hp
    have far : ∀ a, (a < R + 8 ∨ R + 11 ≤ a) → h3 a = h2 a := fun a x => r2 a (by omega) (by omega) (by omega)
    have c3 : RdH h3 R (nI len) (nI (tE f len (nt f len i 1))) (nI (tC f len (nt f len i 1))) (nI (tS f len (nt f len i 1))) (nI (vl f len i 0)) ft fp sm hf := (far _ (by omega)).trans c2
    have w1' : WAt h3 (R + 2) W (-2) := w1.kp (fun a x y => far a (by omega))
    refine e_aload_n (pc := 22) dX4_turning_22 rfl rfl ?_
    refine e_get (pc := 23) fl_X4_47 dX4_turning_23 (by repeat (first | assumption | exact hset_eq _ _ _ | (apply WAt.hd; assumption) | rw [hset_ne _ _ (by omega)])) (by rfl) ?_
    refine e_aload_n (pc := 26) dX4_turning_26 rfl rfl ?_
    refine e_get (pc := 27) fl_X4_54 dX4_turning_27 (by repeat (first | assumption | exact hset_eq _ _ _ | (apply WAt.hd; assumption) | rw [hset_ne _ _ (by omega)])) (by rfl) ?_
    refine e_aload_n (pc := 30) dX4_turning_30 rfl rfl ?_
    refine e_get (pc := 31) fl_X4_28 dX4_turning_31 (by repeat (first | assumption | exact hset_eq _ _ _ | (apply WAt.hd; assumption) | rw [hset_ne _ _ (by omega)])) (by rfl) ?_
    refine n_Vv (pc := 34) (c_X9_turnFrom w1' w2 r1 w2 n2 (by omega)) bX9_turnFrom q_i_X9_turnFrom q_s_X9_turnFrom q_m_X4_175 dX4_turning_34 rfl rfl (by repeat (first | assumption | exact hset_eq _ _ _ | (apply WAt.hd; assumption) | rw [hset_ne _ _ (by omega)])) rfl rfl (by exact Nat.le_of_ble_eq_true rfl) ⟨by decide, by decide⟩ ⟨rfl, rfl, Nat.zero_le _, Nat.zero_le _⟩ (fun h4 hp => ?_)
    obtain ⟨s1, s2⟩ := hp
    have T4 : Tk h4 R len f (nt f len i 1) ft fp sm hf := (T2.keep (far _ (by omega)) (far _ (by omega))).ew s2
    have far4 : ∀ a, (a < R + 2 ∨ R + 5 ≤ a) → h4 a = h3 a := fun a x => s2 a (by omega) (by omega) (by omega)
    have W4 : RWk h4 R (wturn W (vl f len i 0)) F := ⟨s1, wturn_ok w2 _, ⟨f3, w3.kp (fun a x y => (far4 a (by omega)).trans (far a (by omega)))⟩, w4, ⟨W, -2, r1.kp (fun a x y => far4 a (by omega)), w2⟩, ⟨g7, ((far4 _ (by omega)).trans (far _ (by omega))).trans w7⟩, ⟨g8, ((far4 _ (by omega)).trans (far _ (by omega))).trans w8⟩, ⟨g9, ((far4 _ (by omega)).trans (far _ (by omega))).trans w9⟩⟩
    obtain ⟨_, _, v5, c5, _⟩ := id T4
    refine e_aload_n (pc := 37) dX4_turning_37 rfl rfl ?_
    refine n_Vv (pc := 38) (c_X4_stepT T4) bX4_step q_i_X4_step q_s_X4_step q_m_X4_70 dX4_turning_38 rfl rfl (by repeat (first | assumption | exact hset_eq _ _ _ | (apply WAt.hd; assumption) | rw [hset_ne _ _ (by omega)])) rfl rfl (by exact Nat.le_of_ble_eq_true rfl) ⟨by decide, by decide⟩ ⟨rfl, rfl, Nat.zero_le _, Nat.zero_le _⟩ (fun h6 hp => ?_)
    obtain ⟨t1, t2⟩ := hp
    refine n_iconst (pc := 41) 1 dX4_turning_41 (by decide) ?_
    refine n_zret (pc := 42) dX4_turning_42 rfl rfl ⟨Or.inl ⟨?_, rfl, t1, W4.er t2⟩, ((p2.rr.tr (fun a x => far a (by omega))).tr s2.rr).tr t2.rr⟩
    show nF f len i (sbd W 8) 1 = none
    rw [nF_s rfl]
    exact q1
  · refine e_if_ne (pc := 6) (tgt := 11) dX4_turning_6 (by decide) (fun q => absurd rfl q) (fun _ => ?_)
    refine n_iconst (pc := 9) 0 dX4_turning_9 (by decide) ?_
    refine n_zret (pc := 10) dX4_turning_10 rfl rfl ⟨Or.inr ⟨x, ?_, rfl, F2, W, F, hW.er p2⟩, p2.rr⟩
    show nF f len i (sbd W 8) 1 = some x
    rw [nF_s rfl]
    exact q1
theorem atW_0 (W : Wd) (a b : Nat) (v : Nat → Nat) : atW W a b 0 v = W := by
  unfold atW
  refine congrArg (fun z => (W.1, W.2.1, z)) (funext fun t => ?_)
  exact if_neg (by omega)
theorem atW_s (W : Wd) (a b k : Nat) (v : Nat → Nat) : wput (atW W a b k v) a b k (v k) = atW W a b (k + 1) v := by
  unfold atW wput
  refine congrArg (fun z => (W.1, W.2.1, z)) (funext fun t => ?_)
  show (if t = 25 * a + 5 * b + k then v k else if 25 * a + 5 * b ≤ t ∧ t < 25 * a + 5 * b + k then v (t - (25 * a + 5 * b)) else W.2.2 t) = _
  by_cases e : t = 25 * a + 5 * b + k
  · rw [if_pos e, if_pos (by omega), e]
    congr 1
    omega
  · rw [if_neg e]
    by_cases e2 : 25 * a + 5 * b ≤ t ∧ t < 25 * a + 5 * b + k
    · rw [if_pos e2, if_pos (by omega)]
    · rw [if_neg e2, if_neg (by omega)]
theorem l_row {i : Nat} {sz : Nat} {hh : AH} (hk : Wok W) (ha : vl f len i 0 < W.2.1) (hb : vl f len i 1 < W.2.1) :
    ∀ (m k : Nat), m = W.2.1 - k → k ≤ W.2.1 → nF f len i (sbd W 7) (2 + k) = none → ∀ h1, Tk h1 R len f (nt f len i (2 + k)) ft fp sm hf → RWk h1 R (atW W (vl f len i 0) (vl f len i 1) k (fun t => vl f len i (2 + t))) F → Er R (R + 14) hh h1 →
    VI MX4_row sz (Part hh R len f i 7 W F ft fp sm hf) h1 44 [some (.ref R), some (.int (nI (vl f len i 0))), some (.int (nI (vl f len i 1))), some (.int (nI k))] [] := by
  obtain ⟨b1, b2, b3, b4, b5⟩ := hk.b
  intro m
  induction m with
  | zero =>
    intro k e1 e2 hn h1 hT hW hE
    have e' : k = W.2.1 := by omega
    subst e'
    obtain ⟨_, _, v, c, _⟩ := id hT
    obtain ⟨w1, w2, -⟩ := id hW
    refine e_iload_n (pc := 44) dX4_row_44 rfl rfl ?_
    refine e_aload_n (pc := 45) dX4_row_45 rfl rfl ?_
    refine e_get (pc := 46) fl_X4_47 dX4_row_46 (by repeat (first | assumption | exact hset_eq _ _ _ | (apply WAt.hd; assumption) | rw [hset_ne _ _ (by omega)])) (by rfl) ?_
    refine n_VP (pc := 49) (c_X9_size w1) bX9_size q_i_X9_size q_s_X9_size q_m_X4_122 dX4_row_49 rfl rfl (by repeat (first | assumption | exact hset_eq _ _ _ | (apply WAt.hd; assumption) | rw [hset_ne _ _ (by omega)])) rfl rfl (by exact Nat.le_of_ble_eq_true rfl) ⟨by decide, by decide⟩ ⟨rfl, rfl, Nat.zero_le _, Nat.zero_le _⟩ ?_
    refine n_icmp_ge (pc := 52) (tgt := 91) dX4_row_52 (by decide) (by omega) (show W.2.1 < 2 ^ 31 by omega) (fun _ => ?_) (fun q => absurd q (Nat.lt_irrefl W.2.1))
    refine e_aload_n (pc := 91) dX4_row_91 rfl rfl ?_
    refine n_Vv (pc := 92) (c_X4_stepT hT) bX4_step q_i_X4_step q_s_X4_step q_m_X4_70 dX4_row_92 rfl rfl (by repeat (first | assumption | exact hset_eq _ _ _ | (apply WAt.hd; assumption) | rw [hset_ne _ _ (by omega)])) rfl rfl (by exact Nat.le_of_ble_eq_true rfl) ⟨by decide, by decide⟩ ⟨rfl, rfl, Nat.zero_le _, Nat.zero_le _⟩ (fun h2 hp => ?_)
    obtain ⟨p1, p2⟩ := hp
    refine n_iconst (pc := 95) 1 dX4_row_95 (by decide) ?_
    exact n_zret (pc := 96) dX4_row_96 rfl rfl ⟨Or.inl ⟨hn, rfl, p1, hW.er p2⟩, hE.tr p2.rr⟩
  | succ m ih =>
    intro k e1 e2 hn h1 hT hW hE
    have hk1 : k < W.2.1 := by omega
    obtain ⟨_, _, v, c, _⟩ := id hT
    obtain ⟨w1, w2, -⟩ := id hW
    refine e_iload_n (pc := 44) dX4_row_44 rfl rfl ?_
    refine e_aload_n (pc := 45) dX4_row_45 rfl rfl ?_
    refine e_get (pc := 46) fl_X4_47 dX4_row_46 (by repeat (first | assumption | exact hset_eq _ _ _ | (apply WAt.hd; assumption) | rw [hset_ne _ _ (by omega)])) (by rfl) ?_
    refine n_VP (pc := 49) (c_X9_size w1) bX9_size q_i_X9_size q_s_X9_size q_m_X4_122 dX4_row_49 rfl rfl (by repeat (first | assumption | exact hset_eq _ _ _ | (apply WAt.hd; assumption) | rw [hset_ne _ _ (by omega)])) rfl rfl (by exact Nat.le_of_ble_eq_true rfl) ⟨by decide, by decide⟩ ⟨rfl, rfl, Nat.zero_le _, Nat.zero_le _⟩ ?_
    refine n_icmp_ge (pc := 52) (tgt := 91) dX4_row_52 (by decide) (by omega) (show W.2.1 < 2 ^ 31 by omega) (fun q => absurd q (show ¬ W.2.1 ≤ k by omega)) (fun _ => ?_)
    refine e_aload_n (pc := 55) dX4_row_55 rfl rfl ?_
    refine e_aload_n (pc := 56) dX4_row_56 rfl rfl ?_
    refine e_get (pc := 57) fl_X4_47 dX4_row_57 (by repeat (first | assumption | exact hset_eq _ _ _ | (apply WAt.hd; assumption) | rw [hset_ne _ _ (by omega)])) (by rfl) ?_
    refine n_VP (pc := 60) (c_X9_prime w1) bX9_prime q_i_X9_prime q_s_X9_prime q_m_X4_126 dX4_row_60 rfl rfl (by repeat (first | assumption | exact hset_eq _ _ _ | (apply WAt.hd; assumption) | rw [hset_ne _ _ (by omega)])) rfl rfl (by exact Nat.le_of_ble_eq_true rfl) ⟨by decide, by decide⟩ ⟨rfl, rfl, Nat.zero_le _, Nat.zero_le _⟩ ?_
    refine n_V (pc := 63) (c_X4_numberBelow hT (show W.1 < 2 ^ 31 by omega)) bX4_numberBelow q_i_X4_numberBelow q_s_X4_numberBelow q_m_X4_110 dX4_row_63 rfl rfl (by repeat (first | assumption | exact hset_eq _ _ _ | (apply WAt.hd; assumption) | rw [hset_ne _ _ (by omega)])) rfl rfl (by exact Nat.le_of_ble_eq_true rfl) ⟨by decide, by decide⟩ ⟨rfl, rfl, Nat.zero_le _, Nat.zero_le _⟩ (fun z h2 hp => ?_)
    obtain ⟨hp, p2⟩ := hp
    have sb : sbd W 7 (2 + k) = W.1 := by
      unfold sbd
      rw [if_neg (by decide), if_neg (by decide), if_pos rfl, if_neg (by omega)]
    have step : nF f len i (sbd W 7) (2 + (k + 1)) = tokF f len (nt f len i (2 + (k + 1))) W.1 := by
      rw [← sb]
      exact nF_s hn
    rcases hp with ⟨q1, rfl, T2⟩ | ⟨x, q1, rfl, F2⟩
    · refine e_if_ne (pc := 66) (tgt := 71) dX4_row_66 (by decide) (fun _ => ?_) (fun q => absurd q (by decide))
      have T2 : Tk h2 R len f (nt f len i (2 + (k + 1))) ft fp sm hf := T2
      obtain ⟨n1, n2⟩ := tokF_none q1
      have n1 : tC f len (nt f len i (2 + (k + 1))) = 2 := n1
      have n2 : vl f len i (2 + k) < W.1 := n2
      have c2 : RdH h2 R (nI len) (nI (tE f len (nt f len i (2 + (k + 1))))) (nI (tC f len (nt f len i (2 + (k + 1))))) (nI (tS f len (nt f len i (2 + (k + 1))))) (nI (vl f len i (2 + k))) ft fp sm hf := T2.val n1
      have W2 := hW.er p2
      obtain ⟨w1', w2', -⟩ := id W2
      refine e_aload_n (pc := 71) dX4_row_71 rfl rfl ?_
      refine e_get (pc := 72) fl_X4_47 dX4_row_72 (by repeat (first | assumption | exact hset_eq _ _ _ | (apply WAt.hd; assumption) | rw [hset_ne _ _ (by omega)])) (by rfl) ?_
      refine e_iload_n (pc := 75) dX4_row_75 rfl rfl ?_
      refine e_iload_n (pc := 76) dX4_row_76 rfl rfl ?_
      refine e_iload_n (pc := 77) dX4_row_77 rfl rfl ?_
      refine e_aload_n (pc := 78) dX4_row_78 rfl rfl ?_
      refine e_get (pc := 79) fl_X4_28 dX4_row_79 (by repeat (first | assumption | exact hset_eq _ _ _ | (apply WAt.hd; assumption) | rw [hset_ne _ _ (by omega)])) (by rfl) ?_
      refine n_Vv (pc := 82) (c_X9_put w1' w2' ha hb hk1) bX9_put q_i_X9_put q_s_X9_put q_m_X4_171 dX4_row_82 rfl rfl (by repeat (first | assumption | exact hset_eq _ _ _ | (apply WAt.hd; assumption) | rw [hset_ne _ _ (by omega)])) rfl rfl (by exact Nat.le_of_ble_eq_true rfl) ⟨by decide, by decide⟩ ⟨rfl, rfl, Nat.zero_le _, Nat.zero_le _⟩ (fun h3 hp => ?_)
      obtain ⟨r1, r2⟩ := hp
      have r3 : Wok (wput (atW W (vl f len i 0) (vl f len i 1) k (fun t => vl f len i (2 + t))) (vl f len i 0) (vl f len i 1) k (vl f len i (2 + k))) := wput_ok w2' ha hb hk1 n2
      have ea := atW_s W (vl f len i 0) (vl f len i 1) k (fun t => vl f len i (2 + t))
      have ea : wput (atW W (vl f len i 0) (vl f len i 1) k (fun t => vl f len i (2 + t))) (vl f len i 0) (vl f len i 1) k (vl f len i (2 + k)) = atW W (vl f len i 0) (vl f len i 1) (k + 1) (fun t => vl f len i (2 + t)) := ea
      rw [ea] at r1 r3
      refine n_inc (pc := 85) dX4_row_85 rfl (by decide) ?_
      refine e_goto (pc := 88) (tgt := 44) dX4_row_88 (by decide) ?_
      exact ih (k + 1) (by omega) (by omega) (by rw [step]; exact q1) h3 (T2.ew r2) (W2.w r2 r1 r3) ((hE.tr p2.rr).tr r2.rr)
    · refine e_if_ne (pc := 66) (tgt := 71) dX4_row_66 (by decide) (fun q => absurd rfl q) (fun _ => ?_)
      refine n_iconst (pc := 69) 0 dX4_row_69 (by decide) ?_
      refine n_zret (pc := 70) dX4_row_70 rfl rfl ⟨Or.inr ⟨x, ?_, rfl, F2, _, F, hW.er p2⟩, hE.tr p2.rr⟩
      have e3 : nF f len i (sbd W 7) (2 + (k + 1)) = some x := by rw [step]; exact q1
      have e4 := nF_some e3 (W.2.1 - (k + 1))
      rw [show 2 + (k + 1) + (W.2.1 - (k + 1)) = 2 + W.2.1 by omega] at e4
      exact e4
theorem c_X4_row {i : Nat} (hT : Tk h R len f i ft fp sm hf) (hW : RWk h R W F) : CI yX4_row MX4_row [.ref R] h (Part h R len f i 7 W F ft fp sm hf) := by
  obtain ⟨_, _, v, c, _⟩ := id hT
  obtain ⟨w1, w2, -⟩ := id hW
  obtain ⟨b1, b2, b3, b4, b5⟩ := w2.b
  refine CI.ofV (by decide) rfl rfl (by simp [Value.category]) (by exact Nat.le_of_ble_eq_true rfl) (fun sz => ?_)
  refine e_aload_n (pc := 0) dX4_row_0 rfl rfl ?_
  refine e_aload_n (pc := 1) dX4_row_1 rfl rfl ?_
  refine e_get (pc := 2) fl_X4_47 dX4_row_2 (by repeat (first | assumption | exact hset_eq _ _ _ | (apply WAt.hd; assumption) | rw [hset_ne _ _ (by omega)])) (by rfl) ?_
  refine n_VP (pc := 5) (c_X9_size w1) bX9_size q_i_X9_size q_s_X9_size q_m_X4_122 dX4_row_5 rfl rfl (by repeat (first | assumption | exact hset_eq _ _ _ | (apply WAt.hd; assumption) | rw [hset_ne _ _ (by omega)])) rfl rfl (by exact Nat.le_of_ble_eq_true rfl) ⟨by decide, by decide⟩ ⟨rfl, rfl, Nat.zero_le _, Nat.zero_le _⟩ ?_
  refine n_V (pc := 8) (c_X4_numberBelow hT (show W.2.1 < 2 ^ 31 by omega)) bX4_numberBelow q_i_X4_numberBelow q_s_X4_numberBelow q_m_X4_110 dX4_row_8 rfl rfl (by repeat (first | assumption | exact hset_eq _ _ _ | (apply WAt.hd; assumption) | rw [hset_ne _ _ (by omega)])) rfl rfl (by exact Nat.le_of_ble_eq_true rfl) ⟨by decide, by decide⟩ ⟨rfl, rfl, Nat.zero_le _, Nat.zero_le _⟩ (fun z h2 hp => ?_)
  obtain ⟨hp, p2⟩ := hp
  have s1 : nF f len i (sbd W 7) 1 = tokF f len (nt f len i 1) W.2.1 := nF_s rfl
  rcases hp with ⟨q1, rfl, T2⟩ | ⟨x, q1, rfl, F2⟩
  · refine e_if_ne (pc := 11) (tgt := 16) dX4_row_11 (by decide) (fun _ => ?_) (fun q => absurd q (by decide))
    have T2 : Tk h2 R len f (nt f len i 1) ft fp sm hf := T2
    obtain ⟨n1, n2⟩ := tokF_none q1
    have c2 : RdH h2 R (nI len) (nI (tE f len (nt f len i 1))) (nI (tC f len (nt f len i 1))) (nI (tS f len (nt f len i 1))) (nI (vl f len i 0)) ft fp sm hf := T2.val n1
    have W2 := hW.er p2
    obtain ⟨w1', -⟩ := id W2
    refine e_aload_n (pc := 16) dX4_row_16 rfl rfl ?_
    refine e_get (pc := 17) fl_X4_28 dX4_row_17 (by repeat (first | assumption | exact hset_eq _ _ _ | (apply WAt.hd; assumption) | rw [hset_ne _ _ (by omega)])) (by rfl) ?_
    refine e_istore_n (pc := 20) dX4_row_20 rfl (by decide) ?_
    refine e_aload_n (pc := 21) dX4_row_21 rfl rfl ?_
    refine e_aload_n (pc := 22) dX4_row_22 rfl rfl ?_
    refine e_get (pc := 23) fl_X4_47 dX4_row_23 (by repeat (first | assumption | exact hset_eq _ _ _ | (apply WAt.hd; assumption) | rw [hset_ne _ _ (by omega)])) (by rfl) ?_
    refine n_VP (pc := 26) (c_X9_size w1') bX9_size q_i_X9_size q_s_X9_size q_m_X4_122 dX4_row_26 rfl rfl (by repeat (first | assumption | exact hset_eq _ _ _ | (apply WAt.hd; assumption) | rw [hset_ne _ _ (by omega)])) rfl rfl (by exact Nat.le_of_ble_eq_true rfl) ⟨by decide, by decide⟩ ⟨rfl, rfl, Nat.zero_le _, Nat.zero_le _⟩ ?_
    refine n_V (pc := 29) (c_X4_numberBelow T2 (show W.2.1 < 2 ^ 31 by omega)) bX4_numberBelow q_i_X4_numberBelow q_s_X4_numberBelow q_m_X4_110 dX4_row_29 rfl rfl (by repeat (first | assumption | exact hset_eq _ _ _ | (apply WAt.hd; assumption) | rw [hset_ne _ _ (by omega)])) rfl rfl (by exact Nat.le_of_ble_eq_true rfl) ⟨by decide, by decide⟩ ⟨rfl, rfl, Nat.zero_le _, Nat.zero_le _⟩ (fun z h3 hp => ?_)
    obtain ⟨hp, p3⟩ := hp
    have s2 : nF f len i (sbd W 7) 2 = tokF f len (nt f len i 2) W.2.1 := nF_s (by rw [s1]; exact q1)
    rcases hp with ⟨q3, rfl, T3⟩ | ⟨x, q3, rfl, F3⟩
    · refine e_if_ne (pc := 32) (tgt := 37) dX4_row_32 (by decide) (fun _ => ?_) (fun q => absurd q (by decide))
      have T3 : Tk h3 R len f (nt f len i 2) ft fp sm hf := T3
      obtain ⟨n3, n4⟩ := tokF_none q3
      have n3 : tC f len (nt f len i 2) = 2 := n3
      have c3 : RdH h3 R (nI len) (nI (tE f len (nt f len i 2))) (nI (tC f len (nt f len i 2))) (nI (tS f len (nt f len i 2))) (nI (vl f len i 1)) ft fp sm hf := T3.val n3
      refine e_aload_n (pc := 37) dX4_row_37 rfl rfl ?_
      refine e_get (pc := 38) fl_X4_28 dX4_row_38 (by repeat (first | assumption | exact hset_eq _ _ _ | (apply WAt.hd; assumption) | rw [hset_ne _ _ (by omega)])) (by rfl) ?_
      refine e_istore_n (pc := 41) dX4_row_41 rfl (by decide) ?_
      refine n_iconst (pc := 42) 0 dX4_row_42 (by decide) ?_
      refine e_istore_n (pc := 43) dX4_row_43 rfl (by decide) ?_
      exact l_row (hh := h) w2 n2 n4 (W.2.1 - 0) 0 rfl (Nat.zero_le _) (by rw [Nat.add_zero, s2]; exact q3) h3 T3 (by rw [atW_0]; exact W2.er p3) (p2.rr.tr p3.rr)
    · refine e_if_ne (pc := 32) (tgt := 37) dX4_row_32 (by decide) (fun q => absurd rfl q) (fun _ => ?_)
      refine n_iconst (pc := 35) 0 dX4_row_35 (by decide) ?_
      refine n_zret (pc := 36) dX4_row_36 rfl rfl ⟨Or.inr ⟨x, ?_, rfl, F3, W, F, W2.er p3⟩, p2.rr.tr p3.rr⟩
      exact nF_some (s2.trans q3) W.2.1
  · refine e_if_ne (pc := 11) (tgt := 16) dX4_row_11 (by decide) (fun q => absurd rfl q) (fun _ => ?_)
    refine n_iconst (pc := 14) 0 dX4_row_14 (by decide) ?_
    refine n_zret (pc := 15) dX4_row_15 rfl rfl ⟨Or.inr ⟨x, ?_, rfl, F2, W, F, hW.er p2⟩, p2.rr⟩
    have e4 := nF_some (s1.trans q1) (1 + W.2.1)
    rw [← Nat.add_assoc] at e4
    exact e4
end R3
