/-! ===== the class's face: questions of two worlds ===== -/
def alB (x : Sx) (a b : Int32) : Bool := okI a 6 && (okI b 6 && (decide ((wld x a).1 = (wld x b).1) && decide ((wld x a).2.1 = (wld x b).2.1)))
theorem UnitOf_uni {W : Wd} {z z2 : Int32} (h : UnitOf W z) (h2 : UnitOf W z2) : z = z2 := by
  rcases h with ⟨e, rfl, e0, e1, e2, e3⟩ | ⟨rfl, hn⟩
  · rcases h2 with ⟨g, rfl, g0, g1, g2, g3⟩ | ⟨rfl, hn⟩
    · have : e = g := by
        rcases Nat.lt_trichotomy e g with q | q | q
        · exact absurd e2 (g3 e e0 q)
        · exact q
        · exact absurd g2 (e3 g g0 q)
      rw [this]
    · exact absurd e2 (hn e e0 e1)
  · rcases h2 with ⟨g, rfl, g0, g1, g2, g3⟩ | ⟨rfl, -⟩
    · exact absurd g2 (hn g g0 g1)
    · rfl
section XH
variable {h : AH} {o : Nat} {x y : Sx} {ik : Bool} {len : Nat} {f : Nat → Nat} {ft fp : Int32} {σ : Nat → Nat}
theorem c_alike_n1 (v : Option Nat) : CP yX10_alike MX10_alike [.null, va_rf v] h 0 := by
  refine CI.ofV (by decide) rfl rfl (by cases v <;> simp [Value.category, va_rf]) (by exact Nat.le_of_ble_eq_true rfl) (fun sz => ?_)
  refine e_aload_nN (pc := 0) dX10_alike_0 rfl rfl ?_
  refine e_ifnullN (pc := 1) (tgt := 34) dX10_alike_1 (by decide) ?_
  refine n_iconst (pc := 34) 0 dX10_alike_34 (by decide) ?_
  exact n_zret (pc := 35) dX10_alike_35 rfl rfl ⟨rfl, rfl⟩
theorem c_alike_n2 (a : Nat) : CP yX10_alike MX10_alike [.ref a, .null] h 0 := by
  refine CI.ofV (by decide) rfl rfl (by simp [Value.category]) (by exact Nat.le_of_ble_eq_true rfl) (fun sz => ?_)
  refine e_aload_n (pc := 0) dX10_alike_0 rfl rfl ?_
  refine e_ifnull (pc := 1) dX10_alike_1 ?_
  refine e_aload_nN (pc := 4) dX10_alike_4 rfl rfl ?_
  refine e_ifnullN (pc := 5) (tgt := 34) dX10_alike_5 (by decide) ?_
  refine n_iconst (pc := 34) 0 dX10_alike_34 (by decide) ?_
  exact n_zret (pc := 35) dX10_alike_35 rfl rfl ⟨rfl, rfl⟩
theorem c_alike_ww {a b : Nat} {W W2 : Wd} {f1 f2 : Int32} (hW : WAt h a W f1) (hW2 : WAt h b W2 f2) (hk : Wok W) (hk2 : Wok W2) : CP yX10_alike MX10_alike [.ref a, .ref b] h (bI (decide (W.1 = W2.1) && decide (W.2.1 = W2.2.1))) := by
  have b1 := hk.b
  have b2 := hk2.b
  refine CI.ofV (by decide) rfl rfl (by simp [Value.category]) (by exact Nat.le_of_ble_eq_true rfl) (fun sz => ?_)
  refine e_aload_n (pc := 0) dX10_alike_0 rfl rfl ?_
  refine e_ifnull (pc := 1) dX10_alike_1 ?_
  refine e_aload_n (pc := 4) dX10_alike_4 rfl rfl ?_
  refine e_ifnull (pc := 5) dX10_alike_5 ?_
  refine e_aload_n (pc := 8) dX10_alike_8 rfl rfl ?_
  refine n_VP (pc := 9) (c_X9_prime hW) bX9_prime q_i_X9_prime q_s_X9_prime q_m_X10_132 dX10_alike_9 rfl rfl (by repeat (first | assumption | exact hset_eq _ _ _ | (apply WAt.hd; assumption) | rw [hset_ne _ _ (by omega)])) rfl rfl (by exact Nat.le_of_ble_eq_true rfl) ⟨by decide, by decide⟩ ⟨rfl, rfl, Nat.zero_le _, Nat.zero_le _⟩ ?_
  refine e_aload_n (pc := 12) dX10_alike_12 rfl rfl ?_
  refine n_VP (pc := 13) (c_X9_prime hW2) bX9_prime q_i_X9_prime q_s_X9_prime q_m_X10_132 dX10_alike_13 rfl rfl (by repeat (first | assumption | exact hset_eq _ _ _ | (apply WAt.hd; assumption) | rw [hset_ne _ _ (by omega)])) rfl rfl (by exact Nat.le_of_ble_eq_true rfl) ⟨by decide, by decide⟩ ⟨rfl, rfl, Nat.zero_le _, Nat.zero_le _⟩ ?_
  refine n_icmp_ne (pc := 16) (tgt := 34) dX10_alike_16 (by decide) (by omega) (by omega) (fun c => ?_) (fun c => ?_)
  · refine n_iconst (pc := 34) 0 dX10_alike_34 (by decide) ?_
    refine n_zret (pc := 35) dX10_alike_35 rfl rfl ⟨?_, rfl⟩
    rw [decide_eq_false c]; rfl
  · refine e_aload_n (pc := 19) dX10_alike_19 rfl rfl ?_
    refine n_VP (pc := 20) (c_X9_size hW) bX9_size q_i_X9_size q_s_X9_size q_m_X10_147 dX10_alike_20 rfl rfl (by repeat (first | assumption | exact hset_eq _ _ _ | (apply WAt.hd; assumption) | rw [hset_ne _ _ (by omega)])) rfl rfl (by exact Nat.le_of_ble_eq_true rfl) ⟨by decide, by decide⟩ ⟨rfl, rfl, Nat.zero_le _, Nat.zero_le _⟩ ?_
    refine e_aload_n (pc := 23) dX10_alike_23 rfl rfl ?_
    refine n_VP (pc := 24) (c_X9_size hW2) bX9_size q_i_X9_size q_s_X9_size q_m_X10_147 dX10_alike_24 rfl rfl (by repeat (first | assumption | exact hset_eq _ _ _ | (apply WAt.hd; assumption) | rw [hset_ne _ _ (by omega)])) rfl rfl (by exact Nat.le_of_ble_eq_true rfl) ⟨by decide, by decide⟩ ⟨rfl, rfl, Nat.zero_le _, Nat.zero_le _⟩ ?_
    refine n_icmp_ne (pc := 27) (tgt := 34) dX10_alike_27 (by decide) (by omega) (by omega) (fun c2 => ?_) (fun c2 => ?_)
    · refine n_iconst (pc := 34) 0 dX10_alike_34 (by decide) ?_
      refine n_zret (pc := 35) dX10_alike_35 rfl rfl ⟨?_, rfl⟩
      rw [decide_eq_false c2, Bool.and_false]; rfl
    · refine n_iconst (pc := 30) 1 dX10_alike_30 (by decide) ?_
      refine e_goto (pc := 31) (tgt := 35) dX10_alike_31 (by decide) ?_
      refine n_zret (pc := 35) dX10_alike_35 rfl rfl ⟨?_, rfl⟩
      rw [decide_eq_true c, decide_eq_true c2]; rfl
def Q_parted (x : Sx) (u v z : Int32) : Prop := if alB x u v = true then Parts (wld x u) (wld x v) z else z = -2
theorem c_X10_parted (hX : XAt h o x y ik len f ft fp) (u v : Int32) : CI yX10_parted MX10_parted [.ref o, .int u, .int v] h (fun z h' => Q_parted x u v z ∧ XAt h' o x y ik len f ft fp ∧ Er o (o + 303) h h') := by
  obtain ⟨a1, ⟨σ, a2⟩, -, -, a5, a6, ⟨S0, a7⟩, -⟩ := id hX
  have hs : XAs h o σ x y ik len f ft fp := ⟨hX, a2⟩
  obtain ⟨s1, -⟩ := id a2.1
  have t5 := a5.1.2.1
  have f5 := a5.1.1.2.1
  have no : alB x u v = false → ∀ (sz : Nat) (l : List (Option Value)), VI MX10_parted sz (fun z h' => Q_parted x u v z ∧ XAt h' o x y ik len f ft fp ∧ Er o (o + 303) h h') h 28 l [] := fun q sz l => by
    refine e_bipush (pc := 28) (v := -2) dX10_parted_28 (by decide) ?_
    exact n_iret (pc := 30) dX10_parted_30 rfl ⟨qF q rfl, hX, Er.rf _ _ _⟩
  refine CI.ofV (by decide) rfl rfl (by simp [Value.category]) (by exact Nat.le_of_ble_eq_true rfl) (fun sz => ?_)
  refine e_aload_n (pc := 0) dX10_parted_0 rfl rfl ?_
  refine e_get (pc := 1) fl_X10_10 dX10_parted_1 (by repeat (first | assumption | exact hset_eq _ _ _ | (apply WAt.hd; assumption) | rw [hset_ne _ _ (by omega)])) (by rfl) ?_
  refine e_iload_n (pc := 4) dX10_parted_4 rfl rfl ?_
  refine n_Vr (pc := 5) (c_X6_world a2 u) bX6_world q_i_X6_world q_s_X6_world q_m_X10_101 dX10_parted_5 rfl rfl (by repeat (first | assumption | exact hset_eq _ _ _ | (apply WAt.hd; assumption) | rw [hset_ne _ _ (by omega)])) rfl rfl (by exact Nat.le_of_ble_eq_true rfl) ⟨by decide, by decide⟩ ⟨rfl, rfl, Nat.zero_le _, Nat.zero_le _⟩ (fun r h2 hp => ?_)
  obtain ⟨rfl, hr⟩ := hp
  rcases hr with ⟨a, ha, rfl, rfl⟩ | ⟨hw, rfl⟩
  · refine e_astore_n (pc := 8) dX10_parted_8 rfl (by decide) ?_
    refine e_aload_n (pc := 9) dX10_parted_9 rfl rfl ?_
    refine e_get (pc := 10) fl_X10_10 dX10_parted_10 (by repeat (first | assumption | exact hset_eq _ _ _ | (apply WAt.hd; assumption) | rw [hset_ne _ _ (by omega)])) (by rfl) ?_
    refine e_iload_n (pc := 13) dX10_parted_13 rfl rfl ?_
    refine n_Vr (pc := 14) (c_X6_world a2 v) bX6_world q_i_X6_world q_s_X6_world q_m_X10_101 dX10_parted_14 rfl rfl (by repeat (first | assumption | exact hset_eq _ _ _ | (apply WAt.hd; assumption) | rw [hset_ne _ _ (by omega)])) rfl rfl (by exact Nat.le_of_ble_eq_true rfl) ⟨by decide, by decide⟩ ⟨rfl, rfl, Nat.zero_le _, Nat.zero_le _⟩ (fun r h2 hp => ?_)
    obtain ⟨rfl, hr⟩ := hp
    rcases hr with ⟨b, hb, rfl, rfl⟩ | ⟨hw, rfl⟩
    · obtain ⟨wf, w1, w2⟩ := a2.w (show a < 26 by omega)
      obtain ⟨vf, v1, v2⟩ := a2.w (show b < 26 by omega)
      have wk := a2.ok (show a < 26 by omega)
      have vk := a2.ok (show b < 26 by omega)
      have nb := wk.b
      have mb := vk.b
      have bda := a2.bd (show a < 26 by omega)
      have bdb := a2.bd (show b < 26 by omega)
      have cla : wld x (nI a) = x.ws a := by unfold wld; rw [cl_nI (by omega)]
      have clb : wld x (nI b) = x.ws b := by unfold wld; rw [cl_nI (by omega)]
      have ald : alB x (nI a) (nI b) = (decide ((x.ws a).1 = (x.ws b).1) && decide ((x.ws a).2.1 = (x.ws b).2.1)) := by unfold alB; rw [ok6 ha, ok6 hb, cla, clb, Bool.true_and, Bool.true_and]
      have apd : wa (o + 1) σ a = wa (o + 1) σ b ∨ wa (o + 1) σ a + 3 ≤ wa (o + 1) σ b ∨ wa (o + 1) σ b + 3 ≤ wa (o + 1) σ a := by
        by_cases e : a = b
        · subst e; exact Or.inl rfl
        · exact Or.inr (a2.ap (show a < 26 by omega) (show b < 26 by omega) e)
      refine e_astore (pc := 17) dX10_parted_17 (by decide) ?_
      refine e_aload_n (pc := 19) dX10_parted_19 rfl rfl ?_
      refine e_aload (pc := 20) dX10_parted_20 rfl ?_
      refine n_SP (pc := 22) (c_alike_ww w1 v1 wk vk) bX10_alike q_st_X10_alike q_m_X10_214 dX10_parted_22 rfl rfl (by exact Nat.le_of_ble_eq_true rfl) ⟨by decide, by decide⟩ ⟨rfl, rfl, Nat.zero_le _, Nat.zero_le _⟩ ?_
      cases al : (decide ((x.ws a).1 = (x.ws b).1) && decide ((x.ws a).2.1 = (x.ws b).2.1)) with
      | false =>
        refine e_if_ne (pc := 25) (tgt := 31) dX10_parted_25 (by decide) (fun q => absurd rfl q) (fun _ => no (ald.trans al) sz _)
      | true =>
        rw [al] at ald
        have alp : (x.ws b).1 = (x.ws a).1 ∧ (x.ws b).2.1 = (x.ws a).2.1 := by
          simp only [Bool.and_eq_true, decide_eq_true_eq] at al
          exact ⟨al.1.symm, al.2.symm⟩
        refine e_if_ne (pc := 25) (tgt := 31) dX10_parted_25 (by decide) (fun _ => ?_) (fun q => absurd q (by decide))
        refine e_aload_n (pc := 31) dX10_parted_31 rfl rfl ?_
        refine e_get (pc := 32) fl_X10_42 dX10_parted_32 (by repeat (first | assumption | exact hset_eq _ _ _ | (apply WAt.hd; assumption) | rw [hset_ne _ _ (by omega)])) (by rfl) ?_
        refine e_aload_n (pc := 35) dX10_parted_35 rfl rfl ?_
        refine e_aload (pc := 36) dX10_parted_36 rfl ?_
        refine n_V (pc := 38) (c_X1_whatParts a5.1.1 w1 v1 wk vk (by omega) (by omega)) bX1_whatParts q_i_X1_whatParts q_s_X1_whatParts q_m_X10_218 dX10_parted_38 rfl rfl (by repeat (first | assumption | exact hset_eq _ _ _ | (apply WAt.hd; assumption) | rw [hset_ne _ _ (by omega)])) rfl rfl (by exact Nat.le_of_ble_eq_true rfl) ⟨by decide, by decide⟩ ⟨rfl, rfl, Nat.zero_le _, Nat.zero_le _⟩ (fun z h3 hp => ?_)
        obtain ⟨p1, p2, p3⟩ := hp
        exact n_iret (pc := 41) dX10_parted_41 rfl ⟨qT ald (by rw [cla, clb]; exact p1), hX.fr a2 ha (p3.fr (by omega) (by omega)) (a5.1.er p2 p3) (w1.er p3 (by omega)) w2⟩
    · refine e_astoreN (pc := 17) dX10_parted_17 (by decide) ?_
      refine e_aload_n (pc := 19) dX10_parted_19 rfl rfl ?_
      refine e_aloadN (pc := 20) dX10_parted_20 rfl ?_
      refine n_SP (pc := 22) (c_alike_n2 (wa (o + 1) σ a)) bX10_alike q_st_X10_alike q_m_X10_214 dX10_parted_22 rfl rfl (by exact Nat.le_of_ble_eq_true rfl) ⟨by decide, by decide⟩ ⟨rfl, rfl, Nat.zero_le _, Nat.zero_le _⟩ ?_
      refine e_if_ne (pc := 25) (tgt := 31) dX10_parted_25 (by decide) (fun q => absurd rfl q) (fun _ => no (by unfold alB; rw [hw, Bool.false_and, Bool.and_false]) sz _)
  · refine e_astore_nN (pc := 8) dX10_parted_8 rfl (by decide) ?_
    refine e_aload_n (pc := 9) dX10_parted_9 rfl rfl ?_
    refine e_get (pc := 10) fl_X10_10 dX10_parted_10 (by repeat (first | assumption | exact hset_eq _ _ _ | (apply WAt.hd; assumption) | rw [hset_ne _ _ (by omega)])) (by rfl) ?_
    refine e_iload_n (pc := 13) dX10_parted_13 rfl rfl ?_
    refine n_Vr (pc := 14) (c_X6_world a2 v) bX6_world q_i_X6_world q_s_X6_world q_m_X10_101 dX10_parted_14 rfl rfl (by repeat (first | assumption | exact hset_eq _ _ _ | (apply WAt.hd; assumption) | rw [hset_ne _ _ (by omega)])) rfl rfl (by exact Nat.le_of_ble_eq_true rfl) ⟨by decide, by decide⟩ ⟨rfl, rfl, Nat.zero_le _, Nat.zero_le _⟩ (fun r h2 hp => ?_)
    obtain ⟨rfl, hr⟩ := hp
    rcases hr with ⟨b, hb, rfl, rfl⟩ | ⟨hw2, rfl⟩
    · refine e_astore (pc := 17) dX10_parted_17 (by decide) ?_
      refine e_aload_nN (pc := 19) dX10_parted_19 rfl rfl ?_
      refine e_aload (pc := 20) dX10_parted_20 rfl ?_
      refine n_SP (pc := 22) (c_alike_n1 (some (wa (o + 1) σ b))) bX10_alike q_st_X10_alike q_m_X10_214 dX10_parted_22 rfl rfl (by exact Nat.le_of_ble_eq_true rfl) ⟨by decide, by decide⟩ ⟨rfl, rfl, Nat.zero_le _, Nat.zero_le _⟩ ?_
      refine e_if_ne (pc := 25) (tgt := 31) dX10_parted_25 (by decide) (fun q => absurd rfl q) (fun _ => no (by unfold alB; rw [hw, Bool.false_and]) sz _)
    · refine e_astoreN (pc := 17) dX10_parted_17 (by decide) ?_
      refine e_aload_nN (pc := 19) dX10_parted_19 rfl rfl ?_
      refine e_aloadN (pc := 20) dX10_parted_20 rfl ?_
      refine n_SP (pc := 22) (c_alike_n1 none) bX10_alike q_st_X10_alike q_m_X10_214 dX10_parted_22 rfl rfl (by exact Nat.le_of_ble_eq_true rfl) ⟨by decide, by decide⟩ ⟨rfl, rfl, Nat.zero_le _, Nat.zero_le _⟩ ?_
      refine e_if_ne (pc := 25) (tgt := 31) dX10_parted_25 (by decide) (fun q => absurd rfl q) (fun _ => no (by unfold alB; rw [hw, Bool.false_and]) sz _)
def Q_carry (x : Sx) (u v z : Int32) : Prop := if alB x u v = true then Carry x (wld x u) (wld x v) z else z = -2
theorem c_X10_carry (hX : XAt h o x y ik len f ft fp) (u v : Int32) : CI yX10_carry MX10_carry [.ref o, .int u, .int v] h (fun z h' => Q_carry x u v z ∧ XAt h' o x y ik len f ft fp ∧ Er o (o + 303) h h') := by
  obtain ⟨a1, ⟨σ, a2⟩, -, -, a5, a6, ⟨S0, a7⟩, -⟩ := id hX
  have hs : XAs h o σ x y ik len f ft fp := ⟨hX, a2⟩
  obtain ⟨s1, -⟩ := id a2.1
  have t5 := a5.1.2.1
  have f5 := a5.1.1.2.1
  have no : alB x u v = false → ∀ (sz : Nat) (l : List (Option Value)), VI MX10_carry sz (fun z h' => Q_carry x u v z ∧ XAt h' o x y ik len f ft fp ∧ Er o (o + 303) h h') h 28 l [] := fun q sz l => by
    refine e_bipush (pc := 28) (v := -2) dX10_carry_28 (by decide) ?_
    exact n_iret (pc := 30) dX10_carry_30 rfl ⟨qF q rfl, hX, Er.rf _ _ _⟩
  refine CI.ofV (by decide) rfl rfl (by simp [Value.category]) (by exact Nat.le_of_ble_eq_true rfl) (fun sz => ?_)
  refine e_aload_n (pc := 0) dX10_carry_0 rfl rfl ?_
  refine e_get (pc := 1) fl_X10_10 dX10_carry_1 (by repeat (first | assumption | exact hset_eq _ _ _ | (apply WAt.hd; assumption) | rw [hset_ne _ _ (by omega)])) (by rfl) ?_
  refine e_iload_n (pc := 4) dX10_carry_4 rfl rfl ?_
  refine n_Vr (pc := 5) (c_X6_world a2 u) bX6_world q_i_X6_world q_s_X6_world q_m_X10_101 dX10_carry_5 rfl rfl (by repeat (first | assumption | exact hset_eq _ _ _ | (apply WAt.hd; assumption) | rw [hset_ne _ _ (by omega)])) rfl rfl (by exact Nat.le_of_ble_eq_true rfl) ⟨by decide, by decide⟩ ⟨rfl, rfl, Nat.zero_le _, Nat.zero_le _⟩ (fun r h2 hp => ?_)
  obtain ⟨rfl, hr⟩ := hp
  rcases hr with ⟨a, ha, rfl, rfl⟩ | ⟨hw, rfl⟩
  · refine e_astore_n (pc := 8) dX10_carry_8 rfl (by decide) ?_
    refine e_aload_n (pc := 9) dX10_carry_9 rfl rfl ?_
    refine e_get (pc := 10) fl_X10_10 dX10_carry_10 (by repeat (first | assumption | exact hset_eq _ _ _ | (apply WAt.hd; assumption) | rw [hset_ne _ _ (by omega)])) (by rfl) ?_
    refine e_iload_n (pc := 13) dX10_carry_13 rfl rfl ?_
    refine n_Vr (pc := 14) (c_X6_world a2 v) bX6_world q_i_X6_world q_s_X6_world q_m_X10_101 dX10_carry_14 rfl rfl (by repeat (first | assumption | exact hset_eq _ _ _ | (apply WAt.hd; assumption) | rw [hset_ne _ _ (by omega)])) rfl rfl (by exact Nat.le_of_ble_eq_true rfl) ⟨by decide, by decide⟩ ⟨rfl, rfl, Nat.zero_le _, Nat.zero_le _⟩ (fun r h2 hp => ?_)
    obtain ⟨rfl, hr⟩ := hp
    rcases hr with ⟨b, hb, rfl, rfl⟩ | ⟨hw, rfl⟩
    · obtain ⟨wf, w1, w2⟩ := a2.w (show a < 26 by omega)
      obtain ⟨vf, v1, v2⟩ := a2.w (show b < 26 by omega)
      have wk := a2.ok (show a < 26 by omega)
      have vk := a2.ok (show b < 26 by omega)
      have nb := wk.b
      have mb := vk.b
      have bda := a2.bd (show a < 26 by omega)
      have bdb := a2.bd (show b < 26 by omega)
      have cla : wld x (nI a) = x.ws a := by unfold wld; rw [cl_nI (by omega)]
      have clb : wld x (nI b) = x.ws b := by unfold wld; rw [cl_nI (by omega)]
      have ald : alB x (nI a) (nI b) = (decide ((x.ws a).1 = (x.ws b).1) && decide ((x.ws a).2.1 = (x.ws b).2.1)) := by unfold alB; rw [ok6 ha, ok6 hb, cla, clb, Bool.true_and, Bool.true_and]
      have apd : wa (o + 1) σ a = wa (o + 1) σ b ∨ wa (o + 1) σ a + 3 ≤ wa (o + 1) σ b ∨ wa (o + 1) σ b + 3 ≤ wa (o + 1) σ a := by
        by_cases e : a = b
        · subst e; exact Or.inl rfl
        · exact Or.inr (a2.ap (show a < 26 by omega) (show b < 26 by omega) e)
      refine e_astore (pc := 17) dX10_carry_17 (by decide) ?_
      refine e_aload_n (pc := 19) dX10_carry_19 rfl rfl ?_
      refine e_aload (pc := 20) dX10_carry_20 rfl ?_
      refine n_SP (pc := 22) (c_alike_ww w1 v1 wk vk) bX10_alike q_st_X10_alike q_m_X10_214 dX10_carry_22 rfl rfl (by exact Nat.le_of_ble_eq_true rfl) ⟨by decide, by decide⟩ ⟨rfl, rfl, Nat.zero_le _, Nat.zero_le _⟩ ?_
      cases al : (decide ((x.ws a).1 = (x.ws b).1) && decide ((x.ws a).2.1 = (x.ws b).2.1)) with
      | false =>
        refine e_if_ne (pc := 25) (tgt := 31) dX10_carry_25 (by decide) (fun q => absurd rfl q) (fun _ => no (ald.trans al) sz _)
      | true =>
        rw [al] at ald
        have alp : (x.ws b).1 = (x.ws a).1 ∧ (x.ws b).2.1 = (x.ws a).2.1 := by
          simp only [Bool.and_eq_true, decide_eq_true_eq] at al
          exact ⟨al.1.symm, al.2.symm⟩
        refine e_if_ne (pc := 25) (tgt := 31) dX10_carry_25 (by decide) (fun _ => ?_) (fun q => absurd q (by decide))
        refine e_aload_n (pc := 31) dX10_carry_31 rfl rfl ?_
        refine e_get (pc := 32) fl_X10_51 dX10_carry_32 (by repeat (first | assumption | exact hset_eq _ _ _ | (apply WAt.hd; assumption) | rw [hset_ne _ _ (by omega)])) (by rfl) ?_
        refine e_aload_n (pc := 35) dX10_carry_35 rfl rfl ?_
        refine e_aload (pc := 36) dX10_carry_36 rfl ?_
        refine e_aload_n (pc := 38) dX10_carry_38 rfl rfl ?_
        refine e_get (pc := 39) fl_X10_10 dX10_carry_39 (by repeat (first | assumption | exact hset_eq _ _ _ | (apply WAt.hd; assumption) | rw [hset_ne _ _ (by omega)])) (by rfl) ?_
        have cs : CS h2 (o + 181) (o + 1) (wa (o + 1) σ a) (wa (o + 1) σ b) (x.ws a) (x.ws b) wf vf x := ⟨a5.1, w1, v1, a2.ims⟩
        refine n_V (pc := 42) (c_X7_whatIsNotCarried cs wk vk ⟨by omega, by omega, by omega, apd, by omega, by omega⟩ alp) bX7_whatIsNotCarried q_i_X7_whatIsNotCarried q_s_X7_whatIsNotCarried q_m_X10_239 dX10_carry_42 rfl rfl (by repeat (first | assumption | exact hset_eq _ _ _ | (apply WAt.hd; assumption) | rw [hset_ne _ _ (by omega)])) rfl rfl (by exact Nat.le_of_ble_eq_true rfl) ⟨by decide, by decide⟩ ⟨rfl, rfl, Nat.zero_le _, Nat.zero_le _⟩ (fun z h3 hp => ?_)
        obtain ⟨p1, ⟨p2, p3, p4, p5⟩, p6⟩ := hp
        have r := hs.two ha hb (fun t t1 t2 t3 t4 t5 t6 t7 t8 => p6 t t1 t5 t8) p2 (a6.far (fun t t1 t2 => p6 t (by omega) (by omega) (by omega))) ⟨_, p3, w2⟩ ⟨_, p4, v2⟩
        exact n_iret (pc := 45) dX10_carry_45 rfl ⟨qT ald (by rw [cla, clb]; exact p1), r.1.1, r.2⟩
    · refine e_astoreN (pc := 17) dX10_carry_17 (by decide) ?_
      refine e_aload_n (pc := 19) dX10_carry_19 rfl rfl ?_
      refine e_aloadN (pc := 20) dX10_carry_20 rfl ?_
      refine n_SP (pc := 22) (c_alike_n2 (wa (o + 1) σ a)) bX10_alike q_st_X10_alike q_m_X10_214 dX10_carry_22 rfl rfl (by exact Nat.le_of_ble_eq_true rfl) ⟨by decide, by decide⟩ ⟨rfl, rfl, Nat.zero_le _, Nat.zero_le _⟩ ?_
      refine e_if_ne (pc := 25) (tgt := 31) dX10_carry_25 (by decide) (fun q => absurd rfl q) (fun _ => no (by unfold alB; rw [hw, Bool.false_and, Bool.and_false]) sz _)
  · refine e_astore_nN (pc := 8) dX10_carry_8 rfl (by decide) ?_
    refine e_aload_n (pc := 9) dX10_carry_9 rfl rfl ?_
    refine e_get (pc := 10) fl_X10_10 dX10_carry_10 (by repeat (first | assumption | exact hset_eq _ _ _ | (apply WAt.hd; assumption) | rw [hset_ne _ _ (by omega)])) (by rfl) ?_
    refine e_iload_n (pc := 13) dX10_carry_13 rfl rfl ?_
    refine n_Vr (pc := 14) (c_X6_world a2 v) bX6_world q_i_X6_world q_s_X6_world q_m_X10_101 dX10_carry_14 rfl rfl (by repeat (first | assumption | exact hset_eq _ _ _ | (apply WAt.hd; assumption) | rw [hset_ne _ _ (by omega)])) rfl rfl (by exact Nat.le_of_ble_eq_true rfl) ⟨by decide, by decide⟩ ⟨rfl, rfl, Nat.zero_le _, Nat.zero_le _⟩ (fun r h2 hp => ?_)
    obtain ⟨rfl, hr⟩ := hp
    rcases hr with ⟨b, hb, rfl, rfl⟩ | ⟨hw2, rfl⟩
    · refine e_astore (pc := 17) dX10_carry_17 (by decide) ?_
      refine e_aload_nN (pc := 19) dX10_carry_19 rfl rfl ?_
      refine e_aload (pc := 20) dX10_carry_20 rfl ?_
      refine n_SP (pc := 22) (c_alike_n1 (some (wa (o + 1) σ b))) bX10_alike q_st_X10_alike q_m_X10_214 dX10_carry_22 rfl rfl (by exact Nat.le_of_ble_eq_true rfl) ⟨by decide, by decide⟩ ⟨rfl, rfl, Nat.zero_le _, Nat.zero_le _⟩ ?_
      refine e_if_ne (pc := 25) (tgt := 31) dX10_carry_25 (by decide) (fun q => absurd rfl q) (fun _ => no (by unfold alB; rw [hw, Bool.false_and]) sz _)
    · refine e_astoreN (pc := 17) dX10_carry_17 (by decide) ?_
      refine e_aload_nN (pc := 19) dX10_carry_19 rfl rfl ?_
      refine e_aloadN (pc := 20) dX10_carry_20 rfl ?_
      refine n_SP (pc := 22) (c_alike_n1 none) bX10_alike q_st_X10_alike q_m_X10_214 dX10_carry_22 rfl rfl (by exact Nat.le_of_ble_eq_true rfl) ⟨by decide, by decide⟩ ⟨rfl, rfl, Nat.zero_le _, Nat.zero_le _⟩ ?_
      refine e_if_ne (pc := 25) (tgt := 31) dX10_carry_25 (by decide) (fun q => absurd rfl q) (fun _ => no (by unfold alB; rw [hw, Bool.false_and]) sz _)
def Q_same (x : Sx) (u v z : Int32) : Prop := if (alB x u v && decide ((wld x u).1 ^ (wld x u).2.1 ≤ 27)) = true then z = nI (NMs (wld x u) (mul (wld x v)) 0) else z = -1
theorem c_X10_same (hX : XAt h o x y ik len f ft fp) (u v : Int32) : CI yX10_same MX10_same [.ref o, .int u, .int v] h (fun z h' => Q_same x u v z ∧ XAt h' o x y ik len f ft fp ∧ Er o (o + 303) h h') := by
  obtain ⟨a1, ⟨σ, a2⟩, -, -, a5, a6, ⟨S0, a7⟩, -⟩ := id hX
  have hs : XAs h o σ x y ik len f ft fp := ⟨hX, a2⟩
  obtain ⟨s1, -⟩ := id a2.1
  have t5 := a5.1.2.1
  have f5 := a5.1.1.2.1
  have no : alB x u v = false → ∀ (sz : Nat) (l : List (Option Value)), VI MX10_same sz (fun z h' => Q_same x u v z ∧ XAt h' o x y ik len f ft fp ∧ Er o (o + 303) h h') h 37 l [] := fun q sz l => by
    refine e_iconst (pc := 37) (v := -1) dX10_same_37 (by decide) ?_
    exact n_iret (pc := 38) dX10_same_38 rfl ⟨qF (by rw [q, Bool.false_and]) rfl, hX, Er.rf _ _ _⟩
  refine CI.ofV (by decide) rfl rfl (by simp [Value.category]) (by exact Nat.le_of_ble_eq_true rfl) (fun sz => ?_)
  refine e_aload_n (pc := 0) dX10_same_0 rfl rfl ?_
  refine e_get (pc := 1) fl_X10_10 dX10_same_1 (by repeat (first | assumption | exact hset_eq _ _ _ | (apply WAt.hd; assumption) | rw [hset_ne _ _ (by omega)])) (by rfl) ?_
  refine e_iload_n (pc := 4) dX10_same_4 rfl rfl ?_
  refine n_Vr (pc := 5) (c_X6_world a2 u) bX6_world q_i_X6_world q_s_X6_world q_m_X10_101 dX10_same_5 rfl rfl (by repeat (first | assumption | exact hset_eq _ _ _ | (apply WAt.hd; assumption) | rw [hset_ne _ _ (by omega)])) rfl rfl (by exact Nat.le_of_ble_eq_true rfl) ⟨by decide, by decide⟩ ⟨rfl, rfl, Nat.zero_le _, Nat.zero_le _⟩ (fun r h2 hp => ?_)
  obtain ⟨rfl, hr⟩ := hp
  rcases hr with ⟨a, ha, rfl, rfl⟩ | ⟨hw, rfl⟩
  · refine e_astore_n (pc := 8) dX10_same_8 rfl (by decide) ?_
    refine e_aload_n (pc := 9) dX10_same_9 rfl rfl ?_
    refine e_get (pc := 10) fl_X10_10 dX10_same_10 (by repeat (first | assumption | exact hset_eq _ _ _ | (apply WAt.hd; assumption) | rw [hset_ne _ _ (by omega)])) (by rfl) ?_
    refine e_iload_n (pc := 13) dX10_same_13 rfl rfl ?_
    refine n_Vr (pc := 14) (c_X6_world a2 v) bX6_world q_i_X6_world q_s_X6_world q_m_X10_101 dX10_same_14 rfl rfl (by repeat (first | assumption | exact hset_eq _ _ _ | (apply WAt.hd; assumption) | rw [hset_ne _ _ (by omega)])) rfl rfl (by exact Nat.le_of_ble_eq_true rfl) ⟨by decide, by decide⟩ ⟨rfl, rfl, Nat.zero_le _, Nat.zero_le _⟩ (fun r h2 hp => ?_)
    obtain ⟨rfl, hr⟩ := hp
    rcases hr with ⟨b, hb, rfl, rfl⟩ | ⟨hw, rfl⟩
    · obtain ⟨wf, w1, w2⟩ := a2.w (show a < 26 by omega)
      obtain ⟨vf, v1, v2⟩ := a2.w (show b < 26 by omega)
      have wk := a2.ok (show a < 26 by omega)
      have vk := a2.ok (show b < 26 by omega)
      have nb := wk.b
      have mb := vk.b
      have bda := a2.bd (show a < 26 by omega)
      have bdb := a2.bd (show b < 26 by omega)
      have cla : wld x (nI a) = x.ws a := by unfold wld; rw [cl_nI (by omega)]
      have clb : wld x (nI b) = x.ws b := by unfold wld; rw [cl_nI (by omega)]
      have ald : alB x (nI a) (nI b) = (decide ((x.ws a).1 = (x.ws b).1) && decide ((x.ws a).2.1 = (x.ws b).2.1)) := by unfold alB; rw [ok6 ha, ok6 hb, cla, clb, Bool.true_and, Bool.true_and]
      have apd : wa (o + 1) σ a = wa (o + 1) σ b ∨ wa (o + 1) σ a + 3 ≤ wa (o + 1) σ b ∨ wa (o + 1) σ b + 3 ≤ wa (o + 1) σ a := by
        by_cases e : a = b
        · subst e; exact Or.inl rfl
        · exact Or.inr (a2.ap (show a < 26 by omega) (show b < 26 by omega) e)
      refine e_astore (pc := 17) dX10_same_17 (by decide) ?_
      refine e_aload_n (pc := 19) dX10_same_19 rfl rfl ?_
      refine e_aload (pc := 20) dX10_same_20 rfl ?_
      refine n_SP (pc := 22) (c_alike_ww w1 v1 wk vk) bX10_alike q_st_X10_alike q_m_X10_214 dX10_same_22 rfl rfl (by exact Nat.le_of_ble_eq_true rfl) ⟨by decide, by decide⟩ ⟨rfl, rfl, Nat.zero_le _, Nat.zero_le _⟩ ?_
      cases al : (decide ((x.ws a).1 = (x.ws b).1) && decide ((x.ws a).2.1 = (x.ws b).2.1)) with
      | false =>
        refine e_if_eq (pc := 25) (tgt := 37) dX10_same_25 (by decide) (fun _ => no (ald.trans al) sz _) (fun q => absurd rfl q)
      | true =>
        rw [al] at ald
        have alp : (x.ws b).1 = (x.ws a).1 ∧ (x.ws b).2.1 = (x.ws a).2.1 := by
          simp only [Bool.and_eq_true, decide_eq_true_eq] at al
          exact ⟨al.1.symm, al.2.symm⟩
        refine e_if_eq (pc := 25) (tgt := 37) dX10_same_25 (by decide) (fun q => absurd q (by decide)) (fun _ => ?_)
        refine e_aload_n (pc := 28) dX10_same_28 rfl rfl ?_
        refine n_VP (pc := 29) (c_X9_order w1) bX9_order q_i_X9_order q_s_X9_order q_m_X10_119 dX10_same_29 rfl rfl (by repeat (first | assumption | exact hset_eq _ _ _ | (apply WAt.hd; assumption) | rw [hset_ne _ _ (by omega)])) rfl rfl (by exact Nat.le_of_ble_eq_true rfl) ⟨by decide, by decide⟩ ⟨rfl, rfl, Nat.zero_le _, Nat.zero_le _⟩ ?_
        refine n_bipush (pc := 32) 27 dX10_same_32 (by decide) ?_
        refine n_icmp_le (pc := 34) (tgt := 39) dX10_same_34 (by decide) (by omega) (by omega) (fun c => ?_) (fun c => ?_)
        · have b6 := a6.1
          obtain ⟨_, _, _, _, _, b7⟩ := id b6
          refine e_aload_n (pc := 39) dX10_same_39 rfl rfl ?_
          refine e_get (pc := 40) fl_X10_67 dX10_same_40 (by repeat (first | assumption | exact hset_eq _ _ _ | (apply WAt.hd; assumption) | rw [hset_ne _ _ (by omega)])) (by rfl) ?_
          refine e_aload_n (pc := 43) dX10_same_43 rfl rfl ?_
          refine e_aload (pc := 44) dX10_same_44 rfl ?_
          refine n_V (pc := 46) (c_X5_countSame a6 w1 v1 wk vk alp c (by omega) (by omega) apd) bX5_countSame q_i_X5_countSame q_s_X5_countSame q_m_X10_243 dX10_same_46 rfl rfl (by repeat (first | assumption | exact hset_eq _ _ _ | (apply WAt.hd; assumption) | rw [hset_ne _ _ (by omega)])) rfl rfl (by exact Nat.le_of_ble_eq_true rfl) ⟨by decide, by decide⟩ ⟨rfl, rfl, Nat.zero_le _, Nat.zero_le _⟩ (fun z h3 hp => ?_)
          obtain ⟨rfl, p2, p3, p4, p5⟩ := hp
          have far : ∀ t, (t < o + 181 + 90 ∨ o + 181 + 104 ≤ t) → t ≠ wa (o + 1) σ a + 2 → t ≠ wa (o + 1) σ b + 2 → h3 t = h2 t := fun t t1 t2 t3 => p5 t (by omega) t2 t3
          have r := hs.two ha hb (fun t t1 t2 t3 t4 t5 t6 t7 t8 => far t t2 t5 t8) (a5.1.far (fun t t1 t2 => far t (by omega) (by omega) (by omega))) p2 ⟨_, p3, w2⟩ ⟨_, p4, v2⟩
          exact n_iret (pc := 49) dX10_same_49 rfl ⟨qT (by rw [ald, cla, decide_eq_true c]; rfl) (by rw [cla, clb]), r.1.1, r.2⟩
        · refine e_iconst (pc := 37) (v := -1) dX10_same_37 (by decide) ?_
          exact n_iret (pc := 38) dX10_same_38 rfl ⟨qF (by rw [cla, decide_eq_false (by omega), Bool.and_false]) rfl, hX, Er.rf _ _ _⟩
    · refine e_astoreN (pc := 17) dX10_same_17 (by decide) ?_
      refine e_aload_n (pc := 19) dX10_same_19 rfl rfl ?_
      refine e_aloadN (pc := 20) dX10_same_20 rfl ?_
      refine n_SP (pc := 22) (c_alike_n2 (wa (o + 1) σ a)) bX10_alike q_st_X10_alike q_m_X10_214 dX10_same_22 rfl rfl (by exact Nat.le_of_ble_eq_true rfl) ⟨by decide, by decide⟩ ⟨rfl, rfl, Nat.zero_le _, Nat.zero_le _⟩ ?_
      refine e_if_eq (pc := 25) (tgt := 37) dX10_same_25 (by decide) (fun _ => no (by unfold alB; rw [hw, Bool.false_and, Bool.and_false]) sz _) (fun q => absurd rfl q)
  · refine e_astore_nN (pc := 8) dX10_same_8 rfl (by decide) ?_
    refine e_aload_n (pc := 9) dX10_same_9 rfl rfl ?_
    refine e_get (pc := 10) fl_X10_10 dX10_same_10 (by repeat (first | assumption | exact hset_eq _ _ _ | (apply WAt.hd; assumption) | rw [hset_ne _ _ (by omega)])) (by rfl) ?_
    refine e_iload_n (pc := 13) dX10_same_13 rfl rfl ?_
    refine n_Vr (pc := 14) (c_X6_world a2 v) bX6_world q_i_X6_world q_s_X6_world q_m_X10_101 dX10_same_14 rfl rfl (by repeat (first | assumption | exact hset_eq _ _ _ | (apply WAt.hd; assumption) | rw [hset_ne _ _ (by omega)])) rfl rfl (by exact Nat.le_of_ble_eq_true rfl) ⟨by decide, by decide⟩ ⟨rfl, rfl, Nat.zero_le _, Nat.zero_le _⟩ (fun r h2 hp => ?_)
    obtain ⟨rfl, hr⟩ := hp
    rcases hr with ⟨b, hb, rfl, rfl⟩ | ⟨hw2, rfl⟩
    · refine e_astore (pc := 17) dX10_same_17 (by decide) ?_
      refine e_aload_nN (pc := 19) dX10_same_19 rfl rfl ?_
      refine e_aload (pc := 20) dX10_same_20 rfl ?_
      refine n_SP (pc := 22) (c_alike_n1 (some (wa (o + 1) σ b))) bX10_alike q_st_X10_alike q_m_X10_214 dX10_same_22 rfl rfl (by exact Nat.le_of_ble_eq_true rfl) ⟨by decide, by decide⟩ ⟨rfl, rfl, Nat.zero_le _, Nat.zero_le _⟩ ?_
      refine e_if_eq (pc := 25) (tgt := 37) dX10_same_25 (by decide) (fun _ => no (by unfold alB; rw [hw, Bool.false_and]) sz _) (fun q => absurd rfl q)
    · refine e_astoreN (pc := 17) dX10_same_17 (by decide) ?_
      refine e_aload_nN (pc := 19) dX10_same_19 rfl rfl ?_
      refine e_aloadN (pc := 20) dX10_same_20 rfl ?_
      refine n_SP (pc := 22) (c_alike_n1 none) bX10_alike q_st_X10_alike q_m_X10_214 dX10_same_22 rfl rfl (by exact Nat.le_of_ble_eq_true rfl) ⟨by decide, by decide⟩ ⟨rfl, rfl, Nat.zero_le _, Nat.zero_le _⟩ ?_
      refine e_if_eq (pc := 25) (tgt := 37) dX10_same_25 (by decide) (fun _ => no (by unfold alB; rw [hw, Bool.false_and]) sz _) (fun q => absurd rfl q)
def Q_iso (x : Sx) (u v z : Int32) : Prop := if (alB x u v && (decide ((wld x u).1 ^ (wld x u).2.1 ≤ 16) && (bl (Div (wld x u)) && (bl (Div (wld x v)) && bl (UnitOf (wld x u) (nI 1)))))) = true then z = nI (isoN (wld x u) (wld x v)) else z = -1
theorem c_X10_isotopes (hX : XAt h o x y ik len f ft fp) (u v : Int32) : CI yX10_isotopes MX10_isotopes [.ref o, .int u, .int v] h (fun z h' => Q_iso x u v z ∧ XAt h' o x y ik len f ft fp ∧ Er o (o + 303) h h') := by
  obtain ⟨a1, ⟨σ, a2⟩, -, -, a5, a6, ⟨S0, a7⟩, -⟩ := id hX
  have hs : XAs h o σ x y ik len f ft fp := ⟨hX, a2⟩
  obtain ⟨s1, -⟩ := id a2.1
  have t5 := a5.1.2.1
  have f5 := a5.1.1.2.1
  have no : alB x u v = false → ∀ (sz : Nat) (l : List (Option Value)), VI MX10_isotopes sz (fun z h' => Q_iso x u v z ∧ XAt h' o x y ik len f ft fp ∧ Er o (o + 303) h h') h 37 l [] := fun q sz l => by
    refine e_iconst (pc := 37) (v := -1) dX10_isotopes_37 (by decide) ?_
    exact n_iret (pc := 38) dX10_isotopes_38 rfl ⟨qF (by rw [q, Bool.false_and]) rfl, hX, Er.rf _ _ _⟩
  refine CI.ofV (by decide) rfl rfl (by simp [Value.category]) (by exact Nat.le_of_ble_eq_true rfl) (fun sz => ?_)
  refine e_aload_n (pc := 0) dX10_isotopes_0 rfl rfl ?_
  refine e_get (pc := 1) fl_X10_10 dX10_isotopes_1 (by repeat (first | assumption | exact hset_eq _ _ _ | (apply WAt.hd; assumption) | rw [hset_ne _ _ (by omega)])) (by rfl) ?_
  refine e_iload_n (pc := 4) dX10_isotopes_4 rfl rfl ?_
  refine n_Vr (pc := 5) (c_X6_world a2 u) bX6_world q_i_X6_world q_s_X6_world q_m_X10_101 dX10_isotopes_5 rfl rfl (by repeat (first | assumption | exact hset_eq _ _ _ | (apply WAt.hd; assumption) | rw [hset_ne _ _ (by omega)])) rfl rfl (by exact Nat.le_of_ble_eq_true rfl) ⟨by decide, by decide⟩ ⟨rfl, rfl, Nat.zero_le _, Nat.zero_le _⟩ (fun r h2 hp => ?_)
  obtain ⟨rfl, hr⟩ := hp
  rcases hr with ⟨a, ha, rfl, rfl⟩ | ⟨hw, rfl⟩
  · refine e_astore_n (pc := 8) dX10_isotopes_8 rfl (by decide) ?_
    refine e_aload_n (pc := 9) dX10_isotopes_9 rfl rfl ?_
    refine e_get (pc := 10) fl_X10_10 dX10_isotopes_10 (by repeat (first | assumption | exact hset_eq _ _ _ | (apply WAt.hd; assumption) | rw [hset_ne _ _ (by omega)])) (by rfl) ?_
    refine e_iload_n (pc := 13) dX10_isotopes_13 rfl rfl ?_
    refine n_Vr (pc := 14) (c_X6_world a2 v) bX6_world q_i_X6_world q_s_X6_world q_m_X10_101 dX10_isotopes_14 rfl rfl (by repeat (first | assumption | exact hset_eq _ _ _ | (apply WAt.hd; assumption) | rw [hset_ne _ _ (by omega)])) rfl rfl (by exact Nat.le_of_ble_eq_true rfl) ⟨by decide, by decide⟩ ⟨rfl, rfl, Nat.zero_le _, Nat.zero_le _⟩ (fun r h2 hp => ?_)
    obtain ⟨rfl, hr⟩ := hp
    rcases hr with ⟨b, hb, rfl, rfl⟩ | ⟨hw, rfl⟩
    · obtain ⟨wf, w1, w2⟩ := a2.w (show a < 26 by omega)
      obtain ⟨vf, v1, v2⟩ := a2.w (show b < 26 by omega)
      have wk := a2.ok (show a < 26 by omega)
      have vk := a2.ok (show b < 26 by omega)
      have nb := wk.b
      have mb := vk.b
      have bda := a2.bd (show a < 26 by omega)
      have bdb := a2.bd (show b < 26 by omega)
      have cla : wld x (nI a) = x.ws a := by unfold wld; rw [cl_nI (by omega)]
      have clb : wld x (nI b) = x.ws b := by unfold wld; rw [cl_nI (by omega)]
      have ald : alB x (nI a) (nI b) = (decide ((x.ws a).1 = (x.ws b).1) && decide ((x.ws a).2.1 = (x.ws b).2.1)) := by unfold alB; rw [ok6 ha, ok6 hb, cla, clb, Bool.true_and, Bool.true_and]
      have apd : wa (o + 1) σ a = wa (o + 1) σ b ∨ wa (o + 1) σ a + 3 ≤ wa (o + 1) σ b ∨ wa (o + 1) σ b + 3 ≤ wa (o + 1) σ a := by
        by_cases e : a = b
        · subst e; exact Or.inl rfl
        · exact Or.inr (a2.ap (show a < 26 by omega) (show b < 26 by omega) e)
      refine e_astore (pc := 17) dX10_isotopes_17 (by decide) ?_
      refine e_aload_n (pc := 19) dX10_isotopes_19 rfl rfl ?_
      refine e_aload (pc := 20) dX10_isotopes_20 rfl ?_
      refine n_SP (pc := 22) (c_alike_ww w1 v1 wk vk) bX10_alike q_st_X10_alike q_m_X10_214 dX10_isotopes_22 rfl rfl (by exact Nat.le_of_ble_eq_true rfl) ⟨by decide, by decide⟩ ⟨rfl, rfl, Nat.zero_le _, Nat.zero_le _⟩ ?_
      cases al : (decide ((x.ws a).1 = (x.ws b).1) && decide ((x.ws a).2.1 = (x.ws b).2.1)) with
      | false =>
        refine e_if_eq (pc := 25) (tgt := 37) dX10_isotopes_25 (by decide) (fun _ => no (ald.trans al) sz _) (fun q => absurd rfl q)
      | true =>
        rw [al] at ald
        have alp : (x.ws b).1 = (x.ws a).1 ∧ (x.ws b).2.1 = (x.ws a).2.1 := by
          simp only [Bool.and_eq_true, decide_eq_true_eq] at al
          exact ⟨al.1.symm, al.2.symm⟩
        refine e_if_eq (pc := 25) (tgt := 37) dX10_isotopes_25 (by decide) (fun q => absurd q (by decide)) (fun _ => ?_)
        refine e_aload_n (pc := 28) dX10_isotopes_28 rfl rfl ?_
        refine n_VP (pc := 29) (c_X9_order w1) bX9_order q_i_X9_order q_s_X9_order q_m_X10_119 dX10_isotopes_29 rfl rfl (by repeat (first | assumption | exact hset_eq _ _ _ | (apply WAt.hd; assumption) | rw [hset_ne _ _ (by omega)])) rfl rfl (by exact Nat.le_of_ble_eq_true rfl) ⟨by decide, by decide⟩ ⟨rfl, rfl, Nat.zero_le _, Nat.zero_le _⟩ ?_
        refine n_bipush (pc := 32) 16 dX10_isotopes_32 (by decide) ?_
        refine n_icmp_le (pc := 34) (tgt := 39) dX10_isotopes_34 (by decide) (by omega) (by omega) (fun c => ?_) (fun c => ?_)
        · have out : ∀ (h4 : AH) (l : List (Option Value)), XAs h4 o σ x y ik len f ft fp → Er o (o + 303) h2 h4 → (bl (Div (x.ws a)) && (bl (Div (x.ws b)) && bl (UnitOf (x.ws a) (nI 1)))) = false → VI MX10_isotopes sz (fun z h' => Q_iso x (nI a) (nI b) z ∧ XAt h' o x y ik len f ft fp ∧ Er o (o + 303) h2 h') h4 74 l [] := fun h4 l q1 q2 q3 => by
            refine e_iconst (pc := 74) (v := -1) dX10_isotopes_74 (by decide) ?_
            exact n_iret (pc := 75) dX10_isotopes_75 rfl ⟨qF (by rw [cla, clb, q3, Bool.and_false, Bool.and_false]) rfl, q1.1, q2⟩
          refine e_aload_n (pc := 39) dX10_isotopes_39 rfl rfl ?_
          refine e_get (pc := 40) fl_X10_51 dX10_isotopes_40 (by repeat (first | assumption | exact hset_eq _ _ _ | (apply WAt.hd; assumption) | rw [hset_ne _ _ (by omega)])) (by rfl) ?_
          refine e_aload_n (pc := 43) dX10_isotopes_43 rfl rfl ?_
          refine n_V (pc := 44) (c_X7_divides a5.1 w1 wk w2 (by omega)) bX7_divides q_i_X7_divides q_s_X7_divides q_m_X10_150 dX10_isotopes_44 rfl rfl (by repeat (first | assumption | exact hset_eq _ _ _ | (apply WAt.hd; assumption) | rw [hset_ne _ _ (by omega)])) rfl rfl (by exact Nat.le_of_ble_eq_true rfl) ⟨by decide, by decide⟩ ⟨rfl, rfl, Nat.zero_le _, Nat.zero_le _⟩ (fun z h3 hp => ?_)
          obtain ⟨hz, ⟨g2, p1, p2⟩, p3, p4⟩ := hp
          have r3 := hs.fr ha p4 p3 p2 p1
          rcases hz with ⟨hD, rfl⟩ | ⟨hD, rfl⟩
          · refine e_if_eq (pc := 47) (tgt := 74) dX10_isotopes_47 (by decide) (fun q => absurd q (by decide)) (fun _ => ?_)
            obtain ⟨b1, b5, b6, -⟩ := r3.1.get
            have t5 := b5.1.2.1
            obtain ⟨vf3, v1, v2⟩ := r3.1.2.w (show b < 26 by omega)
            refine e_aload_n (pc := 50) dX10_isotopes_50 rfl rfl ?_
            refine e_get (pc := 51) fl_X10_51 dX10_isotopes_51 (by repeat (first | assumption | exact hset_eq _ _ _ | (apply WAt.hd; assumption) | rw [hset_ne _ _ (by omega)])) (by rfl) ?_
            refine e_aload (pc := 54) dX10_isotopes_54 rfl ?_
            refine n_V (pc := 56) (c_X7_divides b5.1 v1 vk v2 (by omega)) bX7_divides q_i_X7_divides q_s_X7_divides q_m_X10_150 dX10_isotopes_56 rfl rfl (by repeat (first | assumption | exact hset_eq _ _ _ | (apply WAt.hd; assumption) | rw [hset_ne _ _ (by omega)])) rfl rfl (by exact Nat.le_of_ble_eq_true rfl) ⟨by decide, by decide⟩ ⟨rfl, rfl, Nat.zero_le _, Nat.zero_le _⟩ (fun z h4 hp => ?_)
            obtain ⟨hz, ⟨g4, p1, p2⟩, p3, p4⟩ := hp
            have r4 := r3.1.fr hb p4 p3 p2 p1
            rcases hz with ⟨hD2, rfl⟩ | ⟨hD2, rfl⟩
            · refine e_if_eq (pc := 59) (tgt := 74) dX10_isotopes_59 (by decide) (fun q => absurd q (by decide)) (fun _ => ?_)
              obtain ⟨b1, b5, b6, -⟩ := r4.1.get
              have t5 := b5.1.2.1
              obtain ⟨wf4, w1, w2⟩ := r4.1.2.w (show a < 26 by omega)
              refine e_aload_n (pc := 62) dX10_isotopes_62 rfl rfl ?_
              refine e_get (pc := 63) fl_X10_51 dX10_isotopes_63 (by repeat (first | assumption | exact hset_eq _ _ _ | (apply WAt.hd; assumption) | rw [hset_ne _ _ (by omega)])) (by rfl) ?_
              refine e_aload_n (pc := 66) dX10_isotopes_66 rfl rfl ?_
              refine n_V (pc := 67) (c_X7_unit b5.1 w1 wk (by omega)) bX7_unit q_i_X7_unit q_s_X7_unit q_m_X10_158 dX10_isotopes_67 rfl rfl (by repeat (first | assumption | exact hset_eq _ _ _ | (apply WAt.hd; assumption) | rw [hset_ne _ _ (by omega)])) rfl rfl (by exact Nat.le_of_ble_eq_true rfl) ⟨by decide, by decide⟩ ⟨rfl, rfl, Nat.zero_le _, Nat.zero_le _⟩ (fun z h5 hp => ?_)
              obtain ⟨hz, p2, p3⟩ := hp
              have r5 := r4.1.fr ha p3.fr (b5.1.es p3 (by omega)) p2 w2
              refine n_iconst (pc := 70) 1 dX10_isotopes_70 (by decide) ?_
              refine e_icmp_eq (pc := 71) (tgt := 76) dX10_isotopes_71 (by decide) (fun q => ?_) (fun q => ?_)
              · subst q
                obtain ⟨b1, b5, b6, -⟩ := r5.1.get
                have b7 := b6.1
                obtain ⟨_, _, _, _, _, b8⟩ := id b7
                obtain ⟨wf5, w1, w2⟩ := r5.1.2.w (show a < 26 by omega)
                obtain ⟨vf5, v1, v2⟩ := r5.1.2.w (show b < 26 by omega)
                refine e_aload_n (pc := 76) dX10_isotopes_76 rfl rfl ?_
                refine e_get (pc := 77) fl_X10_67 dX10_isotopes_77 (by repeat (first | assumption | exact hset_eq _ _ _ | (apply WAt.hd; assumption) | rw [hset_ne _ _ (by omega)])) (by rfl) ?_
                refine e_aload_n (pc := 80) dX10_isotopes_80 rfl rfl ?_
                refine e_aload (pc := 81) dX10_isotopes_81 rfl ?_
                refine n_V (pc := 83) (c_X5_countIsotopes b6 w1 v1 wk vk alp hD2 c (by omega) (by omega) apd) bX5_countIsotopes q_i_X5_countIsotopes q_s_X5_countIsotopes q_m_X10_246 dX10_isotopes_83 rfl rfl (by repeat (first | assumption | exact hset_eq _ _ _ | (apply WAt.hd; assumption) | rw [hset_ne _ _ (by omega)])) rfl rfl (by exact Nat.le_of_ble_eq_true rfl) ⟨by decide, by decide⟩ ⟨rfl, rfl, Nat.zero_le _, Nat.zero_le _⟩ (fun z h6 hp => ?_)
                obtain ⟨rfl, p2, p3, p4, p5⟩ := hp
                have far : ∀ t, (t < o + 181 + 90 ∨ o + 181 + 104 ≤ t) → t ≠ wa (o + 1) σ a + 2 → t ≠ wa (o + 1) σ b + 2 → h6 t = h5 t := fun t t1 t2 t3 => p5 t (by omega) t2 t3
                have r := r5.1.two ha hb (fun t t1 t2 t3 t4 t5 t6 t7 t8 => far t t2 t5 t8) (b5.1.far (fun t t1 t2 => far t (by omega) (by omega) (by omega))) p2 ⟨_, p3, w2⟩ ⟨_, p4, v2⟩
                exact n_iret (pc := 86) dX10_isotopes_86 rfl ⟨qT (by rw [ald, cla, clb, decide_eq_true c, bl_t hD, bl_t hD2, bl_t hz]; rfl) (by rw [cla, clb]), r.1.1, ((r3.2.tr r4.2).tr r5.2).tr r.2⟩
              · exact out h5 _ r5.1 ((r3.2.tr r4.2).tr r5.2) (by rw [bl_f (P := UnitOf (x.ws a) (nI 1)) (fun z => q (UnitOf_uni hz z)), Bool.and_false, Bool.and_false])
            · refine e_if_eq (pc := 59) (tgt := 74) dX10_isotopes_59 (by decide) (fun _ => ?_) (fun q => absurd rfl q)
              exact out h4 _ r4.1 (r3.2.tr r4.2) (by rw [bl_f hD2, Bool.false_and, Bool.and_false])
          · refine e_if_eq (pc := 47) (tgt := 74) dX10_isotopes_47 (by decide) (fun _ => ?_) (fun q => absurd rfl q)
            exact out h3 _ r3.1 r3.2 (by rw [bl_f hD, Bool.false_and])
        · refine e_iconst (pc := 37) (v := -1) dX10_isotopes_37 (by decide) ?_
          exact n_iret (pc := 38) dX10_isotopes_38 rfl ⟨qF (by rw [cla, decide_eq_false (by omega), Bool.false_and, Bool.and_false]) rfl, hX, Er.rf _ _ _⟩
    · refine e_astoreN (pc := 17) dX10_isotopes_17 (by decide) ?_
      refine e_aload_n (pc := 19) dX10_isotopes_19 rfl rfl ?_
      refine e_aloadN (pc := 20) dX10_isotopes_20 rfl ?_
      refine n_SP (pc := 22) (c_alike_n2 (wa (o + 1) σ a)) bX10_alike q_st_X10_alike q_m_X10_214 dX10_isotopes_22 rfl rfl (by exact Nat.le_of_ble_eq_true rfl) ⟨by decide, by decide⟩ ⟨rfl, rfl, Nat.zero_le _, Nat.zero_le _⟩ ?_
      refine e_if_eq (pc := 25) (tgt := 37) dX10_isotopes_25 (by decide) (fun _ => no (by unfold alB; rw [hw, Bool.false_and, Bool.and_false]) sz _) (fun q => absurd rfl q)
  · refine e_astore_nN (pc := 8) dX10_isotopes_8 rfl (by decide) ?_
    refine e_aload_n (pc := 9) dX10_isotopes_9 rfl rfl ?_
    refine e_get (pc := 10) fl_X10_10 dX10_isotopes_10 (by repeat (first | assumption | exact hset_eq _ _ _ | (apply WAt.hd; assumption) | rw [hset_ne _ _ (by omega)])) (by rfl) ?_
    refine e_iload_n (pc := 13) dX10_isotopes_13 rfl rfl ?_
    refine n_Vr (pc := 14) (c_X6_world a2 v) bX6_world q_i_X6_world q_s_X6_world q_m_X10_101 dX10_isotopes_14 rfl rfl (by repeat (first | assumption | exact hset_eq _ _ _ | (apply WAt.hd; assumption) | rw [hset_ne _ _ (by omega)])) rfl rfl (by exact Nat.le_of_ble_eq_true rfl) ⟨by decide, by decide⟩ ⟨rfl, rfl, Nat.zero_le _, Nat.zero_le _⟩ (fun r h2 hp => ?_)
    obtain ⟨rfl, hr⟩ := hp
    rcases hr with ⟨b, hb, rfl, rfl⟩ | ⟨hw2, rfl⟩
    · refine e_astore (pc := 17) dX10_isotopes_17 (by decide) ?_
      refine e_aload_nN (pc := 19) dX10_isotopes_19 rfl rfl ?_
      refine e_aload (pc := 20) dX10_isotopes_20 rfl ?_
      refine n_SP (pc := 22) (c_alike_n1 (some (wa (o + 1) σ b))) bX10_alike q_st_X10_alike q_m_X10_214 dX10_isotopes_22 rfl rfl (by exact Nat.le_of_ble_eq_true rfl) ⟨by decide, by decide⟩ ⟨rfl, rfl, Nat.zero_le _, Nat.zero_le _⟩ ?_
      refine e_if_eq (pc := 25) (tgt := 37) dX10_isotopes_25 (by decide) (fun _ => no (by unfold alB; rw [hw, Bool.false_and]) sz _) (fun q => absurd rfl q)
    · refine e_astoreN (pc := 17) dX10_isotopes_17 (by decide) ?_
      refine e_aload_nN (pc := 19) dX10_isotopes_19 rfl rfl ?_
      refine e_aloadN (pc := 20) dX10_isotopes_20 rfl ?_
      refine n_SP (pc := 22) (c_alike_n1 none) bX10_alike q_st_X10_alike q_m_X10_214 dX10_isotopes_22 rfl rfl (by exact Nat.le_of_ble_eq_true rfl) ⟨by decide, by decide⟩ ⟨rfl, rfl, Nat.zero_le _, Nat.zero_le _⟩ ?_
      refine e_if_eq (pc := 25) (tgt := 37) dX10_isotopes_25 (by decide) (fun _ => no (by unfold alB; rw [hw, Bool.false_and]) sz _) (fun q => absurd rfl q)
end XH
