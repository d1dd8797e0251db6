/-! ===== the reference: maps told, looks, the image, the tape ===== -/
theorem nI_nng {t : Int32} (h : ¬ t < 0) : ∃ j, j < 2 ^ 31 ∧ t = nI j := by
  have h0 : 0 ≤ t.toInt := by
    have := Int32.not_lt.mp h
    rw [Int32.le_iff_toInt_le] at this
    exact this
  have h1 := Int32.toInt_lt t
  refine ⟨t.toInt.toNat, by omega, ?_⟩
  apply Int32.toInt_inj.1
  rw [nI_toInt (by omega)]
  omega
theorem inB_nI {j a b : Nat} (hj : j < 2 ^ 31) (ha : a < 2 ^ 31) (hb : b < 2 ^ 31) : inB (nI j) (nI a) (nI b) = decide (a ≤ j ∧ j ≤ b) := by
  have e1 : (nI j < nI a) ↔ j < a := by rw [Int32.lt_iff_toInt_lt, nI_toInt (by omega), nI_toInt (by omega)]; omega
  have e2 : (nI b < nI j) ↔ b < j := by rw [Int32.lt_iff_toInt_lt, nI_toInt (by omega), nI_toInt (by omega)]; omega
  unfold inB
  by_cases c : j < a
  · rw [decide_eq_true (e1.2 c), decide_eq_false (show ¬ (a ≤ j ∧ j ≤ b) by omega)]; rfl
  · rw [decide_eq_false (fun q => c (e1.1 q))]
    by_cases d : b < j
    · rw [decide_eq_true (e2.2 d), decide_eq_false (show ¬ (a ≤ j ∧ j ≤ b) by omega)]; rfl
    · rw [decide_eq_false (fun q => d (e2.1 q)), decide_eq_true (show a ≤ j ∧ j ≤ b by omega)]; rfl
theorem inB_lt {t a b : Int32} (h : t < a) : inB t a b = false := by
  unfold inB
  rw [decide_eq_true h]; rfl
theorem WR.cg {g g2 : Nat → Int32} {x : Sx} (q : WR g x) (hx : SxOk x) (e : ∀ t, t < 6070 → g2 t = g t) : WR g2 x := by
  obtain ⟨r1, r2, r3, r4, r5, r6⟩ := q
  have hu := hx.2.2.2
  exact ⟨fun k hk => (r1 k hk).kp (fun t t1 t2 => e t (by omega)), fun t ht => (e _ (by omega)).trans (r2 t ht), (e _ (by omega)).trans r3, (e _ (by omega)).trans r4, fun a ha => ⟨(e _ (by omega)).trans (r5 a ha).1, (r5 a ha).2.kp (fun t t1 t2 => e t (by omega))⟩, fun r hr => ⟨(e _ (by omega)).trans (r6 r hr).1, (r6 r hr).2.kp (fun t t1 t2 => e t (by omega))⟩⟩
section M7
variable {h : AH} {m : Nat} {x y : Sx} {ik : Bool} {len : Nat} {f : Nat → Nat} {ft fp : Int32}
theorem c_X11_map (hX : MAt h m x y ik len f ft fp) (hx : SxOk x) (a i v : Int32) : CI yX11_map MX11_map [.ref m, .int a, .int i, .int v] h (fun z h' => ∃ x2, QS_map x a i v z x2 ∧ MAt h' m x2 y ik len f ft fp ∧ Er m (m + 107) h h') := by
  obtain ⟨⟨p, n, q, s, hM, hs⟩, hR, ⟨g, hw, hg⟩, -⟩ := id hX
  have no : tOk a i v = false → ∀ (sz : Nat) (l : List (Option Value)), VI MX11_map sz (fun z h' => ∃ x2, QS_map x a i v z x2 ∧ MAt h' m x2 y ik len f ft fp ∧ Er m (m + 107) h h') h 29 l [] := fun q sz l => by
    refine n_iconst (pc := 29) 0 dX11_map_29 (by decide) ?_
    exact n_zret (pc := 30) dX11_map_30 rfl rfl ⟨x, qF q ⟨rfl, rfl⟩, hX, Er.rf _ _ _⟩
  refine CI.ofV (by decide) rfl rfl (by simp [Value.category]) (by exact Nat.le_of_ble_eq_true rfl) (fun sz => ?_)
  refine e_iload_n (pc := 0) dX11_map_0 rfl rfl ?_
  refine n_iconst (pc := 1) 0 dX11_map_1 (by decide) ?_
  refine n_iconst (pc := 2) 2 dX11_map_2 (by decide) ?_
  refine n_SP (pc := 3) (c_X11_isIn a (nI 0) (nI 2)) bX11_isIn q_st_X11_isIn q_m_X11_98 dX11_map_3 rfl rfl (by exact Nat.le_of_ble_eq_true rfl) ⟨by decide, by decide⟩ ⟨rfl, rfl, Nat.zero_le _, Nat.zero_le _⟩ ?_
  rw [inB_ok (by decide)]
  refine n_bif_eq (pc := 6) (tgt := 29) dX11_map_6 (by decide) (fun c1 => ?_) (fun c1 => ?_)
  · exact no (by unfold tOk; rw [c1]; rfl) sz _
  refine e_iload_n (pc := 9) dX11_map_9 rfl rfl ?_
  refine n_iconst (pc := 10) 0 dX11_map_10 (by decide) ?_
  refine n_iconst (pc := 11) 4 dX11_map_11 (by decide) ?_
  refine n_SP (pc := 12) (c_X11_isIn i (nI 0) (nI 4)) bX11_isIn q_st_X11_isIn q_m_X11_98 dX11_map_12 rfl rfl (by exact Nat.le_of_ble_eq_true rfl) ⟨by decide, by decide⟩ ⟨rfl, rfl, Nat.zero_le _, Nat.zero_le _⟩ ?_
  rw [inB_ok (by decide)]
  refine n_bif_eq (pc := 15) (tgt := 29) dX11_map_15 (by decide) (fun c2 => ?_) (fun c2 => ?_)
  · exact no (by unfold tOk; rw [c2, Bool.and_false]; rfl) sz _
  refine e_iload_n (pc := 18) dX11_map_18 rfl rfl ?_
  refine n_iconst (pc := 19) 0 dX11_map_19 (by decide) ?_
  refine n_sipush (pc := 20) 242 dX11_map_20 (by decide) ?_
  refine n_SP (pc := 23) (c_X11_isIn v (nI 0) (nI 242)) bX11_isIn q_st_X11_isIn q_m_X11_98 dX11_map_23 rfl rfl (by exact Nat.le_of_ble_eq_true rfl) ⟨by decide, by decide⟩ ⟨rfl, rfl, Nat.zero_le _, Nat.zero_le _⟩ ?_
  rw [inB_ok (by decide)]
  refine n_bif_ne (pc := 26) (tgt := 31) dX11_map_26 (by decide) (fun c3 => ?_) (fun c3 => no (by unfold tOk; rw [c3, Bool.and_false]) sz _)
  obtain ⟨a', ha, rfl⟩ := okI_of (by decide) c1
  obtain ⟨i', hi, rfl⟩ := okI_of (by decide) c2
  refine e_aload_n (pc := 31) dX11_map_31 rfl rfl ?_
  refine e_get (pc := 32) fl_X11_7 dX11_map_32 (by repeat (first | assumption | exact hset_eq _ _ _ | (apply Lay.hd; assumption) | rw [hset_ne _ _ (by omega)])) (by rfl) ?_
  refine n_sipush (pc := 35) 800 dX11_map_35 (by decide) ?_
  refine n_iconst (pc := 38) 5 dX11_map_38 (by decide) ?_
  refine e_iload_n (pc := 39) dX11_map_39 rfl rfl ?_
  refine n_imul (pc := 40) dX11_map_40 ?_
  refine n_iadd (pc := 41) dX11_map_41 ?_
  refine e_iload_n (pc := 42) dX11_map_42 rfl rfl ?_
  refine n_iadd (pc := 43) dX11_map_43 ?_
  refine e_iload_n (pc := 44) dX11_map_44 rfl rfl ?_
  refine e_iastN (pc := 45) (800 + 5 * a' + i') dX11_map_45 (by repeat (first | assumption | exact hset_eq _ _ _ | (apply Lay.hd; assumption) | rw [hset_ne _ _ (by omega)])) (by rfl) (by omega) (by first | decide | omega) ?_
  refine n_iconst (pc := 46) 1 dX11_map_46 (by decide) ?_
  obtain ⟨r1, r2, r3, r4, r5, r6⟩ := id hg
  have e : ∀ t, t ≠ 800 + 5 * a' + i' → upd g (800 + 5 * a' + i') v t = g t := fun t ht => pk_un ht
  have hu := hx.2.2.2
  have q3 : WR (upd g (800 + 5 * a' + i') v) (x.tell (5 * a' + i') v) := by
    refine ⟨fun k hk => (r1 k hk).kp (fun t t1 t2 => e t (by omega)), fun t ht => ?_, (e _ (by omega)).trans r3, (e _ (by omega)).trans r4, fun a ha => ⟨(e _ (by omega)).trans (r5 a ha).1, (r5 a ha).2.kp (fun t t1 t2 => e t (by omega))⟩, fun r hr => ⟨(e _ (by omega)).trans (r6 r hr).1, (r6 r hr).2.kp (fun t t1 t2 => e t (by omega))⟩⟩
    show _ = if t = 5 * a' + i' then v else x.2.2.1 t
    by_cases c : t = 5 * a' + i'
    · rw [if_pos c, c, show 800 + (5 * a' + i') = 800 + 5 * a' + i' by omega, pk_us]
    · rw [if_neg c, e _ (by omega)]; exact r2 t ht
  have up := hX.nw rfl q3
  exact n_zret (pc := 47) dX11_map_47 rfl rfl ⟨_, qT (by unfold tOk; rw [c1, c2, c3]; rfl) ⟨rfl, by rw [cl_nI (by omega), cl_nI (by omega)]⟩, up⟩
theorem c_X11_look (hX : MAt h m x y ik len f ft fp) (t : Int32) : CI yX11_look MX11_look [.ref m, .int t] h (fun z h' => Q_look x t z ∧ h' = h) := by
  obtain ⟨⟨p, n, q, s, hM, hs⟩, hR, ⟨g, hw, r1, r2, r3, r4, -⟩, -⟩ := id hX
  refine CI.ofV (by decide) rfl rfl (by simp [Value.category]) (by exact Nat.le_of_ble_eq_true rfl) (fun sz => ?_)
  refine e_iload_n (pc := 0) dX11_look_0 rfl rfl ?_
  refine e_if_ne (pc := 1) (tgt := 15) dX11_look_1 (by decide) (fun q => ?_) (fun q => ?_)
  · refine e_iload_n (pc := 15) dX11_look_15 rfl rfl ?_
    refine n_iconst (pc := 16) 1 dX11_look_16 (by decide) ?_
    refine e_icmp_ne (pc := 17) (tgt := 31) dX11_look_17 (by decide) (fun q1 => ?_) (fun q1 => ?_)
    · have no : ∀ z, z = (-1 : Int32) → (¬ t < nI 10 → imA x (t - nI 10) = -1) → Q_look x t z := fun z hz hi => by
        unfold Q_look
        rw [if_neg (fun z => q (z.trans nI_0)), if_neg q1]
        by_cases c : t < nI 10
        · rw [if_pos c]; exact hz
        · rw [if_neg c, hi c]; exact hz
      refine e_iload_n (pc := 31) dX11_look_31 rfl rfl ?_
      refine n_bipush (pc := 32) 10 dX11_look_32 (by decide) ?_
      refine n_bipush (pc := 34) 24 dX11_look_34 (by decide) ?_
      refine n_SP (pc := 36) (c_X11_isIn t (nI 10) (nI 24)) bX11_isIn q_st_X11_isIn q_m_X11_98 dX11_look_36 rfl rfl (by exact Nat.le_of_ble_eq_true rfl) ⟨by decide, by decide⟩ ⟨rfl, rfl, Nat.zero_le _, Nat.zero_le _⟩ ?_
      refine n_bif_eq (pc := 39) (tgt := 58) dX11_look_39 (by decide) (fun c => ?_) (fun c => ?_)
      · refine e_iconst (pc := 58) (v := -1) dX11_look_58 (by decide) ?_
        refine n_iret (pc := 59) dX11_look_59 rfl ⟨no _ rfl (fun d => ?_), rfl⟩
        obtain ⟨j, hj, rfl⟩ := nI_nng (t := t) (fun z => d (Int32.lt_trans z (by decide)))
        rw [inB_nI hj (by decide) (by decide)] at c
        have c' := of_decide_eq_false c
        have d' : 10 ≤ j := by
          rw [Int32.not_lt, Int32.le_iff_toInt_le, nI_toInt (by omega), nI_toInt (by omega)] at d
          omega
        have e : nI j - nI 10 = nI (j - 10) := by
          have := pk_sub (a := j) (b := 10) d'
          exact this
        rw [e]
        unfold imA
        rw [okI_nI (by omega) (by decide), if_neg (by rw [decide_eq_true_eq]; omega)]
      · obtain ⟨j, hj, rfl⟩ := nI_nng (t := t) (fun z => by
          rw [inB_lt (Int32.lt_trans z (by decide))] at c
          cases c)
        rw [inB_nI hj (by decide) (by decide)] at c
        have c' := of_decide_eq_true c
        have z := r2 (j - 10) (by omega)
        refine e_aload_n (pc := 42) dX11_look_42 rfl rfl ?_
        refine e_get (pc := 43) fl_X11_7 dX11_look_43 (by repeat (first | assumption | exact hset_eq _ _ _ | (apply Lay.hd; assumption) | rw [hset_ne _ _ (by omega)])) (by rfl) ?_
        refine n_sipush (pc := 46) 800 dX11_look_46 (by decide) ?_
        refine e_iload_n (pc := 49) dX11_look_49 rfl rfl ?_
        refine n_iadd (pc := 50) dX11_look_50 ?_
        refine n_bipush (pc := 51) 10 dX11_look_51 (by decide) ?_
        refine n_isub (pc := 53) dX11_look_53 (by omega) ?_
        refine e_ialdN (pc := 54) (800 + j - 10) dX11_look_54 (by repeat (first | assumption | exact hset_eq _ _ _ | (apply Lay.hd; assumption) | rw [hset_ne _ _ (by omega)])) (by rfl) (by omega) (by first | decide | omega) ?_
        rw [show 800 + j - 10 = 800 + (j - 10) by omega, z]
        refine e_goto (pc := 55) (tgt := 59) dX11_look_55 (by decide) ?_
        refine n_iret (pc := 59) dX11_look_59 rfl ⟨?_, rfl⟩
        unfold Q_look
        rw [if_neg (fun z => q (z.trans nI_0)), if_neg q1, if_neg (by rw [Int32.lt_iff_toInt_lt, nI_toInt (by omega), nI_toInt (by omega)]; omega)]
        have e : nI j - nI 10 = nI (j - 10) := by
          have := pk_sub (a := j) (b := 10) c'.1
          exact this
        rw [e, imA_nI (by omega)]
    · refine e_aload_n (pc := 20) dX11_look_20 rfl rfl ?_
      refine e_get (pc := 21) fl_X11_7 dX11_look_21 (by repeat (first | assumption | exact hset_eq _ _ _ | (apply Lay.hd; assumption) | rw [hset_ne _ _ (by omega)])) (by rfl) ?_
      refine n_sipush (pc := 24) 821 dX11_look_24 (by decide) ?_
      refine e_ialdN (pc := 27) 821 dX11_look_27 (by repeat (first | assumption | exact hset_eq _ _ _ | (apply Lay.hd; assumption) | rw [hset_ne _ _ (by omega)])) (by rfl) (by omega) (by first | decide | omega) ?_
      rw [r4]
      refine e_goto (pc := 28) (tgt := 59) dX11_look_28 (by decide) ?_
      refine n_iret (pc := 59) dX11_look_59 rfl ⟨?_, rfl⟩
      unfold Q_look
      rw [if_neg (fun z => q (z.trans nI_0)), if_pos q1]
  · refine e_aload_n (pc := 4) dX11_look_4 rfl rfl ?_
    refine e_get (pc := 5) fl_X11_7 dX11_look_5 (by repeat (first | assumption | exact hset_eq _ _ _ | (apply Lay.hd; assumption) | rw [hset_ne _ _ (by omega)])) (by rfl) ?_
    refine n_sipush (pc := 8) 820 dX11_look_8 (by decide) ?_
    refine e_ialdN (pc := 11) 820 dX11_look_11 (by repeat (first | assumption | exact hset_eq _ _ _ | (apply Lay.hd; assumption) | rw [hset_ne _ _ (by omega)])) (by rfl) (by omega) (by first | decide | omega) ?_
    rw [r3]
    refine e_goto (pc := 12) (tgt := 59) dX11_look_12 (by decide) ?_
    refine n_iret (pc := 59) dX11_look_59 rfl ⟨?_, rfl⟩
    unfold Q_look
    rw [if_pos (q.trans nI_0.symm)]
theorem c_X11_fault (hX : MAt h m x y ik len f ft fp) (t : Int32) : CI yX11_fault MX11_fault [.ref m, .int t] h (fun z h' => Q_fault ft fp t z ∧ h' = h) := by
  obtain ⟨⟨p, n, q, s, hM, s1, s2, s3, s4, s5⟩, -⟩ := id hX
  refine CI.ofV (by decide) rfl rfl (by simp [Value.category]) (by exact Nat.le_of_ble_eq_true rfl) (fun sz => ?_)
  refine e_iload_n (pc := 0) dX11_fault_0 rfl rfl ?_
  refine e_if_ne (pc := 1) (tgt := 11) dX11_fault_1 (by decide) (fun q => ?_) (fun q => ?_)
  · refine e_iload_n (pc := 11) dX11_fault_11 rfl rfl ?_
    refine n_iconst (pc := 12) 1 dX11_fault_12 (by decide) ?_
    refine e_icmp_ne (pc := 13) (tgt := 23) dX11_fault_13 (by decide) (fun q1 => ?_) (fun q1 => ?_)
    · refine e_iconst (pc := 23) (v := -1) dX11_fault_23 (by decide) ?_
      refine n_iret (pc := 24) dX11_fault_24 rfl ⟨?_, rfl⟩
      unfold Q_fault
      rw [if_neg (fun z => q (z.trans nI_0)), if_neg q1]
    · refine e_aload_n (pc := 16) dX11_fault_16 rfl rfl ?_
      refine e_get (pc := 17) fl_X11_37 dX11_fault_17 (by repeat (first | assumption | exact hset_eq _ _ _ | (apply Lay.hd; assumption) | rw [hset_ne _ _ (by omega)])) (by rfl) ?_
      refine e_goto (pc := 20) (tgt := 24) dX11_fault_20 (by decide) ?_
      refine n_iret (pc := 24) dX11_fault_24 rfl ⟨?_, rfl⟩
      unfold Q_fault
      rw [if_neg (fun z => q (z.trans nI_0)), if_pos q1, s4]
  · refine e_aload_n (pc := 4) dX11_fault_4 rfl rfl ?_
    refine e_get (pc := 5) fl_X11_251 dX11_fault_5 (by repeat (first | assumption | exact hset_eq _ _ _ | (apply Lay.hd; assumption) | rw [hset_ne _ _ (by omega)])) (by rfl) ?_
    refine e_goto (pc := 8) (tgt := 24) dX11_fault_8 (by decide) ?_
    refine n_iret (pc := 24) dX11_fault_24 rfl ⟨?_, rfl⟩
    unfold Q_fault
    rw [if_pos (q.trans nI_0.symm), s3]
theorem c_X11_end (hX : MAt h m x y ik len f ft fp) (n : Int32) : CI yX11_end MX11_end [.ref m, .int n] h (fun z h' => ((∃ k, n = nI k ∧ k ≤ len ∧ z = 1 ∧ MAt h' m x y ik k f ft fp) ∨ (okI n (len + 1) = false ∧ z = 0 ∧ MAt h' m x y ik len f ft fp)) ∧ Er m (m + 107) h h') := by
  obtain ⟨⟨p, n0, q, s, hM, s1, s2, s3, s4, s5⟩, hR, ⟨g, a1, a2⟩, ⟨g2, a3, a4⟩, a5, g3, a6, a7⟩ := id hX
  obtain ⟨t1, t2⟩ := s
  obtain ⟨t2, t3⟩ := t2
  have s2 : t2 = len := s2
  subst s2
  refine CI.ofV (by decide) rfl rfl (by simp [Value.category]) (by exact Nat.le_of_ble_eq_true rfl) (fun sz => ?_)
  refine e_iload_n (pc := 0) dX11_end_0 rfl rfl ?_
  refine n_iconst (pc := 1) 0 dX11_end_1 (by decide) ?_
  refine e_aload_n (pc := 2) dX11_end_2 rfl rfl ?_
  refine e_get (pc := 3) fl_X11_157 dX11_end_3 (by repeat (first | assumption | exact hset_eq _ _ _ | (apply Lay.hd; assumption) | rw [hset_ne _ _ (by omega)])) (by rfl) ?_
  refine n_SP (pc := 6) (c_X11_isIn n (nI 0) (nI t2)) bX11_isIn q_st_X11_isIn q_m_X11_98 dX11_end_6 rfl rfl (by exact Nat.le_of_ble_eq_true rfl) ⟨by decide, by decide⟩ ⟨rfl, rfl, Nat.zero_le _, Nat.zero_le _⟩ ?_
  rw [inB_ok (by omega)]
  refine n_bif_ne (pc := 9) (tgt := 14) dX11_end_9 (by decide) (fun c => ?_) (fun c => ?_)
  · obtain ⟨k, hk, rfl⟩ := okI_of (by omega) c
    refine e_aload_n (pc := 14) dX11_end_14 rfl rfl ?_
    refine e_iload_n (pc := 15) dX11_end_15 rfl rfl ?_
    refine e_put (pc := 16) pl_X11_157 dX11_end_16 (by repeat (first | assumption | exact hset_eq _ _ _ | (apply Lay.hd; assumption) | rw [hset_ne _ _ (by omega)])) (by rfl) (by rfl) (by exact Nat.le_of_ble_eq_true rfl) ?_
    refine n_iconst (pc := 19) 1 dX11_end_19 (by decide) ?_
    refine n_zret (pc := 20) dX11_end_20 rfl rfl ⟨Or.inl ⟨k, rfl, by omega, rfl, ⟨p, n0, q, (t1, k, t3), hset_eq _ _ _, s1, rfl, s3, s4, s5⟩, hR.hd, ⟨g, (hset_ne _ _ (by omega)).trans a1, a2⟩, ⟨g2, (hset_ne _ _ (by omega)).trans a3, a4⟩, by omega, g3, (hset_ne _ _ (by omega)).trans a6, fun j hj => a7 j (by omega)⟩, (Er.rf _ _ h).set (by omega)⟩
  · refine n_iconst (pc := 12) 0 dX11_end_12 (by decide) ?_
    exact n_zret (pc := 13) dX11_end_13 rfl rfl ⟨Or.inr ⟨c, rfl, hX⟩, Er.rf _ _ _⟩
end M7
