/-! ===== Plane: places, lines, meetings ===== -/
section MM
variable {M : MI} {Post : Option Value → AH → Nat → Prop} {al : Nat × Nat × Nat} {h : AH} {pc : Nat} {ls : List (Option Value)} {st : List Value}
theorem e_mmax {idx : Nat} {x y : Int32} (hlk : (Cond.methodLink (MI.own M) idx Lib.Math.max.name) ∈ lw_good) (hd : decode (MI.cc M) pc = .ok (.invokestatic idx, 3)) (hdp : 1 ≤ MI.dp M) (hst : (st.map fun v => v.category).sum ≤ 8) (hr : al.2.1 ≤ MI.mc M ∧ al.2.2 ≤ MI.ms M)
    (k : V M Post al h (pc + 3) ls (.int (if x < y then y else x) :: st)) : V M Post al h pc ls (.int y :: .int x :: st) := by
  intro G p l e R s m args below meth c Q A H locs lsA hX hF hA hK hT hP hz hd2 hS hl
  obtain ⟨hx, hb, hml, hown, hts, hR1, hR2, hR3, hR4, -⟩ := id hX
  have hls : lsA.size = MI.nL M := hl.choose_spec.1.1
  exact va_mmax hx hb (by rw [hml, ← hls]) hown (hts _ hlk) (hts _ q_st_J9_max_7cf53) (hts _ q_in_J9) (hts _ q_c_J9_max_7cf53) (by omega) (by omega) (by omega) (by omega) hd (k G p l e R s m args below meth c Q A H locs lsA hX hF hA hK hT hP hz hd2 hS hl)
theorem e_mmin {idx : Nat} {x y : Int32} (hlk : (Cond.methodLink (MI.own M) idx Lib.Math.min.name) ∈ lw_good) (hd : decode (MI.cc M) pc = .ok (.invokestatic idx, 3)) (hdp : 1 ≤ MI.dp M) (hst : (st.map fun v => v.category).sum ≤ 8) (hr : al.2.1 ≤ MI.mc M ∧ al.2.2 ≤ MI.ms M)
    (k : V M Post al h (pc + 3) ls (.int (if y < x then y else x) :: st)) : V M Post al h pc ls (.int y :: .int x :: st) := by
  intro G p l e R s m args below meth c Q A H locs lsA hX hF hA hK hT hP hz hd2 hS hl
  obtain ⟨hx, hb, hml, hown, hts, hR1, hR2, hR3, hR4, -⟩ := id hX
  have hls : lsA.size = MI.nL M := hl.choose_spec.1.1
  exact va_mmin hx hb (by rw [hml, ← hls]) hown (hts _ hlk) (hts _ q_st_J9_min_7cf53) (hts _ q_in_J9) (hts _ q_c_J9_min_7cf53) (by omega) (by omega) (by omega) (by omega) hd (k G p l e R s m args below meth c Q A H locs lsA hX hF hA hK hT hP hz hd2 hS hl)
theorem n_mmax {idx : Nat} {x y : Nat} (hlk : (Cond.methodLink (MI.own M) idx Lib.Math.max.name) ∈ lw_good) (hd : decode (MI.cc M) pc = .ok (.invokestatic idx, 3)) (hdp : 1 ≤ MI.dp M) (hx : x < 2 ^ 31) (hy : y < 2 ^ 31) (hst : (st.map fun v => v.category).sum ≤ 8) (hr : al.2.1 ≤ MI.mc M ∧ al.2.2 ≤ MI.ms M)
    (k : V M Post al h (pc + 3) ls (.int (nI (max x y)) :: st)) : V M Post al h pc ls (.int (nI y) :: .int (nI x) :: st) := by
  refine e_mmax hlk hd hdp hst hr ?_
  have e : (if nI x < nI y then nI y else nI x) = nI (max x y) := by
    by_cases c : x < y
    · rw [if_pos ((nI_ltI hx hy).mpr c), Nat.max_eq_right (by omega)]
    · rw [if_neg (fun q => c ((nI_ltI hx hy).mp q)), Nat.max_eq_left (by omega)]
  rw [e]
  exact k
theorem n_mmin {idx : Nat} {x y : Nat} (hlk : (Cond.methodLink (MI.own M) idx Lib.Math.min.name) ∈ lw_good) (hd : decode (MI.cc M) pc = .ok (.invokestatic idx, 3)) (hdp : 1 ≤ MI.dp M) (hx : x < 2 ^ 31) (hy : y < 2 ^ 31) (hst : (st.map fun v => v.category).sum ≤ 8) (hr : al.2.1 ≤ MI.mc M ∧ al.2.2 ≤ MI.ms M)
    (k : V M Post al h (pc + 3) ls (.int (nI (min x y)) :: st)) : V M Post al h pc ls (.int (nI y) :: .int (nI x) :: st) := by
  refine e_mmin hlk hd hdp hst hr ?_
  have e : (if nI y < nI x then nI y else nI x) = nI (min x y) := by
    by_cases c : y < x
    · rw [if_pos ((nI_ltI hy hx).mpr c), Nat.min_eq_right (by omega)]
    · rw [if_neg (fun q => c ((nI_ltI hy hx).mp q)), Nat.min_eq_left (by omega)]
  rw [e]
  exact k
end MM
section PB
variable {h : AH} {E o : Nat} {W : Wd} {f : Int32}
def PSh (h : AH) (E : Nat) : Prop := TSh h E ∧ h (E + 89) = some (ob 3 [.ref (E + 83)])
theorem PSh.es {h2 : AH} (q : PSh h E) (e : Es o h h2) (d : o + 3 ≤ E ∨ E + 90 ≤ o) : PSh h2 E := ⟨q.1.es e (by omega), (e _ (by omega)).trans q.2⟩
theorem PSh.ft {h2 : AH} (q : PSh h E) (s : TSh h2 E) (e : Ft E o h h2) (d : o + 3 ≤ E ∨ E + 90 ≤ o) : PSh h2 E := ⟨s, (e _ (by omega) (by omega) (by omega)).trans q.2⟩
theorem qq_le (hk : Wok W) : W.o * W.o ≤ 59049 ∧ W.o ≤ 243 ∧ 1 ≤ W.o ∧ lastP W ≤ 59292 := by
  obtain ⟨b1, b2, b3, b4, b5⟩ := hk.b
  have h1 : W.o * W.o ≤ 243 * 243 := Nat.mul_le_mul b5 b5
  have h2 : 1 ≤ W.o := hk.pos
  refine ⟨by omega, b5, h2, ?_⟩
  unfold lastP
  have : W.o ≤ 243 := b5
  omega
theorem c_X3_last (hW : WAt h o W f) : CP yX3_last MX3_last [.ref o] h (nI (lastP W)) := by
  obtain ⟨w0, -⟩ := id hW
  refine CI.ofV (by decide) rfl rfl (by simp [Value.category]) (by exact Nat.le_of_ble_eq_true rfl) (fun sz => ?_)
  refine e_aload_n (pc := 0) dX3_last_0 rfl rfl ?_
  refine n_VP (pc := 1) (c_X9_order hW) bX9_order q_i_X9_order q_s_X9_order q_m_X3_19 dX3_last_1 rfl rfl (by repeat (first | assumption | exact hset_eq _ _ _ | rw [hset_ne _ _ (by omega)])) rfl rfl (by exact Nat.le_of_ble_eq_true rfl) ⟨by decide, by decide⟩ ⟨rfl, rfl, Nat.zero_le _, Nat.zero_le _⟩ ?_
  refine e_aload_n (pc := 4) dX3_last_4 rfl rfl ?_
  refine n_VP (pc := 5) (c_X9_order hW) bX9_order q_i_X9_order q_s_X9_order q_m_X3_19 dX3_last_5 rfl rfl (by repeat (first | assumption | exact hset_eq _ _ _ | rw [hset_ne _ _ (by omega)])) rfl rfl (by exact Nat.le_of_ble_eq_true rfl) ⟨by decide, by decide⟩ ⟨rfl, rfl, Nat.zero_le _, Nat.zero_le _⟩ ?_
  refine n_imul (pc := 8) dX3_last_8 ?_
  refine e_aload_n (pc := 9) dX3_last_9 rfl rfl ?_
  refine n_VP (pc := 10) (c_X9_order hW) bX9_order q_i_X9_order q_s_X9_order q_m_X3_19 dX3_last_10 rfl rfl (by repeat (first | assumption | exact hset_eq _ _ _ | rw [hset_ne _ _ (by omega)])) rfl rfl (by exact Nat.le_of_ble_eq_true rfl) ⟨by decide, by decide⟩ ⟨rfl, rfl, Nat.zero_le _, Nat.zero_le _⟩ ?_
  refine n_iadd (pc := 13) dX3_last_13 ?_
  exact n_iret (pc := 14) dX3_last_14 rfl ⟨rfl, rfl⟩
theorem c_X3_hasPlace {T : Nat} (hW : WAt h o W f) (hk : Wok W) (u : Int32) : CP yX3_hasPlace MX3_hasPlace [.ref T, .ref o, .int u] h (bI (okI u (lastP W + 1))) := by
  obtain ⟨w0, -⟩ := id hW
  have q := qq_le hk
  refine CI.ofV (by decide) rfl rfl (by simp [Value.category]) (by exact Nat.le_of_ble_eq_true rfl) (fun sz => ?_)
  refine e_iload_n (pc := 0) dX3_hasPlace_0 rfl rfl ?_
  refine e_if_lt (pc := 1) (tgt := 16) dX3_hasPlace_1 (by decide) (fun c => ?_) (fun c => ?_)
  · refine n_iconst (pc := 16) 0 dX3_hasPlace_16 (by decide) ?_
    exact n_zret (pc := 17) dX3_hasPlace_17 rfl rfl ⟨by rw [okI_lt c]; rfl, rfl⟩
  refine e_iload_n (pc := 4) dX3_hasPlace_4 rfl rfl ?_
  refine e_aload_n (pc := 5) dX3_hasPlace_5 rfl rfl ?_
  refine n_SP (pc := 6) (c_X3_last hW) bX3_last q_st_X3_last q_m_X3_15 dX3_hasPlace_6 rfl rfl (by exact Nat.le_of_ble_eq_true rfl) ⟨by decide, by decide⟩ ⟨rfl, rfl, Nat.zero_le _, Nat.zero_le _⟩ ?_
  refine e_icmp_gt (pc := 9) (tgt := 16) dX3_hasPlace_9 (by decide) (fun c2 => ?_) (fun c2 => ?_)
  · refine n_iconst (pc := 16) 0 dX3_hasPlace_16 (by decide) ?_
    exact n_zret (pc := 17) dX3_hasPlace_17 rfl rfl ⟨by rw [okI_ge ((nI_le2 (by omega)).mp c2)]; rfl, rfl⟩
  · refine n_iconst (pc := 12) 1 dX3_hasPlace_12 (by decide) ?_
    refine e_goto (pc := 13) (tgt := 17) dX3_hasPlace_13 (by decide) ?_
    exact n_zret (pc := 17) dX3_hasPlace_17 rfl rfl ⟨by rw [okI_in c (fun z => c2 ((nI_le2 (by omega)).mpr z))]; rfl, rfl⟩
theorem c_X3_height {l x T : Nat} (hW : WAt h o W f) (hk : Wok W) (hl : l < W.o * W.o) (hx : x < W.o) : CI yX3_height MX3_height [.ref T, .ref o, .int (nI l), .int (nI x)] h (fun z h' => z = nI (hgt W l x) ∧ WAt h' o W f ∧ Es o h h') := by
  obtain ⟨w0, -⟩ := id hW
  have q := qq_le hk
  obtain ⟨b1, b2, b3, b4, b5⟩ := hk.b
  have q5 : W.1 ^ W.2.1 ≤ W.1 ^ 5 := Nat.pow_le_pow_right (by omega) b4
  have hl1 : l / W.o < W.o := Nat.div_lt_of_lt_mul hl
  have hl2 : l % W.o < W.o := Nat.mod_lt _ (by omega)
  have m1 := mul_lt hk (l / W.o) x
  have e9 : W.o = W.1 ^ W.2.1 := rfl
  refine CI.ofV (by decide) rfl rfl (by simp [Value.category]) (by exact Nat.le_of_ble_eq_true rfl) (fun sz => ?_)
  refine e_aload_n (pc := 0) dX3_height_0 rfl rfl ?_
  refine n_VP (pc := 1) (c_X9_order hW) bX9_order q_i_X9_order q_s_X9_order q_m_X3_19 dX3_height_1 rfl rfl (by repeat (first | assumption | exact hset_eq _ _ _ | rw [hset_ne _ _ (by omega)])) rfl rfl (by exact Nat.le_of_ble_eq_true rfl) ⟨by decide, by decide⟩ ⟨rfl, rfl, Nat.zero_le _, Nat.zero_le _⟩ ?_
  refine e_istore (pc := 4) dX3_height_4 (by decide) ?_
  refine e_iload (pc := 6) dX3_height_6 rfl ?_
  refine n_iconst (pc := 8) 1 dX3_height_8 (by decide) ?_
  refine n_icmp_ge (pc := 9) (tgt := 16) dX3_height_9 (by decide) (by omega) (by omega) (fun hb_ => ?_) (fun c => absurd c (by omega))
  refine e_aload_n (pc := 16) dX3_height_16 rfl rfl ?_
  refine n_VP (pc := 17) (c_X9_prime hW) bX9_prime q_i_X9_prime q_s_X9_prime q_m_X3_29 dX3_height_17 rfl rfl (by repeat (first | assumption | exact hset_eq _ _ _ | rw [hset_ne _ _ (by omega)])) rfl rfl (by exact Nat.le_of_ble_eq_true rfl) ⟨by decide, by decide⟩ ⟨rfl, rfl, Nat.zero_le _, Nat.zero_le _⟩ ?_
  refine e_aload_n (pc := 20) dX3_height_20 rfl rfl ?_
  refine e_iload_n (pc := 21) dX3_height_21 rfl rfl ?_
  refine e_iload (pc := 22) dX3_height_22 rfl ?_
  refine n_idiv (pc := 24) dX3_height_24 (by omega) (by omega) (by omega) ?_
  refine e_iload_n (pc := 25) dX3_height_25 rfl rfl ?_
  refine n_V (pc := 26) (c_X9_times2 hW hk (show l / W.o < 3125 by omega) (show x < 3125 by omega)) bX9_times q_i_X9_times q_s_X9_times q_m_X3_32 dX3_height_26 rfl rfl (by repeat (first | assumption | exact hset_eq _ _ _ | rw [hset_ne _ _ (by omega)])) rfl rfl (by exact Nat.le_of_ble_eq_true rfl) ⟨by decide, by decide⟩ ⟨rfl, rfl, Nat.zero_le _, Nat.zero_le _⟩ (fun z h2 hp => ?_)
  obtain ⟨rfl, p1, p2⟩ := hp
  refine e_iload_n (pc := 29) dX3_height_29 rfl rfl ?_
  refine e_iload (pc := 30) dX3_height_30 rfl ?_
  refine n_irem (pc := 32) dX3_height_32 (by omega) (by omega) (by omega) ?_
  refine n_SP (pc := 33) (c_X8_plus b1 b2 (show mul W (l / W.o) x < W.1 ^ 5 by omega) (show l % W.o < W.1 ^ 5 by omega)) bX8_plus q_st_X8_plus q_m_X3_36 dX3_height_33 rfl rfl (by exact Nat.le_of_ble_eq_true rfl) ⟨by decide, by decide⟩ ⟨rfl, rfl, Nat.zero_le _, Nat.zero_le _⟩ ?_
  exact n_iret (pc := 36) dX3_height_36 rfl ⟨rfl, p1, p2⟩
theorem c_X3_through {m u T : Nat} (hW : WAt h o W f) (hk : Wok W) (hm : m < W.o) (hu : u < W.o * W.o) : CI yX3_through MX3_through [.ref T, .ref o, .int (nI m), .int (nI u)] h (fun z h' => z = nI (thr W m u) ∧ WAt h' o W f ∧ Es o h h') := by
  obtain ⟨w0, -⟩ := id hW
  have q := qq_le hk
  obtain ⟨b1, b2, b3, b4, b5⟩ := hk.b
  have q5 : W.1 ^ W.2.1 ≤ W.1 ^ 5 := Nat.pow_le_pow_right (by omega) b4
  have hl1 : u / W.o < W.o := Nat.div_lt_of_lt_mul hu
  have hl2 : u % W.o < W.o := Nat.mod_lt _ (by omega)
  have m1 := mul_lt hk m (u / W.o)
  have e9 : W.o = W.1 ^ W.2.1 := rfl
  refine CI.ofV (by decide) rfl rfl (by simp [Value.category]) (by exact Nat.le_of_ble_eq_true rfl) (fun sz => ?_)
  refine e_aload_n (pc := 0) dX3_through_0 rfl rfl ?_
  refine n_VP (pc := 1) (c_X9_order hW) bX9_order q_i_X9_order q_s_X9_order q_m_X3_19 dX3_through_1 rfl rfl (by repeat (first | assumption | exact hset_eq _ _ _ | rw [hset_ne _ _ (by omega)])) rfl rfl (by exact Nat.le_of_ble_eq_true rfl) ⟨by decide, by decide⟩ ⟨rfl, rfl, Nat.zero_le _, Nat.zero_le _⟩ ?_
  refine e_istore (pc := 4) dX3_through_4 (by decide) ?_
  refine e_iload (pc := 6) dX3_through_6 rfl ?_
  refine n_iconst (pc := 8) 1 dX3_through_8 (by decide) ?_
  refine n_icmp_ge (pc := 9) (tgt := 16) dX3_through_9 (by decide) (by omega) (by omega) (fun hb_ => ?_) (fun c => absurd c (by omega))
  refine e_iload (pc := 16) dX3_through_16 rfl ?_
  refine e_iload_n (pc := 18) dX3_through_18 rfl rfl ?_
  refine n_imul (pc := 19) dX3_through_19 ?_
  refine e_aload_n (pc := 20) dX3_through_20 rfl rfl ?_
  refine n_VP (pc := 21) (c_X9_prime hW) bX9_prime q_i_X9_prime q_s_X9_prime q_m_X3_29 dX3_through_21 rfl rfl (by repeat (first | assumption | exact hset_eq _ _ _ | rw [hset_ne _ _ (by omega)])) rfl rfl (by exact Nat.le_of_ble_eq_true rfl) ⟨by decide, by decide⟩ ⟨rfl, rfl, Nat.zero_le _, Nat.zero_le _⟩ ?_
  refine e_iload_n (pc := 24) dX3_through_24 rfl rfl ?_
  refine e_iload (pc := 25) dX3_through_25 rfl ?_
  refine n_irem (pc := 27) dX3_through_27 (by omega) (by omega) (by omega) ?_
  refine e_aload_n (pc := 28) dX3_through_28 rfl rfl ?_
  refine e_iload_n (pc := 29) dX3_through_29 rfl rfl ?_
  refine e_iload_n (pc := 30) dX3_through_30 rfl rfl ?_
  refine e_iload (pc := 31) dX3_through_31 rfl ?_
  refine n_idiv (pc := 33) dX3_through_33 (by omega) (by omega) (by omega) ?_
  refine n_V (pc := 34) (c_X9_times2 hW hk (show m < 3125 by omega) (show u / W.o < 3125 by omega)) bX9_times q_i_X9_times q_s_X9_times q_m_X3_32 dX3_through_34 rfl rfl (by repeat (first | assumption | exact hset_eq _ _ _ | rw [hset_ne _ _ (by omega)])) rfl rfl (by exact Nat.le_of_ble_eq_true rfl) ⟨by decide, by decide⟩ ⟨rfl, rfl, Nat.zero_le _, Nat.zero_le _⟩ (fun z h2 hp => ?_)
  obtain ⟨rfl, p1, p2⟩ := hp
  refine n_SP (pc := 37) (c_X8_less b1 b2 (show u % W.o < W.1 ^ 5 by omega) (show mul W m (u / W.o) < W.1 ^ 5 by omega)) bX8_less q_st_X8_less q_m_X3_42 dX3_through_37 rfl rfl (by exact Nat.le_of_ble_eq_true rfl) ⟨by decide, by decide⟩ ⟨rfl, rfl, Nat.zero_le _, Nat.zero_le _⟩ ?_
  refine n_iadd (pc := 40) dX3_through_40 ?_
  exact n_iret (pc := 41) dX3_through_41 rfl ⟨rfl, p1, p2⟩
theorem c_X3_isOn {u l : Nat} (hP : PSh h E) (hW : WAt h o W f) (hk : Wok W) (hu : u ≤ lastP W) (hl : l ≤ lastP W) : CI yX3_isOn MX3_isOn [.ref (E + 89), .ref o, .int (nI u), .int (nI l)] h (fun z h' => isB z (OnP W u l) ∧ WAt h' o W f ∧ Es o h h') := by
  obtain ⟨w0, -⟩ := id hW
  obtain ⟨-, t0⟩ := id hP
  have q := qq_le hk
  have e9 : W.o = W.1 ^ W.2.1 := rfl
  have hq1 : W.1 ^ W.2.1 * W.1 ^ W.2.1 = W.o * W.o := rfl
  have dl := Nat.div_le_self l (W.1 ^ W.2.1)
  have du := Nat.div_le_self u (W.1 ^ W.2.1)
  refine CI.ofV (by decide) rfl rfl (by simp [Value.category]) (by exact Nat.le_of_ble_eq_true rfl) (fun sz => ?_)
  refine e_aload_n (pc := 0) dX3_isOn_0 rfl rfl ?_
  refine n_VP (pc := 1) (c_X9_order hW) bX9_order q_i_X9_order q_s_X9_order q_m_X3_19 dX3_isOn_1 rfl rfl (by repeat (first | assumption | exact hset_eq _ _ _ | rw [hset_ne _ _ (by omega)])) rfl rfl (by exact Nat.le_of_ble_eq_true rfl) ⟨by decide, by decide⟩ ⟨rfl, rfl, Nat.zero_le _, Nat.zero_le _⟩ ?_
  refine e_istore (pc := 4) dX3_isOn_4 (by decide) ?_
  refine e_iload (pc := 6) dX3_isOn_6 rfl ?_
  refine e_iload (pc := 8) dX3_isOn_8 rfl ?_
  refine n_imul (pc := 10) dX3_isOn_10 ?_
  refine e_istore (pc := 11) dX3_isOn_11 (by decide) ?_
  refine e_iload (pc := 13) dX3_isOn_13 rfl ?_
  refine n_iconst (pc := 15) 1 dX3_isOn_15 (by decide) ?_
  refine n_icmp_ge (pc := 16) (tgt := 21) dX3_isOn_16 (by decide) (by omega) (by omega) (fun hb_ => ?_) (fun c => absurd c (by omega))
  refine e_iload_n (pc := 21) dX3_isOn_21 rfl rfl ?_
  refine e_iload (pc := 22) dX3_isOn_22 rfl ?_
  refine n_icmp_lt (pc := 24) (tgt := 72) dX3_isOn_24 (by decide) (by omega) (by omega) (fun c1 => ?_) (fun c1 => ?_)
  · refine e_iload_n (pc := 72) dX3_isOn_72 rfl rfl ?_
    refine e_iload (pc := 73) dX3_isOn_73 rfl ?_
    refine n_icmp_lt (pc := 75) (tgt := 95) dX3_isOn_75 (by decide) (by omega) (by omega) (fun c2 => ?_) (fun c2 => ?_)
    · refine e_iload_n (pc := 95) dX3_isOn_95 rfl rfl ?_
      refine e_iload (pc := 96) dX3_isOn_96 rfl ?_
      refine n_irem (pc := 98) dX3_isOn_98 (by omega) (by omega) (by omega) ?_
      refine e_aload_n (pc := 99) dX3_isOn_99 rfl rfl ?_
      refine e_aload_n (pc := 100) dX3_isOn_100 rfl rfl ?_
      refine e_iload_n (pc := 101) dX3_isOn_101 rfl rfl ?_
      refine e_iload_n (pc := 102) dX3_isOn_102 rfl rfl ?_
      refine e_iload (pc := 103) dX3_isOn_103 rfl ?_
      refine n_idiv (pc := 105) dX3_isOn_105 (by omega) (by omega) (by omega) ?_
      have hu1 : u / W.o < W.o := Nat.div_lt_of_lt_mul (by omega)
      have hm := Nat.mod_lt u (show 0 < W.1 ^ W.2.1 by omega)
      have hh := hgt_lt hk l (u / W.o)
      refine n_V (pc := 106) (c_X3_height hW hk (show l < W.o * W.o by omega) hu1) bX3_height q_i_X3_height q_s_X3_height q_m_X3_25 dX3_isOn_106 rfl rfl (by repeat (first | assumption | exact hset_eq _ _ _ | rw [hset_ne _ _ (by omega)])) rfl rfl (by exact Nat.le_of_ble_eq_true rfl) ⟨by decide, by decide⟩ ⟨rfl, rfl, Nat.zero_le _, Nat.zero_le _⟩ (fun z h2 hp => ?_)
      obtain ⟨rfl, p1, p2⟩ := hp
      refine n_icmp_ne (pc := 109) (tgt := 116) dX3_isOn_109 (by decide) (by omega) (by omega) (fun c3 => ?_) (fun c3 => ?_)
      · refine n_iconst (pc := 116) 0 dX3_isOn_116 (by decide) ?_
        refine n_zret (pc := 117) dX3_isOn_117 rfl rfl ⟨Or.inr ⟨?_, rfl⟩, p1, p2⟩
        unfold OnP
        rw [if_neg (by omega), if_neg (by omega)]
        exact c3
      · refine n_iconst (pc := 112) 1 dX3_isOn_112 (by decide) ?_
        refine e_goto (pc := 113) (tgt := 117) dX3_isOn_113 (by decide) ?_
        refine n_zret (pc := 117) dX3_isOn_117 rfl rfl ⟨Or.inl ⟨?_, rfl⟩, p1, p2⟩
        unfold OnP
        rw [if_neg (by omega), if_neg (by omega)]
        exact c3
    · refine e_iload_n (pc := 78) dX3_isOn_78 rfl rfl ?_
      refine e_iload (pc := 79) dX3_isOn_79 rfl ?_
      refine n_isub (pc := 81) dX3_isOn_81 (by omega) ?_
      refine e_iload_n (pc := 82) dX3_isOn_82 rfl rfl ?_
      refine e_iload (pc := 83) dX3_isOn_83 rfl ?_
      refine n_idiv (pc := 85) dX3_isOn_85 (by omega) (by omega) (by omega) ?_
      refine n_icmp_ne (pc := 86) (tgt := 93) dX3_isOn_86 (by decide) (by omega) (by omega) (fun c3 => ?_) (fun c3 => ?_)
      · refine n_iconst (pc := 93) 0 dX3_isOn_93 (by decide) ?_
        refine n_zret (pc := 94) dX3_isOn_94 rfl rfl ⟨Or.inr ⟨?_, rfl⟩, hW, Es.rf o h⟩
        unfold OnP
        rw [if_neg (by omega), if_pos (by omega)]
        exact c3
      · refine n_iconst (pc := 89) 1 dX3_isOn_89 (by decide) ?_
        refine e_goto (pc := 90) (tgt := 94) dX3_isOn_90 (by decide) ?_
        refine n_zret (pc := 94) dX3_isOn_94 rfl rfl ⟨Or.inl ⟨?_, rfl⟩, hW, Es.rf o h⟩
        unfold OnP
        rw [if_neg (by omega), if_pos (by omega)]
        exact c3
  · refine e_iload_n (pc := 27) dX3_isOn_27 rfl rfl ?_
    refine e_iload (pc := 28) dX3_isOn_28 rfl ?_
    refine n_icmp_lt (pc := 30) (tgt := 55) dX3_isOn_30 (by decide) (by omega) (by omega) (fun c2 => ?_) (fun c2 => ?_)
    · refine e_iload_n (pc := 55) dX3_isOn_55 rfl rfl ?_
      refine e_iload (pc := 56) dX3_isOn_56 rfl ?_
      refine n_isub (pc := 58) dX3_isOn_58 (by omega) ?_
      refine e_iload_n (pc := 59) dX3_isOn_59 rfl rfl ?_
      refine e_iload (pc := 60) dX3_isOn_60 rfl ?_
      refine n_idiv (pc := 62) dX3_isOn_62 (by omega) (by omega) (by omega) ?_
      refine n_icmp_ne (pc := 63) (tgt := 70) dX3_isOn_63 (by decide) (by omega) (by omega) (fun c3 => ?_) (fun c3 => ?_)
      · refine n_iconst (pc := 70) 0 dX3_isOn_70 (by decide) ?_
        refine n_zret (pc := 71) dX3_isOn_71 rfl rfl ⟨Or.inr ⟨?_, rfl⟩, hW, Es.rf o h⟩
        unfold OnP
        rw [if_pos (by omega), if_neg (by omega)]
        exact c3
      · refine n_iconst (pc := 66) 1 dX3_isOn_66 (by decide) ?_
        refine e_goto (pc := 67) (tgt := 71) dX3_isOn_67 (by decide) ?_
        refine n_zret (pc := 71) dX3_isOn_71 rfl rfl ⟨Or.inl ⟨?_, rfl⟩, hW, Es.rf o h⟩
        unfold OnP
        rw [if_pos (by omega), if_neg (by omega)]
        exact c3
    · refine e_iload_n (pc := 33) dX3_isOn_33 rfl rfl ?_
      refine e_aload_n (pc := 34) dX3_isOn_34 rfl rfl ?_
      refine n_SP (pc := 35) (c_X3_last hW) bX3_last q_st_X3_last q_m_X3_15 dX3_isOn_35 rfl rfl (by exact Nat.le_of_ble_eq_true rfl) ⟨by decide, by decide⟩ ⟨rfl, rfl, Nat.zero_le _, Nat.zero_le _⟩ ?_
      refine n_icmp_eq (pc := 38) (tgt := 49) dX3_isOn_38 (by decide) (by omega) (by omega) (fun c3 => ?_) (fun c3 => ?_)
      · refine n_iconst (pc := 49) 1 dX3_isOn_49 (by decide) ?_
        refine e_goto (pc := 50) (tgt := 54) dX3_isOn_50 (by decide) ?_
        refine n_zret (pc := 54) dX3_isOn_54 rfl rfl ⟨Or.inl ⟨?_, rfl⟩, hW, Es.rf o h⟩
        unfold OnP
        rw [if_pos (by omega), if_pos (by omega)]
        exact Or.inl c3
      · refine e_iload_n (pc := 41) dX3_isOn_41 rfl rfl ?_
        refine e_aload_n (pc := 42) dX3_isOn_42 rfl rfl ?_
        refine n_SP (pc := 43) (c_X3_last hW) bX3_last q_st_X3_last q_m_X3_15 dX3_isOn_43 rfl rfl (by exact Nat.le_of_ble_eq_true rfl) ⟨by decide, by decide⟩ ⟨rfl, rfl, Nat.zero_le _, Nat.zero_le _⟩ ?_
        refine n_icmp_ne (pc := 46) (tgt := 53) dX3_isOn_46 (by decide) (by omega) (by omega) (fun c4 => ?_) (fun c4 => ?_)
        · refine n_iconst (pc := 53) 0 dX3_isOn_53 (by decide) ?_
          refine n_zret (pc := 54) dX3_isOn_54 rfl rfl ⟨Or.inr ⟨?_, rfl⟩, hW, Es.rf o h⟩
          unfold OnP
          rw [if_pos (by omega), if_pos (by omega)]
          exact fun z => z.elim c3 c4
        · refine n_iconst (pc := 49) 1 dX3_isOn_49 (by decide) ?_
          refine e_goto (pc := 50) (tgt := 54) dX3_isOn_50 (by decide) ?_
          refine n_zret (pc := 54) dX3_isOn_54 rfl rfl ⟨Or.inl ⟨?_, rfl⟩, hW, Es.rf o h⟩
          unfold OnP
          rw [if_pos (by omega), if_pos (by omega)]
          exact Or.inr c4
theorem c_X3_join {u v : Nat} (hP : PSh h E) (hW : WAt h o W f) (hk : Wok W) (hD : Div W) (hu : u ≤ lastP W) (hv : v ≤ lastP W) (d : o + 3 ≤ E ∨ E + 90 ≤ o) : CI yX3_join MX3_join [.ref (E + 89), .ref o, .int (nI u), .int (nI v)] h (fun z h' => z = nI (jnP W u v) ∧ PSh h' E ∧ WAt h' o W f ∧ Ft E o h h') := by
  obtain ⟨w0, -⟩ := id hW
  obtain ⟨hT, t0⟩ := id hP
  have q := qq_le hk
  obtain ⟨b1, b2, b3, b4, b5⟩ := hk.b
  have q5 : W.1 ^ W.2.1 ≤ W.1 ^ 5 := Nat.pow_le_pow_right (by omega) b4
  have hq1 : W.1 ^ W.2.1 * W.1 ^ W.2.1 = W.o * W.o := rfl
  have e9 : W.o = W.1 ^ W.2.1 := rfl
  have hL : lastP W = W.o * W.o + W.o := rfl
  refine CI.ofV (by decide) rfl rfl (by simp [Value.category]) (by exact Nat.le_of_ble_eq_true rfl) (fun sz => ?_)
  refine e_iload_n (pc := 0) dX3_join_0 rfl rfl ?_
  refine e_iload_n (pc := 1) dX3_join_1 rfl rfl ?_
  refine n_mmin (pc := 2) q_m_X3_45 dX3_join_2 (by decide) (by omega) (by omega) (by exact Nat.le_of_ble_eq_true rfl) ⟨Nat.zero_le _, Nat.zero_le _⟩ ?_
  refine e_istore (pc := 5) dX3_join_5 (by decide) ?_
  refine e_iload_n (pc := 7) dX3_join_7 rfl rfl ?_
  refine e_iload_n (pc := 8) dX3_join_8 rfl rfl ?_
  refine n_mmax (pc := 9) q_m_X3_50 dX3_join_9 (by decide) (by omega) (by omega) (by exact Nat.le_of_ble_eq_true rfl) ⟨Nat.zero_le _, Nat.zero_le _⟩ ?_
  have mm : min u v ≤ max u v ∧ max u v ≤ lastP W := by omega
  have hj : jnP W u v = jnL W (min u v) (max u v) := rfl
  rw [hj]
  generalize min u v = lo at *
  generalize max u v = hi at *
  obtain ⟨m1, m2⟩ := mm
  have dl := Nat.div_le_self lo (W.1 ^ W.2.1)
  have du := Nat.div_le_self hi (W.1 ^ W.2.1)
  refine e_istore (pc := 12) dX3_join_12 (by decide) ?_
  refine e_aload_n (pc := 14) dX3_join_14 rfl rfl ?_
  refine n_VP (pc := 15) (c_X9_order hW) bX9_order q_i_X9_order q_s_X9_order q_m_X3_19 dX3_join_15 rfl rfl (by repeat (first | assumption | exact hset_eq _ _ _ | rw [hset_ne _ _ (by omega)])) rfl rfl (by exact Nat.le_of_ble_eq_true rfl) ⟨by decide, by decide⟩ ⟨rfl, rfl, Nat.zero_le _, Nat.zero_le _⟩ ?_
  refine e_istore (pc := 18) dX3_join_18 (by decide) ?_
  refine e_iload (pc := 20) dX3_join_20 rfl ?_
  refine e_iload (pc := 22) dX3_join_22 rfl ?_
  refine n_imul (pc := 24) dX3_join_24 ?_
  refine e_istore (pc := 25) dX3_join_25 (by decide) ?_
  refine e_iload (pc := 27) dX3_join_27 rfl ?_
  refine n_iconst (pc := 29) 1 dX3_join_29 (by decide) ?_
  refine n_icmp_lt (pc := 30) (tgt := 40) dX3_join_30 (by decide) (by omega) (by omega) (fun c => absurd c (by omega)) (fun hb_ => ?_)
  refine e_iload (pc := 33) dX3_join_33 rfl ?_
  refine e_iload (pc := 35) dX3_join_35 rfl ?_
  unfold jnL
  refine n_icmp_lt (pc := 37) (tgt := 45) dX3_join_37 (by decide) (by omega) (by omega) (fun c1 => ?_) (fun c1 => ?_)
  · refine e_iload (pc := 45) dX3_join_45 rfl ?_
    refine e_aload_n (pc := 47) dX3_join_47 rfl rfl ?_
    refine n_SP (pc := 48) (c_X3_last hW) bX3_last q_st_X3_last q_m_X3_15 dX3_join_48 rfl rfl (by exact Nat.le_of_ble_eq_true rfl) ⟨by decide, by decide⟩ ⟨rfl, rfl, Nat.zero_le _, Nat.zero_le _⟩ ?_
    have hl1 : lo / W.o < W.o := Nat.div_lt_of_lt_mul (by omega)
    refine n_icmp_ne (pc := 51) (tgt := 63) dX3_join_51 (by decide) (by omega) (by omega) (fun c2 => ?_) (fun c2 => ?_)
    · refine e_iload (pc := 63) dX3_join_63 rfl ?_
      refine e_iload (pc := 65) dX3_join_65 rfl ?_
      refine n_icmp_lt (pc := 67) (tgt := 83) dX3_join_67 (by decide) (by omega) (by omega) (fun c3 => ?_) (fun c3 => ?_)
      · refine e_iload (pc := 83) dX3_join_83 rfl ?_
        refine e_iload (pc := 85) dX3_join_85 rfl ?_
        refine n_idiv (pc := 87) dX3_join_87 (by omega) (by omega) (by omega) ?_
        refine e_iload (pc := 88) dX3_join_88 rfl ?_
        refine e_iload (pc := 90) dX3_join_90 rfl ?_
        refine n_idiv (pc := 92) dX3_join_92 (by omega) (by omega) (by omega) ?_
        have hh1 : hi / W.o < W.o := Nat.div_lt_of_lt_mul (by omega)
        have hm1 : lo % W.o < W.o := Nat.mod_lt lo (show 0 < W.1 ^ W.2.1 by omega)
        have hm2 : hi % W.o < W.o := Nat.mod_lt hi (show 0 < W.1 ^ W.2.1 by omega)
        refine n_icmp_ne (pc := 93) (tgt := 105) dX3_join_93 (by decide) (by omega) (by omega) (fun c4 => ?_) (fun c4 => ?_)
        · refine e_aload_n (pc := 105) dX3_join_105 rfl rfl ?_
          refine n_VP (pc := 106) (c_X9_prime hW) bX9_prime q_i_X9_prime q_s_X9_prime q_m_X3_29 dX3_join_106 rfl rfl (by repeat (first | assumption | exact hset_eq _ _ _ | rw [hset_ne _ _ (by omega)])) rfl rfl (by exact Nat.le_of_ble_eq_true rfl) ⟨by decide, by decide⟩ ⟨rfl, rfl, Nat.zero_le _, Nat.zero_le _⟩ ?_
          refine e_iload (pc := 109) dX3_join_109 rfl ?_
          refine e_iload (pc := 111) dX3_join_111 rfl ?_
          refine n_idiv (pc := 113) dX3_join_113 (by omega) (by omega) (by omega) ?_
          refine e_iload (pc := 114) dX3_join_114 rfl ?_
          refine e_iload (pc := 116) dX3_join_116 rfl ?_
          refine n_idiv (pc := 118) dX3_join_118 (by omega) (by omega) (by omega) ?_
          refine n_SP (pc := 119) (c_X8_less b1 b2 (show lo / W.o < W.1 ^ 5 by omega) (show hi / W.o < W.1 ^ 5 by omega)) bX8_less q_st_X8_less q_m_X3_42 dX3_join_119 rfl rfl (by exact Nat.le_of_ble_eq_true rfl) ⟨by decide, by decide⟩ ⟨rfl, rfl, Nat.zero_le _, Nat.zero_le _⟩ ?_
          refine e_istore (pc := 122) dX3_join_122 (by decide) ?_
          refine e_aload_n (pc := 124) dX3_join_124 rfl rfl ?_
          refine n_VP (pc := 125) (c_X9_prime hW) bX9_prime q_i_X9_prime q_s_X9_prime q_m_X3_29 dX3_join_125 rfl rfl (by repeat (first | assumption | exact hset_eq _ _ _ | rw [hset_ne _ _ (by omega)])) rfl rfl (by exact Nat.le_of_ble_eq_true rfl) ⟨by decide, by decide⟩ ⟨rfl, rfl, Nat.zero_le _, Nat.zero_le _⟩ ?_
          refine e_iload (pc := 128) dX3_join_128 rfl ?_
          refine e_iload (pc := 130) dX3_join_130 rfl ?_
          refine n_irem (pc := 132) dX3_join_132 (by omega) (by omega) (by omega) ?_
          refine e_iload (pc := 133) dX3_join_133 rfl ?_
          refine e_iload (pc := 135) dX3_join_135 rfl ?_
          refine n_irem (pc := 137) dX3_join_137 (by omega) (by omega) (by omega) ?_
          refine n_SP (pc := 138) (c_X8_less b1 b2 (show lo % W.o < W.1 ^ 5 by omega) (show hi % W.o < W.1 ^ 5 by omega)) bX8_less q_st_X8_less q_m_X3_42 dX3_join_138 rfl rfl (by exact Nat.le_of_ble_eq_true rfl) ⟨by decide, by decide⟩ ⟨rfl, rfl, Nat.zero_le _, Nat.zero_le _⟩ ?_
          refine e_istore (pc := 141) dX3_join_141 (by decide) ?_
          refine e_aload_n (pc := 143) dX3_join_143 rfl rfl ?_
          refine e_aload_n (pc := 144) dX3_join_144 rfl rfl ?_
          refine e_aload_n (pc := 145) dX3_join_145 rfl rfl ?_
          refine e_get (pc := 146) fl_X3_9 dX3_join_146 (by repeat (first | assumption | exact hset_eq _ _ _ | rw [hset_ne _ _ (by omega)])) (by rfl) ?_
          refine e_aload_n (pc := 149) dX3_join_149 rfl rfl ?_
          refine e_iload (pc := 150) dX3_join_150 rfl ?_
          refine e_iload (pc := 152) dX3_join_152 rfl ?_
          refine n_iconst (pc := 154) 0 dX3_join_154 (by decide) ?_
          obtain ⟨r1, r2⟩ := run_pos hk hl1 hh1 c4
          have hr : sb W.1 (lo % W.o) (hi % W.o) < W.o := sb_lt (by omega) b4 hm1 hm2
          obtain ⟨-, t1, -⟩ := id hT
          refine n_V (pc := 155) (c_X7_divide (l := false) hT hW hk r2 hr (by omega)) bX7_divide q_i_X7_divide q_s_X7_divide q_m_X3_56 dX3_join_155 rfl rfl (by repeat (first | assumption | exact hset_eq _ _ _ | rw [hset_ne _ _ (by omega)])) rfl rfl (by exact Nat.le_of_ble_eq_true rfl) ⟨by decide, by decide⟩ ⟨rfl, rfl, Nat.zero_le _, Nat.zero_le _⟩ (fun z h2 hp => ?_)
          obtain ⟨p1, p2, p3, p4⟩ := hp
          have hz := p1.qz hk hD r1 r2 hr
          subst hz
          have hP2 := hP.ft p2 p4 d
          obtain ⟨-, t0⟩ := id hP2
          refine e_iload (pc := 158) dX3_join_158 rfl ?_
          refine n_V (pc := 160) (c_X3_through p3 hk (qz_ok hk hD r1 r2 false hr).1 (show lo < W.o * W.o by omega)) bX3_through q_i_X3_through q_s_X3_through q_m_X3_53 dX3_join_160 rfl rfl (by repeat (first | assumption | exact hset_eq _ _ _ | rw [hset_ne _ _ (by omega)])) rfl rfl (by exact Nat.le_of_ble_eq_true rfl) ⟨by decide, by decide⟩ ⟨rfl, rfl, Nat.zero_le _, Nat.zero_le _⟩ (fun z h3 hp => ?_)
          obtain ⟨rfl, p5, p6⟩ := hp
          refine n_iret (pc := 163) dX3_join_163 rfl ⟨?_, hP2.es p6 d, p5, p4.tr p6.ft⟩
          rw [if_neg (by omega), if_neg c2, if_neg (by omega), if_neg c4]
        · refine e_iload (pc := 96) dX3_join_96 rfl ?_
          refine e_iload (pc := 98) dX3_join_98 rfl ?_
          refine e_iload (pc := 100) dX3_join_100 rfl ?_
          refine n_idiv (pc := 102) dX3_join_102 (by omega) (by omega) (by omega) ?_
          refine n_iadd (pc := 103) dX3_join_103 ?_
          refine n_iret (pc := 104) dX3_join_104 rfl ⟨?_, hP, hW, Ft.rf E o h⟩
          rw [if_neg (by omega), if_neg c2, if_neg (by omega), if_pos c4]
      · refine e_aload_n (pc := 70) dX3_join_70 rfl rfl ?_
        refine e_aload_n (pc := 71) dX3_join_71 rfl rfl ?_
        refine e_iload (pc := 72) dX3_join_72 rfl ?_
        refine e_iload (pc := 74) dX3_join_74 rfl ?_
        refine n_isub (pc := 76) dX3_join_76 (by omega) ?_
        refine e_iload (pc := 77) dX3_join_77 rfl ?_
        refine n_V (pc := 79) (c_X3_through hW hk (show hi - W.o * W.o < W.o by omega) (show lo < W.o * W.o by omega)) bX3_through q_i_X3_through q_s_X3_through q_m_X3_53 dX3_join_79 rfl rfl (by repeat (first | assumption | exact hset_eq _ _ _ | rw [hset_ne _ _ (by omega)])) rfl rfl (by exact Nat.le_of_ble_eq_true rfl) ⟨by decide, by decide⟩ ⟨rfl, rfl, Nat.zero_le _, Nat.zero_le _⟩ (fun z h3 hp => ?_)
        obtain ⟨rfl, p5, p6⟩ := hp
        refine n_iret (pc := 82) dX3_join_82 rfl ⟨?_, hP.es p6 d, p5, p6.ft⟩
        rw [if_neg (by omega), if_neg c2, if_pos (by omega)]
    · refine e_iload (pc := 54) dX3_join_54 rfl ?_
      refine e_iload (pc := 56) dX3_join_56 rfl ?_
      refine e_iload (pc := 58) dX3_join_58 rfl ?_
      refine n_idiv (pc := 60) dX3_join_60 (by omega) (by omega) (by omega) ?_
      refine n_iadd (pc := 61) dX3_join_61 ?_
      refine n_iret (pc := 62) dX3_join_62 rfl ⟨?_, hP, hW, Ft.rf E o h⟩
      rw [if_neg (by omega), if_pos c2]
  · refine e_aload_n (pc := 40) dX3_join_40 rfl rfl ?_
    refine n_SP (pc := 41) (c_X3_last hW) bX3_last q_st_X3_last q_m_X3_15 dX3_join_41 rfl rfl (by exact Nat.le_of_ble_eq_true rfl) ⟨by decide, by decide⟩ ⟨rfl, rfl, Nat.zero_le _, Nat.zero_le _⟩ ?_
    refine n_iret (pc := 44) dX3_join_44 rfl ⟨?_, hP, hW, Ft.rf E o h⟩
    rw [if_pos (by omega)]
theorem c_X3_meet {u v : Nat} (hP : PSh h E) (hW : WAt h o W f) (hk : Wok W) (hD : Div W) (hu : u ≤ lastP W) (hv : v ≤ lastP W) (d : o + 3 ≤ E ∨ E + 90 ≤ o) : CI yX3_meet MX3_meet [.ref (E + 89), .ref o, .int (nI u), .int (nI v)] h (fun z h' => z = nI (mtP W u v) ∧ PSh h' E ∧ WAt h' o W f ∧ Ft E o h h') := by
  obtain ⟨w0, -⟩ := id hW
  obtain ⟨hT, t0⟩ := id hP
  have q := qq_le hk
  obtain ⟨b1, b2, b3, b4, b5⟩ := hk.b
  have q5 : W.1 ^ W.2.1 ≤ W.1 ^ 5 := Nat.pow_le_pow_right (by omega) b4
  have hq1 : W.1 ^ W.2.1 * W.1 ^ W.2.1 = W.o * W.o := rfl
  have e9 : W.o = W.1 ^ W.2.1 := rfl
  have hL : lastP W = W.o * W.o + W.o := rfl
  refine CI.ofV (by decide) rfl rfl (by simp [Value.category]) (by exact Nat.le_of_ble_eq_true rfl) (fun sz => ?_)
  refine e_iload_n (pc := 0) dX3_meet_0 rfl rfl ?_
  refine e_iload_n (pc := 1) dX3_meet_1 rfl rfl ?_
  refine n_mmin (pc := 2) q_m_X3_45 dX3_meet_2 (by decide) (by omega) (by omega) (by exact Nat.le_of_ble_eq_true rfl) ⟨Nat.zero_le _, Nat.zero_le _⟩ ?_
  refine e_istore (pc := 5) dX3_meet_5 (by decide) ?_
  refine e_iload_n (pc := 7) dX3_meet_7 rfl rfl ?_
  refine e_iload_n (pc := 8) dX3_meet_8 rfl rfl ?_
  refine n_mmax (pc := 9) q_m_X3_50 dX3_meet_9 (by decide) (by omega) (by omega) (by exact Nat.le_of_ble_eq_true rfl) ⟨Nat.zero_le _, Nat.zero_le _⟩ ?_
  have mm : min u v ≤ max u v ∧ max u v ≤ lastP W := by omega
  have hj : mtP W u v = mtL W (min u v) (max u v) := rfl
  rw [hj]
  generalize min u v = lo at *
  generalize max u v = hi at *
  obtain ⟨m1, m2⟩ := mm
  have dl := Nat.div_le_self lo (W.1 ^ W.2.1)
  have du := Nat.div_le_self hi (W.1 ^ W.2.1)
  refine e_istore (pc := 12) dX3_meet_12 (by decide) ?_
  refine e_aload_n (pc := 14) dX3_meet_14 rfl rfl ?_
  refine n_VP (pc := 15) (c_X9_order hW) bX9_order q_i_X9_order q_s_X9_order q_m_X3_19 dX3_meet_15 rfl rfl (by repeat (first | assumption | exact hset_eq _ _ _ | rw [hset_ne _ _ (by omega)])) rfl rfl (by exact Nat.le_of_ble_eq_true rfl) ⟨by decide, by decide⟩ ⟨rfl, rfl, Nat.zero_le _, Nat.zero_le _⟩ ?_
  refine e_istore (pc := 18) dX3_meet_18 (by decide) ?_
  refine e_iload (pc := 20) dX3_meet_20 rfl ?_
  refine e_iload (pc := 22) dX3_meet_22 rfl ?_
  refine n_imul (pc := 24) dX3_meet_24 ?_
  refine e_istore (pc := 25) dX3_meet_25 (by decide) ?_
  refine e_iload (pc := 27) dX3_meet_27 rfl ?_
  refine n_iconst (pc := 29) 1 dX3_meet_29 (by decide) ?_
  refine n_icmp_lt (pc := 30) (tgt := 40) dX3_meet_30 (by decide) (by omega) (by omega) (fun c => absurd c (by omega)) (fun hb_ => ?_)
  refine e_iload (pc := 33) dX3_meet_33 rfl ?_
  refine e_iload (pc := 35) dX3_meet_35 rfl ?_
  unfold mtL
  refine n_icmp_lt (pc := 37) (tgt := 45) dX3_meet_37 (by decide) (by omega) (by omega) (fun c1 => ?_) (fun c1 => ?_)
  · refine e_iload (pc := 45) dX3_meet_45 rfl ?_
    refine e_aload_n (pc := 47) dX3_meet_47 rfl rfl ?_
    refine n_SP (pc := 48) (c_X3_last hW) bX3_last q_st_X3_last q_m_X3_15 dX3_meet_48 rfl rfl (by exact Nat.le_of_ble_eq_true rfl) ⟨by decide, by decide⟩ ⟨rfl, rfl, Nat.zero_le _, Nat.zero_le _⟩ ?_
    have hl1 : lo / W.o < W.o := Nat.div_lt_of_lt_mul (by omega)
    refine n_icmp_ne (pc := 51) (tgt := 63) dX3_meet_51 (by decide) (by omega) (by omega) (fun c2 => ?_) (fun c2 => ?_)
    · refine e_iload (pc := 63) dX3_meet_63 rfl ?_
      refine e_iload (pc := 65) dX3_meet_65 rfl ?_
      refine n_icmp_lt (pc := 67) (tgt := 93) dX3_meet_67 (by decide) (by omega) (by omega) (fun c3 => ?_) (fun c3 => ?_)
      · refine e_iload (pc := 93) dX3_meet_93 rfl ?_
        refine e_iload (pc := 95) dX3_meet_95 rfl ?_
        refine n_idiv (pc := 97) dX3_meet_97 (by omega) (by omega) (by omega) ?_
        refine e_iload (pc := 98) dX3_meet_98 rfl ?_
        refine e_iload (pc := 100) dX3_meet_100 rfl ?_
        refine n_idiv (pc := 102) dX3_meet_102 (by omega) (by omega) (by omega) ?_
        have hh1 : hi / W.o < W.o := Nat.div_lt_of_lt_mul (by omega)
        have hm1 : lo % W.o < W.o := Nat.mod_lt lo (show 0 < W.1 ^ W.2.1 by omega)
        have hm2 : hi % W.o < W.o := Nat.mod_lt hi (show 0 < W.1 ^ W.2.1 by omega)
        refine n_icmp_ne (pc := 103) (tgt := 115) dX3_meet_103 (by decide) (by omega) (by omega) (fun c4 => ?_) (fun c4 => ?_)
        · refine e_aload_n (pc := 115) dX3_meet_115 rfl rfl ?_
          refine n_VP (pc := 116) (c_X9_prime hW) bX9_prime q_i_X9_prime q_s_X9_prime q_m_X3_29 dX3_meet_116 rfl rfl (by repeat (first | assumption | exact hset_eq _ _ _ | rw [hset_ne _ _ (by omega)])) rfl rfl (by exact Nat.le_of_ble_eq_true rfl) ⟨by decide, by decide⟩ ⟨rfl, rfl, Nat.zero_le _, Nat.zero_le _⟩ ?_
          refine e_iload (pc := 119) dX3_meet_119 rfl ?_
          refine e_iload (pc := 121) dX3_meet_121 rfl ?_
          refine n_idiv (pc := 123) dX3_meet_123 (by omega) (by omega) (by omega) ?_
          refine e_iload (pc := 124) dX3_meet_124 rfl ?_
          refine e_iload (pc := 126) dX3_meet_126 rfl ?_
          refine n_idiv (pc := 128) dX3_meet_128 (by omega) (by omega) (by omega) ?_
          refine n_SP (pc := 129) (c_X8_less b1 b2 (show lo / W.o < W.1 ^ 5 by omega) (show hi / W.o < W.1 ^ 5 by omega)) bX8_less q_st_X8_less q_m_X3_42 dX3_meet_129 rfl rfl (by exact Nat.le_of_ble_eq_true rfl) ⟨by decide, by decide⟩ ⟨rfl, rfl, Nat.zero_le _, Nat.zero_le _⟩ ?_
          refine e_istore (pc := 132) dX3_meet_132 (by decide) ?_
          refine e_aload_n (pc := 134) dX3_meet_134 rfl rfl ?_
          refine n_VP (pc := 135) (c_X9_prime hW) bX9_prime q_i_X9_prime q_s_X9_prime q_m_X3_29 dX3_meet_135 rfl rfl (by repeat (first | assumption | exact hset_eq _ _ _ | rw [hset_ne _ _ (by omega)])) rfl rfl (by exact Nat.le_of_ble_eq_true rfl) ⟨by decide, by decide⟩ ⟨rfl, rfl, Nat.zero_le _, Nat.zero_le _⟩ ?_
          refine e_iload (pc := 138) dX3_meet_138 rfl ?_
          refine e_iload (pc := 140) dX3_meet_140 rfl ?_
          refine n_irem (pc := 142) dX3_meet_142 (by omega) (by omega) (by omega) ?_
          refine e_iload (pc := 143) dX3_meet_143 rfl ?_
          refine e_iload (pc := 145) dX3_meet_145 rfl ?_
          refine n_irem (pc := 147) dX3_meet_147 (by omega) (by omega) (by omega) ?_
          refine n_SP (pc := 148) (c_X8_less b1 b2 (show hi % W.o < W.1 ^ 5 by omega) (show lo % W.o < W.1 ^ 5 by omega)) bX8_less q_st_X8_less q_m_X3_42 dX3_meet_148 rfl rfl (by exact Nat.le_of_ble_eq_true rfl) ⟨by decide, by decide⟩ ⟨rfl, rfl, Nat.zero_le _, Nat.zero_le _⟩ ?_
          refine e_istore (pc := 151) dX3_meet_151 (by decide) ?_
          refine e_aload_n (pc := 153) dX3_meet_153 rfl rfl ?_
          refine e_get (pc := 154) fl_X3_9 dX3_meet_154 (by repeat (first | assumption | exact hset_eq _ _ _ | rw [hset_ne _ _ (by omega)])) (by rfl) ?_
          refine e_aload_n (pc := 157) dX3_meet_157 rfl rfl ?_
          refine e_iload (pc := 158) dX3_meet_158 rfl ?_
          refine e_iload (pc := 160) dX3_meet_160 rfl ?_
          refine n_iconst (pc := 162) 1 dX3_meet_162 (by decide) ?_
          obtain ⟨r1, r2⟩ := run_pos hk hl1 hh1 c4
          have hr : sb W.1 (hi % W.o) (lo % W.o) < W.o := sb_lt (by omega) b4 hm2 hm1
          obtain ⟨-, t1, -⟩ := id hT
          refine n_V (pc := 163) (c_X7_divide (l := true) hT hW hk r2 hr (by omega)) bX7_divide q_i_X7_divide q_s_X7_divide q_m_X3_56 dX3_meet_163 rfl rfl (by repeat (first | assumption | exact hset_eq _ _ _ | rw [hset_ne _ _ (by omega)])) rfl rfl (by exact Nat.le_of_ble_eq_true rfl) ⟨by decide, by decide⟩ ⟨rfl, rfl, Nat.zero_le _, Nat.zero_le _⟩ (fun z h2 hp => ?_)
          obtain ⟨p1, p2, p3, p4⟩ := hp
          have hz := p1.qz hk hD r1 r2 hr
          subst hz
          have hP2 := hP.ft p2 p4 d
          obtain ⟨-, t0⟩ := id hP2
          refine e_istore (pc := 166) dX3_meet_166 (by decide) ?_
          refine e_iload (pc := 168) dX3_meet_168 rfl ?_
          refine e_iload (pc := 170) dX3_meet_170 rfl ?_
          refine n_imul (pc := 172) dX3_meet_172 ?_
          refine e_aload_n (pc := 173) dX3_meet_173 rfl rfl ?_
          refine e_aload_n (pc := 174) dX3_meet_174 rfl rfl ?_
          refine e_iload (pc := 175) dX3_meet_175 rfl ?_
          refine e_iload (pc := 177) dX3_meet_177 rfl ?_
          refine n_V (pc := 179) (c_X3_height p3 hk (show lo < W.o * W.o by omega) (qz_ok hk hD r1 r2 true hr).1) bX3_height q_i_X3_height q_s_X3_height q_m_X3_25 dX3_meet_179 rfl rfl (by repeat (first | assumption | exact hset_eq _ _ _ | rw [hset_ne _ _ (by omega)])) rfl rfl (by exact Nat.le_of_ble_eq_true rfl) ⟨by decide, by decide⟩ ⟨rfl, rfl, Nat.zero_le _, Nat.zero_le _⟩ (fun z h3 hp => ?_)
          obtain ⟨rfl, p5, p6⟩ := hp
          refine n_iadd (pc := 182) dX3_meet_182 ?_
          refine n_iret (pc := 183) dX3_meet_183 rfl ⟨?_, hP2.es p6 d, p5, p4.tr p6.ft⟩
          rw [if_neg (by omega), if_neg c2, if_neg (by omega), if_neg c4]
        · refine e_iload (pc := 106) dX3_meet_106 rfl ?_
          refine e_iload (pc := 108) dX3_meet_108 rfl ?_
          refine e_iload (pc := 110) dX3_meet_110 rfl ?_
          refine n_idiv (pc := 112) dX3_meet_112 (by omega) (by omega) (by omega) ?_
          refine n_iadd (pc := 113) dX3_meet_113 ?_
          refine n_iret (pc := 114) dX3_meet_114 rfl ⟨?_, hP, hW, Ft.rf E o h⟩
          rw [if_neg (by omega), if_neg c2, if_neg (by omega), if_pos c4]
      · refine e_iload (pc := 70) dX3_meet_70 rfl ?_
        refine e_iload (pc := 72) dX3_meet_72 rfl ?_
        refine n_isub (pc := 74) dX3_meet_74 (by omega) ?_
        refine e_istore (pc := 75) dX3_meet_75 (by decide) ?_
        refine e_iload (pc := 77) dX3_meet_77 rfl ?_
        refine e_iload (pc := 79) dX3_meet_79 rfl ?_
        refine n_imul (pc := 81) dX3_meet_81 ?_
        refine e_aload_n (pc := 82) dX3_meet_82 rfl rfl ?_
        refine e_aload_n (pc := 83) dX3_meet_83 rfl rfl ?_
        refine e_iload (pc := 84) dX3_meet_84 rfl ?_
        refine e_iload (pc := 86) dX3_meet_86 rfl ?_
        refine n_V (pc := 88) (c_X3_height hW hk (show lo < W.o * W.o by omega) (show hi - W.o * W.o < W.o by omega)) bX3_height q_i_X3_height q_s_X3_height q_m_X3_25 dX3_meet_88 rfl rfl (by repeat (first | assumption | exact hset_eq _ _ _ | rw [hset_ne _ _ (by omega)])) rfl rfl (by exact Nat.le_of_ble_eq_true rfl) ⟨by decide, by decide⟩ ⟨rfl, rfl, Nat.zero_le _, Nat.zero_le _⟩ (fun z h3 hp => ?_)
        obtain ⟨rfl, p5, p6⟩ := hp
        refine n_iadd (pc := 91) dX3_meet_91 ?_
        refine n_iret (pc := 92) dX3_meet_92 rfl ⟨?_, hP.es p6 d, p5, p6.ft⟩
        rw [if_neg (by omega), if_neg c2, if_pos (by omega)]
    · refine e_iload (pc := 54) dX3_meet_54 rfl ?_
      refine e_iload (pc := 56) dX3_meet_56 rfl ?_
      refine e_iload (pc := 58) dX3_meet_58 rfl ?_
      refine n_idiv (pc := 60) dX3_meet_60 (by omega) (by omega) (by omega) ?_
      refine n_iadd (pc := 61) dX3_meet_61 ?_
      refine n_iret (pc := 62) dX3_meet_62 rfl ⟨?_, hP, hW, Ft.rf E o h⟩
      rw [if_neg (by omega), if_pos c2]
  · refine e_aload_n (pc := 40) dX3_meet_40 rfl rfl ?_
    refine n_SP (pc := 41) (c_X3_last hW) bX3_last q_st_X3_last q_m_X3_15 dX3_meet_41 rfl rfl (by exact Nat.le_of_ble_eq_true rfl) ⟨by decide, by decide⟩ ⟨rfl, rfl, Nat.zero_le _, Nat.zero_le _⟩ ?_
    refine n_iret (pc := 44) dX3_meet_44 rfl ⟨?_, hP, hW, Ft.rf E o h⟩
    rw [if_pos (by omega)]
end PB
