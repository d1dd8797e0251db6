/-! ===== a StringBuilder grows; a String is appended ===== -/
def grow (m q : Nat) : Nat := m + max (q - m) (m + 2)
theorem grow_b {m q : Nat} (hm : m < q) (hq : q ≤ 100) : q ≤ grow m q ∧ m < grow m q ∧ grow m q ≤ 200 := by unfold grow; omega
section JC
variable {ro : RT} {h : AH} {b v m s B zq : Nat} {f : Nat → Int32} {T S : List Nat}
theorem s_J8_newLength {x y z : Nat} (h1 : 0 < x + max y z) (h2 : x + max y z < 100000) : CPS ro yJ8_newLength_cabcc MJ8_newLength_cabcc [.int (nI x), .int (nI y), .int (nI z)] h (nI (x + max y z)) := by
  refine CIS.ofV (by decide) rfl rfl (by simp [Value.category]) (by exact Nat.le_of_ble_eq_true rfl) (fun sz => ?_)
  refine ze_iload_n (pc := 0) dJ8_newLength_cabcc_0 rfl rfl ?_
  refine ze_iload_n (pc := 1) dJ8_newLength_cabcc_1 rfl rfl ?_
  refine ze_iload_n (pc := 2) dJ8_newLength_cabcc_2 rfl rfl ?_
  refine zn_mmax (pc := 3) q_m_J8_194 dJ8_newLength_cabcc_3 (by decide) (by omega) (by omega) (by exact Nat.le_of_ble_eq_true rfl) ⟨Nat.zero_le _, Nat.zero_le _⟩ ?_
  refine zn_iadd (pc := 6) dJ8_newLength_cabcc_6 ?_
  refine ze_istore_n (pc := 7) dJ8_newLength_cabcc_7 rfl (by decide) ?_
  refine zn_iconst (pc := 8) 0 dJ8_newLength_cabcc_8 (by decide) ?_
  refine ze_iload_n (pc := 9) dJ8_newLength_cabcc_9 rfl rfl ?_
  refine zn_icmp_ge (pc := 10) (tgt := 21) dJ8_newLength_cabcc_10 (by decide) (by omega) (by omega) (fun c => absurd c (by omega)) (fun c => ?_)
  refine ze_iload_n (pc := 13) dJ8_newLength_cabcc_13 rfl rfl ?_
  refine ze_ldcI (pc := 14) (v := nI 2147483639) q_k_J8_200 dJ8_newLength_cabcc_14 ?_
  refine zn_icmp_gt (pc := 16) (tgt := 21) dJ8_newLength_cabcc_16 (by decide) (by omega) (by omega) (fun c => absurd c (by omega)) (fun c => ?_)
  refine ze_iload_n (pc := 19) dJ8_newLength_cabcc_19 rfl rfl ?_
  exact zn_iret dJ8_newLength_cabcc_20 rfl ⟨rfl, rfl⟩
theorem s_J5_newCapacity {q : Nat} (hB : Sb h b v m f T) (hq : m < q) (hq2 : q ≤ 100) : CPS ro yJ5_newCapacity_0f7a4 MJ5_newCapacity_0f7a4 [.ref b, .int (nI q)] h (nI (grow m q)) := by
  obtain ⟨b1, b2, b3, b4, b5, b6, b7⟩ := id hB
  obtain ⟨g1, g2, g3⟩ := grow_b hq hq2
  refine CIS.ofV (by decide) rfl rfl (by simp [Value.category]) (by exact Nat.le_of_ble_eq_true rfl) (fun sz => ?_)
  refine ze_aload_n (pc := 0) dJ5_newCapacity_0f7a4_0 rfl rfl ?_
  refine ze_get (pc := 1) fl_J5_15 dJ5_newCapacity_0f7a4_1 (by repeat (first | assumption | exact hset_eq _ _ _ | rw [hset_ne _ _ (by omega)])) (by rfl) ?_
  refine ze_alenB (pc := 4) dJ5_newCapacity_0f7a4_4 (Or.inl (by repeat (first | assumption | exact hset_eq _ _ _ | rw [hset_ne _ _ (by omega)]))) ?_
  refine ze_istore_n (pc := 5) dJ5_newCapacity_0f7a4_5 rfl (by decide) ?_
  refine ze_iload_n (pc := 6) dJ5_newCapacity_0f7a4_6 rfl rfl ?_
  refine ze_aload_n (pc := 7) dJ5_newCapacity_0f7a4_7 rfl rfl ?_
  refine ze_get (pc := 8) fl_J5_22 dJ5_newCapacity_0f7a4_8 (by repeat (first | assumption | exact hset_eq _ _ _ | rw [hset_ne _ _ (by omega)])) (by rfl) ?_
  refine ze_ishl (pc := 11) dJ5_newCapacity_0f7a4_11 ?_
  refine ze_top (sb_shl0 _) ?_
  refine ze_istore_n (pc := 12) dJ5_newCapacity_0f7a4_12 rfl (by decide) ?_
  refine ze_iload_n (pc := 13) dJ5_newCapacity_0f7a4_13 rfl rfl ?_
  refine ze_iload_n (pc := 14) dJ5_newCapacity_0f7a4_14 rfl rfl ?_
  refine zn_isub (pc := 15) dJ5_newCapacity_0f7a4_15 (by omega) ?_
  refine ze_istore (pc := 16) dJ5_newCapacity_0f7a4_16 (by decide) ?_
  refine ze_iload_n (pc := 18) dJ5_newCapacity_0f7a4_18 rfl rfl ?_
  refine ze_iload (pc := 19) dJ5_newCapacity_0f7a4_19 rfl ?_
  refine ze_iload_n (pc := 21) dJ5_newCapacity_0f7a4_21 rfl rfl ?_
  refine zn_iconst (pc := 22) 2 dJ5_newCapacity_0f7a4_22 (by decide) ?_
  refine ze_aload_n (pc := 23) dJ5_newCapacity_0f7a4_23 rfl rfl ?_
  refine ze_get (pc := 24) fl_J5_22 dJ5_newCapacity_0f7a4_24 (by repeat (first | assumption | exact hset_eq _ _ _ | rw [hset_ne _ _ (by omega)])) (by rfl) ?_
  refine ze_ishl (pc := 27) dJ5_newCapacity_0f7a4_27 ?_
  refine ze_top (sb_shl0 _) ?_
  refine zn_iadd (pc := 28) dJ5_newCapacity_0f7a4_28 ?_
  refine zn_S (pc := 29) (s_J8_newLength (by omega) (by unfold grow at g3; omega)) bJ8_newLength_cabcc q_st_J8_newLength_cabcc q_m_J5_114 dJ5_newCapacity_0f7a4_29 rfl rfl (by exact Nat.le_of_ble_eq_true rfl) ⟨by decide, by decide⟩ ⟨rfl, rfl, Nat.zero_le _, Nat.zero_le _⟩ (fun x h2 hp => ?_)
  obtain ⟨rfl, rfl⟩ := hp
  refine ze_istore (pc := 32) dJ5_newCapacity_0f7a4_32 (by decide) ?_
  refine ze_iload (pc := 34) dJ5_newCapacity_0f7a4_34 rfl ?_
  refine ze_ldcI (pc := 36) (v := nI 2147483647) q_k_J5_39 dJ5_newCapacity_0f7a4_36 ?_
  refine zn_icmp_ne (pc := 38) (tgt := 51) dJ5_newCapacity_0f7a4_38 (by decide) (by unfold grow at g3; omega) (by omega) (fun _ => ?_) (fun c => absurd c (by unfold grow at g3; omega))
  refine ze_iload (pc := 51) dJ5_newCapacity_0f7a4_51 rfl ?_
  refine ze_aload_n (pc := 53) dJ5_newCapacity_0f7a4_53 rfl rfl ?_
  refine ze_get (pc := 54) fl_J5_22 dJ5_newCapacity_0f7a4_54 (by repeat (first | assumption | exact hset_eq _ _ _ | rw [hset_ne _ _ (by omega)])) (by rfl) ?_
  refine ze_ishr (pc := 57) dJ5_newCapacity_0f7a4_57 ?_
  refine ze_top (sb_shr0 _) ?_
  exact zn_iret dJ5_newCapacity_0f7a4_58 rfl ⟨rfl, rfl⟩
theorem s_J7_copyOf {a n q : Nat} (ha : h a = some (aB n f)) (haz : a < zq) (hq : n < q) (hq2 : q ≤ 400) (hf : ∀ j, j < n → fits .byte (.int (f j)) = true) : CnS ro yJ7_copyOf_9075b MJ7_copyOf_9075b [.ref a, .int (nI q)] zq h (fun r h' z => r = some (.ref zq) ∧ z = zq + 1 ∧ h' = hset h zq (aB q (va_cpy f (fun _ => 0) 0 0 n))) := by
  refine CnS.ofVS (by decide) rfl (fun q => by cases q) (by simp [Value.category]) (by exact Nat.le_of_ble_eq_true rfl) ?_
  refine ze_iload_n (pc := 0) dJ7_copyOf_9075b_0 rfl rfl ?_
  refine ze_aload_n (pc := 1) dJ7_copyOf_9075b_1 rfl rfl ?_
  refine ze_alenB (pc := 2) dJ7_copyOf_9075b_2 (Or.inl (by repeat (first | assumption | exact hset_eq _ _ _ | rw [hset_ne _ _ (by omega)]))) ?_
  refine zn_icmp_ne (pc := 3) (tgt := 14) dJ7_copyOf_9075b_3 (by decide) (by omega) (by omega) (fun _ => ?_) (fun c => absurd c (by omega))
  refine ze_iload_n (pc := 14) dJ7_copyOf_9075b_14 rfl rfl ?_
  refine ze_newB (pc := 15) dJ7_copyOf_9075b_15 rfl (by omega) ⟨by exact Nat.le_of_ble_eq_true rfl, by show 0 + q ≤ 400; omega⟩ ?_
  refine ze_astore_n (pc := 17) dJ7_copyOf_9075b_17 rfl (by decide) ?_
  refine ze_aload_n (pc := 18) dJ7_copyOf_9075b_18 rfl rfl ?_
  refine zn_iconst (pc := 19) 0 dJ7_copyOf_9075b_19 (by decide) ?_
  refine ze_aload_n (pc := 20) dJ7_copyOf_9075b_20 rfl rfl ?_
  refine zn_iconst (pc := 21) 0 dJ7_copyOf_9075b_21 (by decide) ?_
  refine ze_aload_n (pc := 22) dJ7_copyOf_9075b_22 rfl rfl ?_
  refine ze_alenB (pc := 23) dJ7_copyOf_9075b_23 (Or.inl (by repeat (first | assumption | exact hset_eq _ _ _ | rw [hset_ne _ _ (by omega)]))) ?_
  refine ze_iload_n (pc := 24) dJ7_copyOf_9075b_24 rfl rfl ?_
  refine zn_mmin (pc := 25) q_m_J7_304 dJ7_copyOf_9075b_25 (by decide) (by omega) (by omega) (by exact Nat.le_of_ble_eq_true rfl) ⟨by exact Nat.le_of_ble_eq_true rfl, by show 0 + q ≤ 400; omega⟩ ?_
  refine ze_top (congrArg nI (Nat.min_eq_left (by omega))) ?_
  refine ze_copyB (pc := 28) (sp := 0) (dp := 0) (N := n) (n0 := n) (f := f) (n1 := q) (g := fun _ => 0) q_m_J7_150 dJ7_copyOf_9075b_28 (Or.inl (by rw [hset_ne _ _ (by omega)]; exact ha)) (hset_eq _ _ _) (by omega) (by omega) (by omega) (by omega) (fun i hi => by rw [Nat.zero_add]; exact hf i hi) (by decide) (by exact Nat.le_of_ble_eq_true rfl) ?_
  refine ze_aload_n (pc := 31) dJ7_copyOf_9075b_31 rfl rfl ?_
  exact ze_aretR dJ7_copyOf_9075b_32 (Or.inr ⟨_, rfl⟩) ⟨by exact Nat.le_of_ble_eq_true rfl, by show 0 + q ≤ 400; omega⟩ ⟨rfl, rfl, hset_hset _ _ _ _⟩
theorem Bts.cpy {n : Nat} {g g0 : Nat → Int32} (hf : Bts f T) (hn : T.length ≤ n) : Bts (va_cpy f g0 0 0 n) T := fun j hj => by
  obtain ⟨q1, q2⟩ := hf j hj
  refine ⟨q1, ?_⟩
  unfold va_cpy
  rw [if_pos (by omega), ← q2]
  congr 1
  omega
theorem s_J5_ensure {q : Nat} (hB : Sb h b v m f T) (hvz : v < zq) (hq2 : q ≤ 100) : CnS ro yJ5_ensureCapacityInternal_d00df MJ5_ensureCapacityInternal_d00df [.ref b, .int (nI q)] zq h (fun r h' z => r = none ∧ ∃ v' m' f', Sb h' b v' m' f' T ∧ q ≤ m' ∧ zq ≤ z ∧ z ≤ zq + 1 ∧ v' < z ∧ ∀ x, x < b → h' x = h x) := by
  obtain ⟨b1, b2, b3, b4, b5, b6, b7⟩ := id hB
  have e1 : (nI q - nI m).toInt = (q : Int) - m := pk_sub_toInt (by omega) (by omega)
  refine CnS.ofVS (by decide) rfl (fun q => by cases q) (by simp [Value.category]) (by exact Nat.le_of_ble_eq_true rfl) ?_
  refine ze_aload_n (pc := 0) dJ5_ensureCapacityInternal_d00df_0 rfl rfl ?_
  refine ze_get (pc := 1) fl_J5_15 dJ5_ensureCapacityInternal_d00df_1 (by repeat (first | assumption | exact hset_eq _ _ _ | rw [hset_ne _ _ (by omega)])) (by rfl) ?_
  refine ze_alenB (pc := 4) dJ5_ensureCapacityInternal_d00df_4 (Or.inl (by repeat (first | assumption | exact hset_eq _ _ _ | rw [hset_ne _ _ (by omega)]))) ?_
  refine ze_aload_n (pc := 5) dJ5_ensureCapacityInternal_d00df_5 rfl rfl ?_
  refine ze_get (pc := 6) fl_J5_22 dJ5_ensureCapacityInternal_d00df_6 (by repeat (first | assumption | exact hset_eq _ _ _ | rw [hset_ne _ _ (by omega)])) (by rfl) ?_
  refine ze_ishr (pc := 9) dJ5_ensureCapacityInternal_d00df_9 ?_
  refine ze_top (sb_shr0 _) ?_
  refine ze_istore_n (pc := 10) dJ5_ensureCapacityInternal_d00df_10 rfl (by decide) ?_
  refine ze_iload_n (pc := 11) dJ5_ensureCapacityInternal_d00df_11 rfl rfl ?_
  refine ze_iload_n (pc := 12) dJ5_ensureCapacityInternal_d00df_12 rfl rfl ?_
  refine ze_isub (pc := 13) dJ5_ensureCapacityInternal_d00df_13 ?_
  refine ze_if_le (pc := 14) (tgt := 38) dJ5_ensureCapacityInternal_d00df_14 (by decide) (fun c => ?_) (fun c => ?_)
  · rw [Int32.le_iff_toInt_le, e1, Int32.toInt_zero] at c
    exact ze_vret (pc := 38) dJ5_ensureCapacityInternal_d00df_38 rfl ⟨Nat.zero_le _, Nat.zero_le _⟩ ⟨rfl, v, m, f, hB, by omega, Nat.le_refl _, by show zq ≤ zq + 1; omega, hvz, fun _ _ => rfl⟩
  · rw [Int32.le_iff_toInt_le, e1, Int32.toInt_zero] at c
    obtain ⟨g1, g2, g3⟩ := grow_b (show m < q by omega) hq2
    refine ze_aload_n (pc := 17) dJ5_ensureCapacityInternal_d00df_17 rfl rfl ?_
    refine ze_aload_n (pc := 18) dJ5_ensureCapacityInternal_d00df_18 rfl rfl ?_
    refine ze_get (pc := 19) fl_J5_15 dJ5_ensureCapacityInternal_d00df_19 (by repeat (first | assumption | exact hset_eq _ _ _ | rw [hset_ne _ _ (by omega)])) (by rfl) ?_
    refine ze_aload_n (pc := 22) dJ5_ensureCapacityInternal_d00df_22 rfl rfl ?_
    refine ze_iload_n (pc := 23) dJ5_ensureCapacityInternal_d00df_23 rfl rfl ?_
    refine ze_callU (pc := 24) (s_J5_newCapacity hB (by omega) hq2 _) bJ5_newCapacity_0f7a4 rfl (by decide +kernel) q_m_J5_104 q_sm_J5_J5_newCapacity_0f7a4 q_s_J4_J5_newCapacity_0f7a4 q_i_J5_newCapacity_0f7a4 dJ5_ensureCapacityInternal_d00df_24 rfl rfl (by repeat (first | assumption | exact hset_eq _ _ _ | rw [hset_ne _ _ (by omega)])) (by exact Nat.le_of_ble_eq_true rfl) ⟨by decide, by decide⟩ ⟨by exact Nat.le_of_ble_eq_true rfl, by exact Nat.le_of_ble_eq_true rfl⟩ (fun r h2 z2 hp => ?_)
    obtain ⟨hz9, x, rfl, rfl, rfl⟩ := hp
    subst z2
    refine ze_aload_n (pc := 27) dJ5_ensureCapacityInternal_d00df_27 rfl rfl ?_
    refine ze_get (pc := 28) fl_J5_22 dJ5_ensureCapacityInternal_d00df_28 (by repeat (first | assumption | exact hset_eq _ _ _ | rw [hset_ne _ _ (by omega)])) (by rfl) ?_
    refine ze_ishl (pc := 31) dJ5_ensureCapacityInternal_d00df_31 ?_
    refine ze_top (sb_shl0 _) ?_
    refine ze_callS (pc := 32) (s_J7_copyOf (zq := zq) (f := f) (by assumption) hvz g2 (by omega) b6) bJ7_copyOf_9075b q_st_J7_copyOf_9075b q_m_J5_108 dJ5_ensureCapacityInternal_d00df_32 rfl rfl (by exact Nat.le_of_ble_eq_true rfl) ⟨by decide, by decide⟩ ⟨by exact Nat.le_of_ble_eq_true rfl, by exact Nat.le_of_ble_eq_true rfl⟩ (fun r h3 z3 hp => ?_)
    obtain ⟨rfl, rfl, rfl⟩ := hp
    refine ze_put (pc := 35) pl_J5_15 dJ5_ensureCapacityInternal_d00df_35 (by repeat (first | assumption | exact hset_eq _ _ _ | rw [hset_ne _ _ (by omega)])) (by rfl) (by rfl) (by exact Nat.le_of_ble_eq_true rfl) ?_
    refine ze_vret (pc := 38) dJ5_ensureCapacityInternal_d00df_38 rfl ⟨by exact Nat.le_of_ble_eq_true rfl, by exact Nat.le_of_ble_eq_true rfl⟩ ⟨rfl, zq, grow m q, _, ⟨?_, by omega, by rw [hset_ne _ _ (by omega), hset_eq], by omega, by omega, fun j hj => ?_, b7.cpy (g := f) b4⟩, by omega, by show zq ≤ zq + 1; omega, by show zq + 1 ≤ zq + 1; omega, by show zq < zq + 1; omega, fun x hx => ?_⟩
    · rw [hset_eq]; rfl
    · unfold va_cpy
      split
      · exact b6 _ (by omega)
      · rfl
    · rw [hset_ne _ _ (by omega), hset_ne _ _ (by omega)]
theorem s_J5_inflate (hB : Sb h b v m f T) (hS : Str ro h B s S) : CVS ro yJ5_inflateIfNeededFor_a7421 MJ5_inflateIfNeededFor_a7421 [.ref b, .ref s] h (fun h' => h' = h) := by
  obtain ⟨b1, b2, b3, b4, b5, b6, b7⟩ := id hB
  obtain ⟨sv, sf, s1, s2, s3⟩ := hS.rd
  refine CVS.ofV (by decide) rfl rfl (by simp [Value.category]) (by exact Nat.le_of_ble_eq_true rfl) (fun sz => ?_)
  refine ze_compact (pc := 0) q_f_J5_18 dJ5_inflateIfNeededFor_a7421_0 ?_
  refine ze_if_eq (pc := 3) (tgt := 21) dJ5_inflateIfNeededFor_a7421_3 (by decide) (fun q => absurd q (by decide)) (fun _ => ?_)
  refine ze_aload_n (pc := 6) dJ5_inflateIfNeededFor_a7421_6 rfl rfl ?_
  refine ze_get (pc := 7) fl_J5_22 dJ5_inflateIfNeededFor_a7421_7 (by repeat (first | assumption | exact hset_eq _ _ _ | rw [hset_ne _ _ (by omega)])) (by rfl) ?_
  refine ze_aload_n (pc := 10) dJ5_inflateIfNeededFor_a7421_10 rfl rfl ?_
  refine ze_callT (pc := 11) (s_J0_coder hS _) bJ0_coder_7d493 q_i_J0_coder_7d493 q_s_J0_coder_7d493 q_m_J5_40 dJ5_inflateIfNeededFor_a7421_11 rfl rfl (by assumption) rfl (by exact Nat.le_of_ble_eq_true rfl) ⟨by decide, by decide⟩ ⟨by exact Nat.le_of_ble_eq_true rfl, by exact Nat.le_of_ble_eq_true rfl⟩ (fun r h2 z2 hp => ?_)
  obtain ⟨hz9, x, rfl, rfl, rfl⟩ := hp
  subst z2
  refine ze_icmp_eq (pc := 14) (tgt := 21) dJ5_inflateIfNeededFor_a7421_14 (by decide) (fun _ => ?_) (fun c => absurd rfl c)
  exact zn_vret (pc := 21) dJ5_inflateIfNeededFor_a7421_21 rfl rfl
/-- S stands from place d on -/
def Laid (f f2 : Nat → Int32) (m d : Nat) (S : List Nat) : Prop := (∀ j, j < m → fits .byte (.int (f2 j)) = true) ∧ (∀ j, j < d → f2 j = f j) ∧ ∀ j, j < S.length → f2 (d + j) = nI (S.getD j 0)
theorem s_J0_getBytes {d : Nat} (hv : h v = some (aB m f)) (hf : ∀ j, j < m → fits .byte (.int (f j)) = true) (hS : Str ro h B s S) (hd : d + S.length ≤ m) (hm : m ≤ 200) : CVS ro yJ0_getBytes_840e7 MJ0_getBytes_840e7 [.ref s, .ref v, .int (nI d), .int 0] h (fun h' => ∃ f2, h' = hset h v (aB m f2) ∧ Laid f f2 m d S) := by
  obtain ⟨sv, sf, s1, s2, s3⟩ := hS.rd
  refine CVS.ofV (by decide) rfl rfl (by simp [Value.category]) (by exact Nat.le_of_ble_eq_true rfl) (fun sz => ?_)
  refine ze_aload_n (pc := 0) dJ0_getBytes_840e7_0 rfl rfl ?_
  refine ze_callT (pc := 1) (s_J0_coder hS _) bJ0_coder_7d493 q_i_J0_coder_7d493 q_s_J0_coder_7d493 q_m_J0_335 dJ0_getBytes_840e7_1 rfl rfl (by assumption) rfl (by exact Nat.le_of_ble_eq_true rfl) ⟨by decide, by decide⟩ ⟨by exact Nat.le_of_ble_eq_true rfl, by exact Nat.le_of_ble_eq_true rfl⟩ (fun r h2 z2 hp => ?_)
  obtain ⟨hz9, x, rfl, rfl, rfl⟩ := hp
  subst z2
  refine ze_iload_n (pc := 4) dJ0_getBytes_840e7_4 rfl rfl ?_
  refine ze_icmp_ne (pc := 5) (tgt := 28) dJ0_getBytes_840e7_5 (by decide) (fun c => absurd rfl c) (fun _ => ?_)
  refine ze_aload_n (pc := 8) dJ0_getBytes_840e7_8 rfl rfl ?_
  refine ze_getO (pc := 9) fl_J0_9 dJ0_getBytes_840e7_9 (by assumption) (by rfl) ?_
  refine zn_iconst (pc := 12) 0 dJ0_getBytes_840e7_12 (by decide) ?_
  refine ze_aload_n (pc := 13) dJ0_getBytes_840e7_13 rfl rfl ?_
  refine ze_iload_n (pc := 14) dJ0_getBytes_840e7_14 rfl rfl ?_
  refine ze_iload_n (pc := 15) dJ0_getBytes_840e7_15 rfl rfl ?_
  refine ze_ishl (pc := 16) dJ0_getBytes_840e7_16 ?_
  refine ze_top (sb_shl0 _) ?_
  refine ze_aload_n (pc := 17) dJ0_getBytes_840e7_17 rfl rfl ?_
  refine ze_getO (pc := 18) fl_J0_9 dJ0_getBytes_840e7_18 (by assumption) (by rfl) ?_
  refine ze_alenB (pc := 21) dJ0_getBytes_840e7_21 (by assumption) ?_
  refine ze_copyB (pc := 22) (sp := 0) (dp := d) (N := S.length) (n0 := S.length) (f := sf) (n1 := m) (g := f) q_m_J0_212 dJ0_getBytes_840e7_22 (by assumption) (by assumption) (by omega) (by omega) (by omega) (by omega) (fun i hi => ?_) (by decide) (by exact Nat.le_of_ble_eq_true rfl) ?_
  · rw [Nat.zero_add, (s3 i hi).2]; exact (by_char _ (s3 i hi).1).2.2.1
  refine ze_goto (pc := 25) (tgt := 43) dJ0_getBytes_840e7_25 (by decide) ?_
  refine zn_vret (pc := 43) dJ0_getBytes_840e7_43 rfl ⟨_, rfl, fun j hj => ?_, fun j hj => ?_, fun j hj => ?_⟩
  · unfold va_cpy
    split
    · rw [(s3 _ (by omega)).2]; exact (by_char _ (s3 _ (by omega)).1).2.2.1
    · exact hf j hj
  · unfold va_cpy
    rw [if_neg (by omega)]
  · unfold va_cpy
    rw [if_pos (by omega), (s3 _ (by omega)).2]
    congr 2
    omega
theorem s_J5_putStringAt {d : Nat} (hB : Sb h b v m f T) (hS : Str ro h B s S) (hd : d + S.length ≤ m) : CVS ro yJ5_putStringAt_47b60 MJ5_putStringAt_47b60 [.ref b, .int (nI d), .ref s] h (fun h' => ∃ f2, h' = hset h v (aB m f2) ∧ Laid f f2 m d S) := by
  obtain ⟨b1, b2, b3, b4, b5, b6, b7⟩ := id hB
  obtain ⟨sv, sf, s1, s2, s3⟩ := hS.rd
  refine CVS.ofV (by decide) rfl rfl (by simp [Value.category]) (by exact Nat.le_of_ble_eq_true rfl) (fun sz => ?_)
  refine ze_aload_n (pc := 0) dJ5_putStringAt_47b60_0 rfl rfl ?_
  refine ze_aload_n (pc := 1) dJ5_putStringAt_47b60_1 rfl rfl ?_
  refine ze_callU (pc := 2) (s_J5_inflate hB hS _) bJ5_inflateIfNeededFor_a7421 rfl (by decide +kernel) q_m_J5_397 q_sm_J5_J5_inflateIfNeededFor_a7421 q_s_J4_J5_inflateIfNeededFor_a7421 q_i_J5_inflateIfNeededFor_a7421 dJ5_putStringAt_47b60_2 rfl rfl (by repeat (first | assumption | exact hset_eq _ _ _ | rw [hset_ne _ _ (by omega)])) (by exact Nat.le_of_ble_eq_true rfl) ⟨by decide, by decide⟩ ⟨by exact Nat.le_of_ble_eq_true rfl, by exact Nat.le_of_ble_eq_true rfl⟩ (fun r h2 z2 hp => ?_)
  obtain ⟨hz9, rfl, rfl⟩ := hp
  subst z2
  refine ze_aload_n (pc := 5) dJ5_putStringAt_47b60_5 rfl rfl ?_
  refine ze_aload_n (pc := 6) dJ5_putStringAt_47b60_6 rfl rfl ?_
  refine ze_get (pc := 7) fl_J5_15 dJ5_putStringAt_47b60_7 (by repeat (first | assumption | exact hset_eq _ _ _ | rw [hset_ne _ _ (by omega)])) (by rfl) ?_
  refine ze_iload_n (pc := 10) dJ5_putStringAt_47b60_10 rfl rfl ?_
  refine ze_aload_n (pc := 11) dJ5_putStringAt_47b60_11 rfl rfl ?_
  refine ze_get (pc := 12) fl_J5_22 dJ5_putStringAt_47b60_12 (by repeat (first | assumption | exact hset_eq _ _ _ | rw [hset_ne _ _ (by omega)])) (by rfl) ?_
  refine ze_callT (pc := 15) (s_J0_getBytes b3 b6 hS hd b5 _) bJ0_getBytes_840e7 q_i_J0_getBytes_840e7 q_s_J0_getBytes_840e7 q_m_J5_399 dJ5_putStringAt_47b60_15 rfl rfl (by assumption) rfl (by exact Nat.le_of_ble_eq_true rfl) ⟨by decide, by decide⟩ ⟨by exact Nat.le_of_ble_eq_true rfl, by exact Nat.le_of_ble_eq_true rfl⟩ (fun r h2 z2 hp => ?_)
  obtain ⟨hz9, rfl, hp⟩ := hp
  subst z2
  exact zn_vret (pc := 18) dJ5_putStringAt_47b60_18 rfl hp
theorem Bts.app {f2 : Nat → Int32} (hf : Bts f T) (hS : ∀ j, j < S.length → S.getD j 0 < 128) (hL : Laid f f2 m T.length S) : Bts f2 (T ++ S) := fun j hj => by
  rw [List.length_append] at hj
  rw [List.getD_eq_getElem?_getD]
  by_cases c : j < T.length
  · rw [List.getElem?_append_left c, ← List.getD_eq_getElem?_getD, hL.2.1 j c]
    exact hf j c
  · rw [List.getElem?_append_right (by omega), ← List.getD_eq_getElem?_getD]
    have := hL.2.2 (j - T.length) (by omega)
    rw [show T.length + (j - T.length) = j by omega] at this
    exact ⟨hS _ (by omega), this⟩
/-- what an append leaves -/
def Apd (b zq : Nat) (h : AH) (T : List Nat) (r : Option Value) (h' : AH) (z : Nat) : Prop := r = some (.ref b) ∧ ∃ v m f, Sb h' b v m f T ∧ zq ≤ z ∧ z ≤ zq + 1 ∧ v < z ∧ ∀ x, x < b → h' x = h x
theorem s_J5_appendS (hB : Sb h b v m f T) (hvz : v < zq) (hS : Str ro h b s S) (hl : T.length + S.length ≤ 100) : CnS ro yJ5_append_cf1ce MJ5_append_cf1ce [.ref b, .ref s] zq h (Apd b zq h (T ++ S)) := by
  obtain ⟨sv, sf, s1, s2, s3⟩ := hS.rd
  obtain ⟨b1, -, -⟩ := id hB
  refine CnS.ofVS (by decide) rfl (fun q => by cases q) (by simp [Value.category]) (by exact Nat.le_of_ble_eq_true rfl) ?_
  refine ze_aload_n (pc := 0) dJ5_append_cf1ce_0 rfl rfl ?_
  refine ze_ifnonnull (pc := 1) (tgt := 9) dJ5_append_cf1ce_1 (by decide) ?_
  refine ze_aload_n (pc := 9) dJ5_append_cf1ce_9 rfl rfl ?_
  refine ze_callT (pc := 10) (s_J0_length hS (by omega) _) bJ0_length_8abf5 q_i_J0_length_8abf5 q_s_J0_length_8abf5 q_m_J5_32 dJ5_append_cf1ce_10 rfl rfl (by assumption) rfl (by exact Nat.le_of_ble_eq_true rfl) ⟨by decide, by decide⟩ ⟨by exact Nat.le_of_ble_eq_true rfl, by exact Nat.le_of_ble_eq_true rfl⟩ (fun r h2 z2 hp => ?_)
  obtain ⟨hz9, x, rfl, rfl, rfl⟩ := hp
  subst z2
  refine ze_istore_n (pc := 13) dJ5_append_cf1ce_13 rfl (by decide) ?_
  refine ze_aload_n (pc := 14) dJ5_append_cf1ce_14 rfl rfl ?_
  refine ze_aload_n (pc := 15) dJ5_append_cf1ce_15 rfl rfl ?_
  refine ze_get (pc := 16) fl_J5_79 dJ5_append_cf1ce_16 (by repeat (first | assumption | exact hset_eq _ _ _ | rw [hset_ne _ _ (by omega)])) (by rfl) ?_
  refine ze_iload_n (pc := 19) dJ5_append_cf1ce_19 rfl rfl ?_
  refine zn_iadd (pc := 20) dJ5_append_cf1ce_20 ?_
  refine ze_callU (pc := 21) (s_J5_ensure (zq := zq) hB hvz (by omega)) bJ5_ensureCapacityInternal_d00df rfl (by decide +kernel) q_m_J5_100 q_sm_J5_J5_ensureCapacityInternal_d00df q_s_J4_J5_ensureCapacityInternal_d00df q_i_J5_ensureCapacityInternal_d00df dJ5_append_cf1ce_21 rfl rfl (by repeat (first | assumption | exact hset_eq _ _ _ | rw [hset_ne _ _ (by omega)])) (by exact Nat.le_of_ble_eq_true rfl) ⟨by decide, by decide⟩ ⟨by exact Nat.le_of_ble_eq_true rfl, by exact Nat.le_of_ble_eq_true rfl⟩ (fun r h3 z3 hp => ?_)
  obtain ⟨rfl, v2, m2, f2, hB2, q1, q2, q3, q4, q5⟩ := hp
  have hS2 := hS.kept q5 (Nat.le_refl _)
  obtain ⟨c1, c2, c3, c4, c5, c6, c7⟩ := id hB2
  refine ze_aload_n (pc := 24) dJ5_append_cf1ce_24 rfl rfl ?_
  refine ze_aload_n (pc := 25) dJ5_append_cf1ce_25 rfl rfl ?_
  refine ze_get (pc := 26) fl_J5_79 dJ5_append_cf1ce_26 (by repeat (first | assumption | exact hset_eq _ _ _ | rw [hset_ne _ _ (by omega)])) (by rfl) ?_
  refine ze_aload_n (pc := 29) dJ5_append_cf1ce_29 rfl rfl ?_
  refine ze_callU (pc := 30) (s_J5_putStringAt hB2 hS2 (d := T.length) (by omega) _) bJ5_putStringAt_47b60 rfl (by decide +kernel) q_m_J5_208 q_sm_J5_J5_putStringAt_47b60 q_s_J4_J5_putStringAt_47b60 q_i_J5_putStringAt_47b60 dJ5_append_cf1ce_30 rfl rfl (by repeat (first | assumption | exact hset_eq _ _ _ | rw [hset_ne _ _ (by omega)])) (by exact Nat.le_of_ble_eq_true rfl) ⟨by decide, by decide⟩ ⟨by exact Nat.le_of_ble_eq_true rfl, by exact Nat.le_of_ble_eq_true rfl⟩ (fun r h4 z4 hp => ?_)
  obtain ⟨hz9, rfl, f3, rfl, hL⟩ := hp
  subst z4
  refine ze_aload_n (pc := 33) dJ5_append_cf1ce_33 rfl rfl ?_
  refine ze_dup (pc := 34) dJ5_append_cf1ce_34 rfl ?_
  refine ze_get (pc := 35) fl_J5_79 dJ5_append_cf1ce_35 (by repeat (first | assumption | exact hset_eq _ _ _ | rw [hset_ne _ _ (by omega)])) (by rfl) ?_
  refine ze_iload_n (pc := 38) dJ5_append_cf1ce_38 rfl rfl ?_
  refine zn_iadd (pc := 39) dJ5_append_cf1ce_39 ?_
  refine ze_put (pc := 40) pl_J5_79 dJ5_append_cf1ce_40 (by repeat (first | assumption | exact hset_eq _ _ _ | rw [hset_ne _ _ (by omega)])) (by rfl) (by rfl) (by exact Nat.le_of_ble_eq_true rfl) ?_
  refine ze_aload_n (pc := 43) dJ5_append_cf1ce_43 rfl rfl ?_
  refine ze_aretR dJ5_append_cf1ce_44 (Or.inl ⟨_, rfl⟩) ⟨by exact Nat.le_of_ble_eq_true rfl, by exact Nat.le_of_ble_eq_true rfl⟩ ⟨rfl, v2, m2, f3, ⟨?_, c2, by rw [hset_ne _ _ (by omega), hset_eq], by rw [List.length_append]; omega, c5, hL.1, c7.app (fun j hj => (s3 j hj).1) hL⟩, q2, q3, q4, fun x hx => ?_⟩
  · rw [hset_eq, List.length_append]; rfl
  · rw [hset_ne _ _ (by omega), hset_ne _ _ (by omega)]
    exact q5 x hx
theorem s_J4_appendS (hB : Sb h b v m f T) (hvz : v < zq) (hS : Str ro h b s S) (hl : T.length + S.length ≤ 100) : CnS ro yJ4_append_15ec4 MJ4_append_15ec4 [.ref b, .ref s] zq h (Apd b zq h (T ++ S)) := by
  obtain ⟨b1, -, -⟩ := id hB
  refine CnS.ofVS (by decide) rfl (fun q => by cases q) (by simp [Value.category]) (by exact Nat.le_of_ble_eq_true rfl) ?_
  refine ze_aload_n (pc := 0) dJ4_append_15ec4_0 rfl rfl ?_
  refine ze_aload_n (pc := 1) dJ4_append_15ec4_1 rfl rfl ?_
  refine ze_callSU (pc := 2) (s_J5_appendS hB hvz hS hl) bJ5_append_cf1ce (by decide) q_m_J4_29 q_sm_J5_J5_append_cf1ce q_su_J4_J5 q_i_J5_append_cf1ce dJ4_append_15ec4_2 rfl rfl (by repeat (first | assumption | exact hset_eq _ _ _ | rw [hset_ne _ _ (by omega)])) (by exact Nat.le_of_ble_eq_true rfl) ⟨by decide, by decide⟩ ⟨by exact Nat.le_of_ble_eq_true rfl, by exact Nat.le_of_ble_eq_true rfl⟩ (fun r h2 z2 hp => ?_)
  obtain ⟨rfl, hp⟩ := hp
  refine ze_pop (pc := 5) dJ4_append_15ec4_5 rfl ?_
  refine ze_aload_n (pc := 6) dJ4_append_15ec4_6 rfl rfl ?_
  exact ze_aretR dJ4_append_15ec4_7 (Or.inl ⟨_, rfl⟩) ⟨by exact Nat.le_of_ble_eq_true rfl, by exact Nat.le_of_ble_eq_true rfl⟩ ⟨rfl, hp⟩
end JC
