/-! ===== texts: lists of letters; Strings and StringBuilders that hold them ===== -/
def Bts (f : Nat → Int32) (T : List Nat) : Prop := ∀ j, j < T.length → T.getD j 0 < 128 ∧ f j = nI (T.getD j 0)
/-- the text T as a String at a: of the heap below B, or of what nobody writes -/
def Str (ro : RT) (h : AH) (B a : Nat) (T : List Nat) : Prop := ∃ v f, (h a = some (ob 11 [.ref v, .int 0]) ∧ h v = some (aB T.length f) ∧ a < B ∧ v < B ∨ ro.1 a = some (ob 11 [.ref v, .int 0]) ∧ ro.1 v = some (aB T.length f)) ∧ Bts f T
theorem Str.kept {ro : RT} {h h2 : AH} {B B2 a : Nat} {T : List Nat} (hS : Str ro h B a T) (e : ∀ q, q < B → h2 q = h q) (hB : B ≤ B2) : Str ro h2 B2 a T := by
  obtain ⟨v, f, (⟨h1, h2, h3, h4⟩ | ⟨h1, h2⟩), h5⟩ := hS
  · exact ⟨v, f, Or.inl ⟨(e _ h3).trans h1, (e _ h4).trans h2, Nat.lt_of_lt_of_le h3 hB, Nat.lt_of_lt_of_le h4 hB⟩, h5⟩
  · exact ⟨v, f, Or.inr ⟨h1, h2⟩, h5⟩
theorem Str.rd {ro : RT} {h : AH} {B a : Nat} {T : List Nat} (hS : Str ro h B a T) : ∃ v f, (h a = some (ob 11 [.ref v, .int 0]) ∨ ro.1 a = some (ob 11 [.ref v, .int 0])) ∧ (h v = some (aB T.length f) ∨ ro.1 v = some (aB T.length f)) ∧ Bts f T := by
  obtain ⟨v, f, (⟨h1, h2, h3, h4⟩ | ⟨h1, h2⟩), h5⟩ := hS
  · exact ⟨v, f, Or.inl h1, Or.inl h2, h5⟩
  · exact ⟨v, f, Or.inr h1, Or.inr h2, h5⟩
section JS
variable {ro : RT} {h : AH} {B a : Nat} {T : List Nat}
theorem s_J0_coder (hS : Str ro h B a T) : CPS ro yJ0_coder_7d493 MJ0_coder_7d493 [.ref a] h 0 := by
  obtain ⟨v, f, h1, h2, h3⟩ := hS.rd
  refine CIS.ofV (by decide) rfl rfl (by simp [Value.category]) (by exact Nat.le_of_ble_eq_true rfl) (fun sz => ?_)
  refine ze_compact (pc := 0) q_f_J0_38 dJ0_coder_7d493_0 ?_
  refine ze_if_eq (pc := 3) (tgt := 13) dJ0_coder_7d493_3 (by decide) (fun q => absurd q (by decide)) (fun _ => ?_)
  refine ze_aload_n (pc := 6) dJ0_coder_7d493_6 rfl rfl ?_
  refine ze_getO (pc := 7) fl_J0_15 dJ0_coder_7d493_7 (by assumption) (by rfl) ?_
  refine ze_goto (pc := 10) (tgt := 14) dJ0_coder_7d493_10 (by decide) ?_
  exact ze_nret (pc := 14) dJ0_coder_7d493_14 rfl rfl ⟨Nat.zero_le _, Nat.zero_le _⟩ ⟨rfl, _, rfl, rfl, rfl⟩
theorem s_J0_isLatin1 (hS : Str ro h B a T) : CPS ro yJ0_isLatin1_aae02 MJ0_isLatin1_aae02 [.ref a] h 1 := by
  obtain ⟨v, f, h1, h2, h3⟩ := hS.rd
  refine CIS.ofV (by decide) rfl rfl (by simp [Value.category]) (by exact Nat.le_of_ble_eq_true rfl) (fun sz => ?_)
  refine ze_compact (pc := 0) q_f_J0_38 dJ0_isLatin1_aae02_0 ?_
  refine ze_if_eq (pc := 3) (tgt := 17) dJ0_isLatin1_aae02_3 (by decide) (fun q => absurd q (by decide)) (fun _ => ?_)
  refine ze_aload_n (pc := 6) dJ0_isLatin1_aae02_6 rfl rfl ?_
  refine ze_getO (pc := 7) fl_J0_15 dJ0_isLatin1_aae02_7 (by assumption) (by rfl) ?_
  refine ze_if_ne (pc := 10) (tgt := 17) dJ0_isLatin1_aae02_10 (by decide) (fun q => absurd rfl q) (fun _ => ?_)
  refine zn_iconst (pc := 13) 1 dJ0_isLatin1_aae02_13 (by decide) ?_
  refine ze_goto (pc := 14) (tgt := 18) dJ0_isLatin1_aae02_14 (by decide) ?_
  exact zn_zret dJ0_isLatin1_aae02_18 rfl rfl ⟨rfl, rfl⟩
theorem s_J0_length (hS : Str ro h B a T) (hn : T.length < 100000) : CPS ro yJ0_length_8abf5 MJ0_length_8abf5 [.ref a] h (nI T.length) := by
  obtain ⟨v, f, h1, h2, h3⟩ := hS.rd
  refine CIS.ofV (by decide) rfl rfl (by simp [Value.category]) (by exact Nat.le_of_ble_eq_true rfl) (fun sz => ?_)
  refine ze_aload_n (pc := 0) dJ0_length_8abf5_0 rfl rfl ?_
  refine ze_getO (pc := 1) fl_J0_9 dJ0_length_8abf5_1 (by assumption) (by rfl) ?_
  refine ze_alenB (pc := 4) dJ0_length_8abf5_4 (by assumption) ?_
  refine ze_aload_n (pc := 5) dJ0_length_8abf5_5 rfl rfl ?_
  refine ze_callT (pc := 6) (s_J0_coder hS _) bJ0_coder_7d493 q_i_J0_coder_7d493 q_s_J0_coder_7d493 q_m_J0_335 dJ0_length_8abf5_6 rfl rfl (by assumption) rfl (by exact Nat.le_of_ble_eq_true rfl) ⟨by decide, by decide⟩ ⟨by exact Nat.le_of_ble_eq_true rfl, by exact Nat.le_of_ble_eq_true rfl⟩ (fun r h2' z2 hp => ?_)
  obtain ⟨hz9, x, rfl, rfl, rfl⟩ := hp
  subst z2
  refine ze_ishr (pc := 9) dJ0_length_8abf5_9 ?_
  exact zn_iret dJ0_length_8abf5_10 rfl ⟨sb_shr0 _, rfl⟩
theorem s_J3_checkIndex {k n : Nat} {v : Option Nat} (hk : k < n) (hn : n < 2 ^ 31) : CPS ro yJ3_checkIndex_8e157 MJ3_checkIndex_8e157 [.int (nI k), .int (nI n), va_rf v] h (nI k) := by
  refine CIS.ofV (by decide) rfl rfl (by cases v <;> simp [Value.category, va_rf]) (by exact Nat.le_of_ble_eq_true rfl) (fun zq => ?_)
  refine ze_iload_n (pc := 0) dJ3_checkIndex_8e157_0 rfl rfl ?_
  refine ze_if_lt (pc := 1) (tgt := 9) dJ3_checkIndex_8e157_1 (by decide) (fun q => absurd q (nI_pos (by omega))) (fun _ => ?_)
  refine ze_iload_n (pc := 4) dJ3_checkIndex_8e157_4 rfl rfl ?_
  refine ze_iload_n (pc := 5) dJ3_checkIndex_8e157_5 rfl rfl ?_
  refine zn_icmp_lt (pc := 6) (tgt := 16) dJ3_checkIndex_8e157_6 (by decide) (by omega) (by omega) (fun _ => ?_) (fun q => absurd hk (by omega))
  refine ze_iload_n (pc := 16) dJ3_checkIndex_8e157_16 rfl rfl ?_
  exact zn_iret dJ3_checkIndex_8e157_17 rfl ⟨rfl, rfl⟩
theorem s_J0_checkIndex {k n : Nat} (hk : k < n) (hn : n < 2 ^ 31) : CVS ro yJ0_checkIndex_df160 MJ0_checkIndex_df160 [.int (nI k), .int (nI n)] h (fun h' => h' = h) := by
  refine CVS.ofV (by decide) rfl rfl (by simp [Value.category]) (by exact Nat.le_of_ble_eq_true rfl) (fun sz => ?_)
  refine ze_iload_n (pc := 0) dJ0_checkIndex_df160_0 rfl rfl ?_
  refine ze_iload_n (pc := 1) dJ0_checkIndex_df160_1 rfl rfl ?_
  refine ze_sioobe (pc := 2) q_f_J0_1053 dJ0_checkIndex_df160_2 (fun v => ?_)
  refine zn_S (pc := 5) (s_J3_checkIndex (v := v) hk hn) bJ3_checkIndex_8e157 q_st_J3_checkIndex_8e157 q_m_J0_1059 dJ0_checkIndex_df160_5 rfl rfl (by exact Nat.le_of_ble_eq_true rfl) ⟨by decide, by decide⟩ ⟨rfl, rfl, Nat.zero_le _, Nat.zero_le _⟩ (fun x h2 hp => ?_)
  obtain ⟨rfl, rfl⟩ := hp
  refine ze_pop (pc := 8) dJ0_checkIndex_df160_8 rfl ?_
  exact zn_vret dJ0_checkIndex_df160_9 rfl rfl
theorem by_char : ∀ c, c < 128 → ((nI c &&& 255).toUInt32 % 65536).toInt32 = nI c ∧ narrow .char (.int (nI c)) = .int (nI c) ∧ fits .byte (.int (nI c)) = true ∧ vp_nar .byte (nI c) = nI c := by decide
theorem s_J1_charAt {k n : Nat} {f : Nat → Int32} {c : Nat} (ha : h a = some (aB n f) ∨ ro.1 a = some (aB n f)) (hk : k < n) (hn : n < 100000) (hc : c < 128) (hf : f k = nI c) : CPS ro yJ1_charAt_3b067 MJ1_charAt_3b067 [.ref a, .int (nI k)] h (nI c) := by
  refine CIS.ofV (by decide) rfl rfl (by simp [Value.category]) (by exact Nat.le_of_ble_eq_true rfl) (fun sz => ?_)
  refine ze_iload_n (pc := 0) dJ1_charAt_3b067_0 rfl rfl ?_
  refine ze_aload_n (pc := 1) dJ1_charAt_3b067_1 rfl rfl ?_
  refine ze_alenB (pc := 2) dJ1_charAt_3b067_2 (by assumption) ?_
  refine zn_Sv (pc := 3) (s_J0_checkIndex hk (by omega)) bJ0_checkIndex_df160 q_st_J0_checkIndex_df160 q_m_J1_9 dJ1_charAt_3b067_3 rfl rfl (by exact Nat.le_of_ble_eq_true rfl) ⟨by decide, by decide⟩ ⟨rfl, rfl, Nat.zero_le _, Nat.zero_le _⟩ (fun h2 hp => ?_)
  subst hp
  refine ze_aload_n (pc := 6) dJ1_charAt_3b067_6 rfl rfl ?_
  refine ze_iload_n (pc := 7) dJ1_charAt_3b067_7 rfl rfl ?_
  refine ze_baldN (pc := 8) k dJ1_charAt_3b067_8 (by assumption) (by rfl) (by omega) (by first | decide | omega) ?_
  refine ze_sipush (pc := 9) (v := 255) dJ1_charAt_3b067_9 (by decide) ?_
  refine ze_iand (pc := 12) dJ1_charAt_3b067_12 ?_
  refine ze_i2c (pc := 13) (v := nI c) dJ1_charAt_3b067_13 (by rw [hf]; exact (by_char c hc).1) ?_
  exact ze_nret dJ1_charAt_3b067_14 rfl (by_char c hc).2.1 ⟨Nat.zero_le _, Nat.zero_le _⟩ ⟨rfl, _, rfl, rfl, rfl⟩
theorem s_J0_charAt {k : Nat} (hS : Str ro h B a T) (hk : k < T.length) (hn : T.length < 100000) : CPS ro yJ0_charAt_5068e MJ0_charAt_5068e [.ref a, .int (nI k)] h (nI (T.getD k 0)) := by
  obtain ⟨v, f, h1, h2, h3⟩ := hS.rd
  obtain ⟨g1, g2⟩ := h3 k hk
  refine CIS.ofV (by decide) rfl rfl (by simp [Value.category]) (by exact Nat.le_of_ble_eq_true rfl) (fun sz => ?_)
  refine ze_aload_n (pc := 0) dJ0_charAt_5068e_0 rfl rfl ?_
  refine ze_callT (pc := 1) (s_J0_isLatin1 hS _) bJ0_isLatin1_aae02 q_i_J0_isLatin1_aae02 q_s_J0_isLatin1_aae02 q_m_J0_492 dJ0_charAt_5068e_1 rfl rfl (by assumption) rfl (by exact Nat.le_of_ble_eq_true rfl) ⟨by decide, by decide⟩ ⟨by exact Nat.le_of_ble_eq_true rfl, by exact Nat.le_of_ble_eq_true rfl⟩ (fun r h2' z2 hp => ?_)
  obtain ⟨hz9, x, rfl, rfl, rfl⟩ := hp
  subst z2
  refine ze_if_eq (pc := 4) (tgt := 16) dJ0_charAt_5068e_4 (by decide) (fun q => absurd q (by decide)) (fun _ => ?_)
  refine ze_aload_n (pc := 7) dJ0_charAt_5068e_7 rfl rfl ?_
  refine ze_getO (pc := 8) fl_J0_9 dJ0_charAt_5068e_8 (by assumption) (by rfl) ?_
  refine ze_iload_n (pc := 11) dJ0_charAt_5068e_11 rfl rfl ?_
  refine zn_S (pc := 12) (s_J1_charAt (by assumption) hk hn g1 g2) bJ1_charAt_3b067 q_st_J1_charAt_3b067 q_m_J0_495 dJ0_charAt_5068e_12 rfl rfl (by exact Nat.le_of_ble_eq_true rfl) ⟨by decide, by decide⟩ ⟨rfl, rfl, Nat.zero_le _, Nat.zero_le _⟩ (fun x h2' hp => ?_)
  obtain ⟨rfl, rfl⟩ := hp
  exact ze_nret dJ0_charAt_5068e_15 rfl (by_char _ g1).2.1 ⟨Nat.zero_le _, Nat.zero_le _⟩ ⟨rfl, _, rfl, rfl, rfl⟩
end JS
/-- a StringBuilder at b that holds T: its bytes lie above it -/
def Sb (h : AH) (b v m : Nat) (f : Nat → Int32) (T : List Nat) : Prop := h b = some (ob 12 [.ref v, .int 0, .int 0, .int (nI T.length)]) ∧ b < v ∧ h v = some (aB m f) ∧ T.length ≤ m ∧ m ≤ 200 ∧ (∀ j, j < m → fits .byte (.int (f j)) = true) ∧ Bts f T
section JB
variable {ro : RT} {h : AH} {b v m : Nat} {f : Nat → Int32} {T : List Nat}
theorem s_J5_init (hb : h b = some (ob 12 [.null, .int 0, .int 0, .int 0])) : CnS ro yJ5_init_d00df MJ5_init_d00df [.ref b, .int (nI 16)] (b + 1) h (fun r h' z => r = none ∧ z = b + 2 ∧ Sb h' b (b + 1) 16 (fun _ => 0) [] ∧ ∀ q, q < b → h' q = h q) := by
  refine CnS.ofVS (by decide) rfl (fun q => rfl) (by simp [Value.category]) (by exact Nat.le_of_ble_eq_true rfl) ?_
  refine ze_aload_n (pc := 0) dJ5_init_d00df_0 rfl rfl ?_
  refine ze_objInit (pc := 1) q_m_J5_3 dJ5_init_d00df_1 (by exact Nat.le_of_ble_eq_true rfl) (by exact Nat.le_of_ble_eq_true rfl) ?_
  refine ze_compact (pc := 4) q_f_J5_18 dJ5_init_d00df_4 ?_
  refine ze_if_eq (pc := 7) (tgt := 25) dJ5_init_d00df_7 (by decide) (fun q => absurd q (by decide)) (fun _ => ?_)
  refine ze_aload_n (pc := 10) dJ5_init_d00df_10 rfl rfl ?_
  refine ze_iload_n (pc := 11) dJ5_init_d00df_11 rfl rfl ?_
  refine ze_newB (pc := 12) dJ5_init_d00df_12 rfl (by omega) ⟨by exact Nat.le_of_ble_eq_true rfl, by exact Nat.le_of_ble_eq_true rfl⟩ ?_
  refine ze_put (pc := 14) pl_J5_15 dJ5_init_d00df_14 (by repeat (first | assumption | exact hset_eq _ _ _ | rw [hset_ne _ _ (by omega)])) (by rfl) (by rfl) (by exact Nat.le_of_ble_eq_true rfl) ?_
  refine ze_aload_n (pc := 17) dJ5_init_d00df_17 rfl rfl ?_
  refine zn_iconst (pc := 18) 0 dJ5_init_d00df_18 (by decide) ?_
  refine ze_put (pc := 19) pl_J5_22 dJ5_init_d00df_19 (by repeat (first | assumption | exact hset_eq _ _ _ | rw [hset_ne _ _ (by omega)])) (by rfl) (by rfl) (by exact Nat.le_of_ble_eq_true rfl) ?_
  refine ze_goto (pc := 22) (tgt := 38) dJ5_init_d00df_22 (by decide) ?_
  refine ze_vret (pc := 38) dJ5_init_d00df_38 rfl ⟨by exact Nat.le_of_ble_eq_true rfl, by exact Nat.le_of_ble_eq_true rfl⟩ ⟨rfl, rfl, ⟨?_, by omega, ?_, by decide, by decide, fun j _ => rfl, fun j hj => by cases hj⟩, fun q hq => ?_⟩
  · rw [hset_eq]; rfl
  · rw [hset_ne _ _ (by omega), hset_ne _ _ (by omega), hset_eq]
  · rw [hset_ne _ _ (by omega), hset_ne _ _ (by omega), hset_ne _ _ (by omega)]
theorem s_J4_init (hb : h b = some (ob 12 [.null, .int 0, .int 0, .int 0])) : CnS ro yJ4_init_da8c8 MJ4_init_da8c8 [.ref b] (b + 1) h (fun r h' z => r = none ∧ z = b + 2 ∧ Sb h' b (b + 1) 16 (fun _ => 0) [] ∧ ∀ q, q < b → h' q = h q) := by
  refine CnS.ofVS (by decide) rfl (fun q => rfl) (by simp [Value.category]) (by exact Nat.le_of_ble_eq_true rfl) ?_
  refine ze_aload_n (pc := 0) dJ4_init_da8c8_0 rfl rfl ?_
  refine zn_bipush (pc := 1) 16 dJ4_init_da8c8_1 (by decide) ?_
  refine ze_callI (pc := 3) (s_J5_init hb) bJ5_init_d00df rfl rfl q_i_J5_init_d00df q_m_J4_1 dJ4_init_da8c8_3 rfl rfl (by exact Nat.le_of_ble_eq_true rfl) ⟨by decide, by decide⟩ ⟨by exact Nat.le_of_ble_eq_true rfl, by exact Nat.le_of_ble_eq_true rfl⟩ (fun r h2 z2 hp => ?_)
  obtain ⟨rfl, hp⟩ := hp
  exact ze_vret (pc := 6) dJ4_init_da8c8_6 rfl ⟨by exact Nat.le_of_ble_eq_true rfl, by exact Nat.le_of_ble_eq_true rfl⟩ ⟨rfl, hp⟩
theorem s_J5_isLatin1 (hB : Sb h b v m f T) : CPS ro yJ5_isLatin1_aae02 MJ5_isLatin1_aae02 [.ref b] h 1 := by
  obtain ⟨b1, b2, b3, b4, b5, b6, b7⟩ := id hB
  refine CIS.ofV (by decide) rfl rfl (by simp [Value.category]) (by exact Nat.le_of_ble_eq_true rfl) (fun sz => ?_)
  refine ze_compact (pc := 0) q_f_J5_18 dJ5_isLatin1_aae02_0 ?_
  refine ze_if_eq (pc := 3) (tgt := 17) dJ5_isLatin1_aae02_3 (by decide) (fun q => absurd q (by decide)) (fun _ => ?_)
  refine ze_aload_n (pc := 6) dJ5_isLatin1_aae02_6 rfl rfl ?_
  refine ze_get (pc := 7) fl_J5_22 dJ5_isLatin1_aae02_7 (by repeat (first | assumption | exact hset_eq _ _ _ | rw [hset_ne _ _ (by omega)])) (by rfl) ?_
  refine ze_if_ne (pc := 10) (tgt := 17) dJ5_isLatin1_aae02_10 (by decide) (fun q => absurd rfl q) (fun _ => ?_)
  refine zn_iconst (pc := 13) 1 dJ5_isLatin1_aae02_13 (by decide) ?_
  refine ze_goto (pc := 14) (tgt := 18) dJ5_isLatin1_aae02_14 (by decide) ?_
  exact zn_zret dJ5_isLatin1_aae02_18 rfl rfl ⟨rfl, rfl⟩
theorem s_J5_length (hB : Sb h b v m f T) : CPS ro yJ5_length_8abf5 MJ5_length_8abf5 [.ref b] h (nI T.length) := by
  obtain ⟨b1, b2, b3, b4, b5, b6, b7⟩ := id hB
  refine CIS.ofV (by decide) rfl rfl (by simp [Value.category]) (by exact Nat.le_of_ble_eq_true rfl) (fun sz => ?_)
  refine ze_aload_n (pc := 0) dJ5_length_8abf5_0 rfl rfl ?_
  refine ze_get (pc := 1) fl_J5_79 dJ5_length_8abf5_1 (by repeat (first | assumption | exact hset_eq _ _ _ | rw [hset_ne _ _ (by omega)])) (by rfl) ?_
  exact zn_iret dJ5_length_8abf5_4 rfl ⟨rfl, rfl⟩
theorem s_J4_length (hB : Sb h b v m f T) : CPS ro yJ4_length_8abf5 MJ4_length_8abf5 [.ref b] h (nI T.length) := by
  obtain ⟨b1, b2, b3, b4, b5, b6, b7⟩ := id hB
  refine CIS.ofV (by decide) rfl rfl (by simp [Value.category]) (by exact Nat.le_of_ble_eq_true rfl) (fun sz => ?_)
  refine ze_aload_n (pc := 0) dJ4_length_8abf5_0 rfl rfl ?_
  refine ze_callSU (pc := 1) (s_J5_length hB _) bJ5_length_8abf5 (by decide) q_m_J4_343 q_sm_J5_J5_length_8abf5 q_su_J4_J5 q_i_J5_length_8abf5 dJ4_length_8abf5_1 rfl rfl (by repeat (first | assumption | exact hset_eq _ _ _ | rw [hset_ne _ _ (by omega)])) (by exact Nat.le_of_ble_eq_true rfl) ⟨by decide, by decide⟩ ⟨by exact Nat.le_of_ble_eq_true rfl, by exact Nat.le_of_ble_eq_true rfl⟩ (fun r h2 z2 hp => ?_)
  obtain ⟨hz9, x, rfl, rfl, rfl⟩ := hp
  subst z2
  exact zn_iret dJ4_length_8abf5_4 rfl ⟨rfl, rfl⟩
theorem s_J5_getValue {zq : Nat} (hB : Sb h b v m f T) : CnS ro yJ5_getValue_6d5f1 MJ5_getValue_6d5f1 [.ref b] zq h (fun r h' z => r = some (.ref v) ∧ z = zq ∧ h' = h) := by
  obtain ⟨b1, b2, b3, b4, b5, b6, b7⟩ := id hB
  refine CnS.ofVS (by decide) rfl (fun q => by cases q) (by simp [Value.category]) (by exact Nat.le_of_ble_eq_true rfl) ?_
  refine ze_aload_n (pc := 0) dJ5_getValue_6d5f1_0 rfl rfl ?_
  refine ze_get (pc := 1) fl_J5_15 dJ5_getValue_6d5f1_1 (by repeat (first | assumption | exact hset_eq _ _ _ | rw [hset_ne _ _ (by omega)])) (by rfl) ?_
  exact ze_aretR dJ5_getValue_6d5f1_4 (Or.inr ⟨_, rfl⟩) ⟨Nat.zero_le _, Nat.zero_le _⟩ ⟨rfl, rfl, rfl⟩
end JB
