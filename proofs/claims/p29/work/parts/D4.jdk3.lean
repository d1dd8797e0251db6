/-! ===== an int is appended; the text is taken out ===== -/
def dgn (w : Nat) : Nat := if w < 10 then 1 else 2
def dec (w : Nat) : List Nat := if w < 10 then [48 + w] else [48 + w / 10, 48 + w % 10]
theorem dec_len (w : Nat) : (dec w).length = dgn w := by unfold dec dgn; split <;> rfl
theorem dgn_b (w : Nat) : 1 ≤ dgn w ∧ dgn w ≤ 2 := by unfold dgn; split <;> omega
/-- the digits' tables -/
def DT (ro : RT) : Prop := (∃ f, ro.1 (ro.2 8) = some (aB 100 f) ∧ ∀ j, j < 100 → f j = nI (48 + j % 10)) ∧ ∃ f, ro.1 (ro.2 9) = some (aB 100 f) ∧ ∀ j, j < 100 → f j = nI (48 + j / 10)
/-- a String that was made at a: its bytes lie behind it -/
def MS (h : AH) (a : Nat) (T : List Nat) : Prop := ∃ g, h a = some (ob 11 [.ref (a + 1), .int 0]) ∧ h (a + 1) = some (aB T.length g) ∧ Bts g T
theorem MS.kept {h h2 : AH} {a : Nat} {T : List Nat} (hM : MS h a T) (e0 : h2 a = h a) (e1 : h2 (a + 1) = h (a + 1)) : MS h2 a T := by
  obtain ⟨g, g1, g2, g3⟩ := hM
  exact ⟨g, e0.trans g1, e1.trans g2, g3⟩
theorem MS.str {ro : RT} {h : AH} {a B : Nat} {T : List Nat} (hM : MS h a T) (hB : a + 1 < B) : Str ro h B a T := by
  obtain ⟨g, g1, g2, g3⟩ := hM
  exact ⟨a + 1, g, Or.inl ⟨g1, g2, by omega, hB⟩, g3⟩
section JI
variable {ro : RT} {h : AH} {b v m s B zq : Nat} {f : Nat → Int32} {T S : List Nat}
theorem s_J6_stringSize {w : Nat} (hw : w < 100) : CPS ro yJ6_stringSize_0f7a4 MJ6_stringSize_0f7a4 [.int (nI w)] h (nI (dgn w)) := by
  refine CIS.ofV (by decide) rfl rfl (by simp [Value.category]) (by exact Nat.le_of_ble_eq_true rfl) (fun sz => ?_)
  refine zn_iconst (pc := 0) 1 dJ6_stringSize_0f7a4_0 (by decide) ?_
  refine ze_istore_n (pc := 1) dJ6_stringSize_0f7a4_1 rfl (by decide) ?_
  refine ze_iload_n (pc := 2) dJ6_stringSize_0f7a4_2 rfl rfl ?_
  refine ze_if_lt (pc := 3) (tgt := 11) dJ6_stringSize_0f7a4_3 (by decide) (fun q => absurd q (nI_pos (by omega))) (fun _ => ?_)
  refine zn_iconst (pc := 6) 0 dJ6_stringSize_0f7a4_6 (by decide) ?_
  refine ze_istore_n (pc := 7) dJ6_stringSize_0f7a4_7 rfl (by decide) ?_
  refine ze_iload_n (pc := 8) dJ6_stringSize_0f7a4_8 rfl rfl ?_
  refine ze_ineg (pc := 9) dJ6_stringSize_0f7a4_9 ?_
  refine ze_istore_n (pc := 10) dJ6_stringSize_0f7a4_10 rfl (by decide) ?_
  refine ze_bipush (pc := 11) (v := -10) dJ6_stringSize_0f7a4_11 (by decide) ?_
  refine ze_istore_n (pc := 13) dJ6_stringSize_0f7a4_13 rfl (by decide) ?_
  refine zn_iconst (pc := 14) 1 dJ6_stringSize_0f7a4_14 (by decide) ?_
  refine ze_istore_n (pc := 15) dJ6_stringSize_0f7a4_15 rfl (by decide) ?_
  refine ze_iload_n (pc := 16) dJ6_stringSize_0f7a4_16 rfl rfl ?_
  refine zn_bipush (pc := 17) 10 dJ6_stringSize_0f7a4_17 (by decide) ?_
  refine zn_icmp_ge (pc := 19) (tgt := 42) dJ6_stringSize_0f7a4_19 (by decide) (by omega) (by omega) (fun c => absurd c (by omega)) (fun c => ?_)
  refine ze_iload_n (pc := 22) dJ6_stringSize_0f7a4_22 rfl rfl ?_
  refine ze_iload_n (pc := 23) dJ6_stringSize_0f7a4_23 rfl rfl ?_
  refine ze_icmp_le (pc := 24) (tgt := 31) dJ6_stringSize_0f7a4_24 (by decide) (fun c => ?_) (fun c => ?_)
  · have c2 : 10 ≤ w := (sb_nle (a := w) (b := 10) (by omega) (by omega)).mp c
    refine zn_bipush (pc := 31) 10 dJ6_stringSize_0f7a4_31 (by decide) ?_
    refine ze_iload_n (pc := 33) dJ6_stringSize_0f7a4_33 rfl rfl ?_
    refine ze_imul (pc := 34) dJ6_stringSize_0f7a4_34 ?_
    refine ze_istore_n (pc := 35) dJ6_stringSize_0f7a4_35 rfl (by decide) ?_
    refine zn_inc (pc := 36) dJ6_stringSize_0f7a4_36 rfl (by decide) ?_
    refine ze_goto (pc := 39) (tgt := 16) dJ6_stringSize_0f7a4_39 (by decide) ?_
    refine ze_iload_n (pc := 16) dJ6_stringSize_0f7a4_16 rfl rfl ?_
    refine zn_bipush (pc := 17) 10 dJ6_stringSize_0f7a4_17 (by decide) ?_
    refine zn_icmp_ge (pc := 19) (tgt := 42) dJ6_stringSize_0f7a4_19 (by decide) (by omega) (by omega) (fun c => absurd c (by omega)) (fun c => ?_)
    refine ze_iload_n (pc := 22) dJ6_stringSize_0f7a4_22 rfl rfl ?_
    refine ze_iload_n (pc := 23) dJ6_stringSize_0f7a4_23 rfl rfl ?_
    refine ze_icmp_le (pc := 24) (tgt := 31) dJ6_stringSize_0f7a4_24 (by decide) (fun c => ?_) (fun c => ?_)
    · exact absurd ((sb_nle (a := w) (b := 100) (by omega) (by omega)).mp c) (by omega)
    · refine ze_iload_n (pc := 27) dJ6_stringSize_0f7a4_27 rfl rfl ?_
      refine ze_iload_n (pc := 28) dJ6_stringSize_0f7a4_28 rfl rfl ?_
      refine zn_iadd (pc := 29) dJ6_stringSize_0f7a4_29 ?_
      exact zn_iret dJ6_stringSize_0f7a4_30 rfl ⟨by unfold dgn; rw [if_neg (by omega)], rfl⟩
  · have c2 : ¬ 10 ≤ w := fun z => c ((sb_nle (a := w) (b := 10) (by omega) (by omega)).mpr z)
    refine ze_iload_n (pc := 27) dJ6_stringSize_0f7a4_27 rfl rfl ?_
    refine ze_iload_n (pc := 28) dJ6_stringSize_0f7a4_28 rfl rfl ?_
    refine zn_iadd (pc := 29) dJ6_stringSize_0f7a4_29 ?_
    exact zn_iret dJ6_stringSize_0f7a4_30 rfl ⟨by unfold dgn; rw [if_pos (by omega)], rfl⟩
theorem by_nar {j : Nat} (h : j < 128) : vp_nar .byte (nI j) = nI j := (by_char j h).2.2.2
theorem s_J6_getChars {w n : Nat} (hD : DT ro) (hw : w < 100) (hv : h v = some (aB m f)) (hf : ∀ j, j < m → fits .byte (.int (f j)) = true) (hn : n + dgn w ≤ m) (hm : m ≤ 200) : CIS ro yJ6_getChars_ba4f3 MJ6_getChars_ba4f3 [.int (nI w), .int (nI (n + dgn w)), .ref v] h (fun _ h' => ∃ f2, h' = hset h v (aB m f2) ∧ Laid f f2 m n (dec w)) := by
  obtain ⟨⟨fo, o1, o2⟩, ft, t1, t2⟩ := id hD
  have hg := dgn_b w
  refine CIS.ofV (by decide) rfl rfl (by simp [Value.category]) (by exact Nat.le_of_ble_eq_true rfl) (fun sz => ?_)
  refine ze_iload_n (pc := 0) dJ6_getChars_ba4f3_0 rfl rfl ?_
  refine ze_istore (pc := 1) dJ6_getChars_ba4f3_1 (by decide) ?_
  refine ze_iload_n (pc := 3) dJ6_getChars_ba4f3_3 rfl rfl ?_
  refine ze_if_ge (pc := 4) (tgt := 11) dJ6_getChars_ba4f3_4 (by decide) (fun _ => ?_) (fun c => absurd (show (0 : Int32) ≤ nI w from Int32.not_lt.mp (nI_pos (by omega))) c)
  refine zn_iconst (pc := 11) 0 dJ6_getChars_ba4f3_11 (by decide) ?_
  refine ze_istore (pc := 12) dJ6_getChars_ba4f3_12 (by decide) ?_
  refine ze_iload (pc := 14) dJ6_getChars_ba4f3_14 rfl ?_
  refine zn_if_ne (pc := 16) (tgt := 22) dJ6_getChars_ba4f3_16 (by decide) (by omega) (fun c => absurd c (by omega)) (fun c => ?_)
  refine ze_iload_n (pc := 19) dJ6_getChars_ba4f3_19 rfl rfl ?_
  refine ze_ineg (pc := 20) dJ6_getChars_ba4f3_20 ?_
  refine ze_istore_n (pc := 21) dJ6_getChars_ba4f3_21 rfl (by decide) ?_
  refine ze_iload_n (pc := 22) dJ6_getChars_ba4f3_22 rfl rfl ?_
  refine ze_bipush (pc := 23) (v := -100) dJ6_getChars_ba4f3_23 (by decide) ?_
  refine ze_icmp_gt (pc := 25) (tgt := 72) dJ6_getChars_ba4f3_25 (by decide) (fun _ => ?_) (fun c => absurd ((sb_nlt (a := 100) (b := w) (by omega) (by omega)).mpr hw) c)
  refine ze_aload_n (pc := 72) dJ6_getChars_ba4f3_72 rfl rfl ?_
  refine ze_iinc (pc := 73) (v := nI (n + dgn w - 1)) dJ6_getChars_ba4f3_73 rfl (sb_m1 (by omega)) (by decide) ?_
  refine ze_iload (pc := 76) dJ6_getChars_ba4f3_76 rfl ?_
  refine ze_ones (pc := 78) q_f_J6_83 dJ6_getChars_ba4f3_78 ?_
  refine ze_iload_n (pc := 81) dJ6_getChars_ba4f3_81 rfl rfl ?_
  refine ze_ineg (pc := 82) dJ6_getChars_ba4f3_82 ?_
  refine ze_top Int32.neg_neg ?_
  refine ze_baldN (pc := 83) (w) dJ6_getChars_ba4f3_83 (Or.inr o1) (by rfl) (by omega) (by first | decide | omega) ?_
  refine ze_top (o2 w (by omega)) ?_
  refine ze_bastN (pc := 84) (n + dgn w - 1) dJ6_getChars_ba4f3_84 (by repeat (first | assumption | exact hset_eq _ _ _ | rw [hset_ne _ _ (by omega)])) (by rfl) (by omega) (by first | decide | omega) ?_
  rw [by_nar (by omega)]
  refine ze_iload_n (pc := 85) dJ6_getChars_ba4f3_85 rfl rfl ?_
  refine ze_bipush (pc := 86) (v := -9) dJ6_getChars_ba4f3_86 (by decide) ?_
  refine ze_icmp_ge (pc := 88) (tgt := 104) dJ6_getChars_ba4f3_88 (by decide) (fun c => ?_) (fun c => ?_)
  · have c2 : w ≤ 9 := (sb_nle (a := 9) (b := w) (by omega) (by omega)).mp c
    refine ze_iload (pc := 104) dJ6_getChars_ba4f3_104 rfl ?_
    refine zn_if_eq (pc := 106) (tgt := 118) dJ6_getChars_ba4f3_106 (by decide) (by omega) (fun c => ?_) (fun c => absurd c (by omega))
    refine ze_iload (pc := 118) dJ6_getChars_ba4f3_118 rfl ?_
    have hd1 : dgn w = 1 := by unfold dgn; rw [if_pos (by omega)]
    have hd2 : dec w = [48 + w] := by unfold dec; rw [if_pos (by omega)]
    refine zn_iret dJ6_getChars_ba4f3_120 rfl ⟨_, rfl, fun j hj => ?_, fun j hj => ?_, fun j hj => ?_⟩
    · unfold upd
      split
      · exact (by_char _ (by omega)).2.2.1
      · exact hf j hj
    · unfold upd
      rw [if_neg (by omega)]
    · rw [hd2] at hj ⊢
      have hj0 : j = 0 := by simpa using hj
      subst hj0
      unfold upd
      rw [if_pos (by omega), show w % 10 = w by omega]
      rfl
  · have c2 : ¬ w ≤ 9 := fun z => c ((sb_nle (a := 9) (b := w) (by omega) (by omega)).mpr z)
    have hd1 : dgn w = 2 := by unfold dgn; rw [if_neg (by omega)]
    have hd2 : dec w = [48 + w / 10, 48 + w % 10] := by unfold dec; rw [if_neg (by omega)]
    refine ze_aload_n (pc := 91) dJ6_getChars_ba4f3_91 rfl rfl ?_
    refine ze_iinc (pc := 92) (v := nI (n + dgn w - 1 - 1)) dJ6_getChars_ba4f3_92 rfl (sb_m1 (by omega)) (by decide) ?_
    refine ze_iload (pc := 95) dJ6_getChars_ba4f3_95 rfl ?_
    refine ze_tens (pc := 97) q_f_J6_87 dJ6_getChars_ba4f3_97 ?_
    refine ze_iload_n (pc := 100) dJ6_getChars_ba4f3_100 rfl rfl ?_
    refine ze_ineg (pc := 101) dJ6_getChars_ba4f3_101 ?_
    refine ze_top Int32.neg_neg ?_
    refine ze_baldN (pc := 102) (w) dJ6_getChars_ba4f3_102 (Or.inr t1) (by rfl) (by omega) (by first | decide | omega) ?_
    refine ze_top (t2 w (by omega)) ?_
    refine ze_bastN (pc := 103) (n + dgn w - 1 - 1) dJ6_getChars_ba4f3_103 (by repeat (first | assumption | exact hset_eq _ _ _ | rw [hset_ne _ _ (by omega)])) (by rfl) (by omega) (by first | decide | omega) ?_
    rw [by_nar (by omega), hset_hset]
    refine ze_iload (pc := 104) dJ6_getChars_ba4f3_104 rfl ?_
    refine zn_if_eq (pc := 106) (tgt := 118) dJ6_getChars_ba4f3_106 (by decide) (by omega) (fun c => ?_) (fun c => absurd c (by omega))
    refine ze_iload (pc := 118) dJ6_getChars_ba4f3_118 rfl ?_
    refine zn_iret dJ6_getChars_ba4f3_120 rfl ⟨_, rfl, fun j hj => ?_, fun j hj => ?_, fun j hj => ?_⟩
    · unfold upd
      split
      · exact (by_char _ (by omega)).2.2.1
      · split
        · exact (by_char _ (by omega)).2.2.1
        · exact hf j hj
    · unfold upd
      rw [if_neg (by omega), if_neg (by omega)]
    · rw [hd2] at hj ⊢
      have hj2 : j < 2 := hj
      unfold upd
      match j, hj2 with
      | 0, _ => rw [if_pos (by omega)]; rfl
      | 1, _ => rw [if_neg (by omega), if_pos (by omega)]; rfl
theorem dec_lt {w : Nat} (hw : w < 100) : ∀ j, j < (dec w).length → (dec w).getD j 0 < 128 := fun j hj => by
  unfold dec at hj ⊢
  split at hj
  · have hj0 : j = 0 := by simpa using hj
    subst hj0
    rw [if_pos (by assumption)]
    show 48 + w < 128
    omega
  · rw [if_neg (by assumption)]
    have hj2 : j < 2 := hj
    match j, hj2 with
    | 0, _ => show 48 + w / 10 < 128; omega
    | 1, _ => show 48 + w % 10 < 128; omega
theorem s_J5_appendI {w : Nat} (hD : DT ro) (hw : w < 100) (hB : Sb h b v m f T) (hvz : v < zq) (hl : T.length + 2 ≤ 100) : CnS ro yJ5_append_c97b9 MJ5_append_c97b9 [.ref b, .int (nI w)] zq h (Apd b zq h (T ++ dec w)) := by
  obtain ⟨b1, -, -⟩ := id hB
  have hg := dgn_b w
  refine CnS.ofVS (by decide) rfl (fun q => by cases q) (by simp [Value.category]) (by exact Nat.le_of_ble_eq_true rfl) ?_
  refine ze_aload_n (pc := 0) dJ5_append_c97b9_0 rfl rfl ?_
  refine ze_get (pc := 1) fl_J5_79 dJ5_append_c97b9_1 (by repeat (first | assumption | exact hset_eq _ _ _ | rw [hset_ne _ _ (by omega)])) (by rfl) ?_
  refine ze_istore_n (pc := 4) dJ5_append_c97b9_4 rfl (by decide) ?_
  refine ze_iload_n (pc := 5) dJ5_append_c97b9_5 rfl rfl ?_
  refine ze_iload_n (pc := 6) dJ5_append_c97b9_6 rfl rfl ?_
  refine zn_S (pc := 7) (s_J6_stringSize hw) bJ6_stringSize_0f7a4 q_st_J6_stringSize_0f7a4 q_m_J5_245 dJ5_append_c97b9_7 rfl rfl (by exact Nat.le_of_ble_eq_true rfl) ⟨by decide, by decide⟩ ⟨rfl, rfl, Nat.zero_le _, Nat.zero_le _⟩ (fun x h2 hp => ?_)
  obtain ⟨rfl, rfl⟩ := hp
  refine zn_iadd (pc := 10) dJ5_append_c97b9_10 ?_
  refine ze_istore_n (pc := 11) dJ5_append_c97b9_11 rfl (by decide) ?_
  refine ze_aload_n (pc := 12) dJ5_append_c97b9_12 rfl rfl ?_
  refine ze_iload_n (pc := 13) dJ5_append_c97b9_13 rfl rfl ?_
  refine ze_callU (pc := 14) (s_J5_ensure (zq := zq) hB hvz (by omega)) bJ5_ensureCapacityInternal_d00df rfl (by decide +kernel) q_m_J5_100 q_sm_J5_J5_ensureCapacityInternal_d00df q_s_J4_J5_ensureCapacityInternal_d00df q_i_J5_ensureCapacityInternal_d00df dJ5_append_c97b9_14 rfl rfl (by repeat (first | assumption | exact hset_eq _ _ _ | rw [hset_ne _ _ (by omega)])) (by exact Nat.le_of_ble_eq_true rfl) ⟨by decide, by decide⟩ ⟨by exact Nat.le_of_ble_eq_true rfl, by exact Nat.le_of_ble_eq_true rfl⟩ (fun r h3 z3 hp => ?_)
  obtain ⟨rfl, v2, m2, f2, hB2, q1, q2, q3, q4, q5⟩ := hp
  obtain ⟨c1, c2, c3, c4, c5, c6, c7⟩ := id hB2
  refine ze_aload_n (pc := 17) dJ5_append_c97b9_17 rfl rfl ?_
  refine ze_callU (pc := 18) (s_J5_isLatin1 hB2 _) bJ5_isLatin1_aae02 rfl (by decide +kernel) q_m_J5_83 q_sm_J5_J5_isLatin1_aae02 q_s_J4_J5_isLatin1_aae02 q_i_J5_isLatin1_aae02 dJ5_append_c97b9_18 rfl rfl (by repeat (first | assumption | exact hset_eq _ _ _ | rw [hset_ne _ _ (by omega)])) (by exact Nat.le_of_ble_eq_true rfl) ⟨by decide, by decide⟩ ⟨by exact Nat.le_of_ble_eq_true rfl, by exact Nat.le_of_ble_eq_true rfl⟩ (fun r h4 z4 hp => ?_)
  obtain ⟨hz9, x, rfl, rfl, rfl⟩ := hp
  subst z4
  refine ze_if_eq (pc := 21) (tgt := 37) dJ5_append_c97b9_21 (by decide) (fun q => absurd q (by decide)) (fun _ => ?_)
  refine ze_iload_n (pc := 24) dJ5_append_c97b9_24 rfl rfl ?_
  refine ze_iload_n (pc := 25) dJ5_append_c97b9_25 rfl rfl ?_
  refine ze_aload_n (pc := 26) dJ5_append_c97b9_26 rfl rfl ?_
  refine ze_get (pc := 27) fl_J5_15 dJ5_append_c97b9_27 (by repeat (first | assumption | exact hset_eq _ _ _ | rw [hset_ne _ _ (by omega)])) (by rfl) ?_
  refine ze_callS (pc := 30) (s_J6_getChars hD hw c3 c6 q1 c5 _) bJ6_getChars_ba4f3 q_st_J6_getChars_ba4f3 q_m_J5_248 dJ5_append_c97b9_30 rfl rfl (by exact Nat.le_of_ble_eq_true rfl) ⟨by decide, by decide⟩ ⟨by exact Nat.le_of_ble_eq_true rfl, by exact Nat.le_of_ble_eq_true rfl⟩ (fun r h5 z5 hp => ?_)
  obtain ⟨hz9, x, rfl, f3, rfl, hL⟩ := hp
  subst z5
  refine ze_pop (pc := 33) dJ5_append_c97b9_33 rfl ?_
  refine ze_goto (pc := 34) (tgt := 48) dJ5_append_c97b9_34 (by decide) ?_
  refine ze_aload_n (pc := 48) dJ5_append_c97b9_48 rfl rfl ?_
  refine ze_iload_n (pc := 49) dJ5_append_c97b9_49 rfl rfl ?_
  refine ze_put (pc := 50) pl_J5_79 dJ5_append_c97b9_50 (by repeat (first | assumption | exact hset_eq _ _ _ | rw [hset_ne _ _ (by omega)])) (by rfl) (by rfl) (by exact Nat.le_of_ble_eq_true rfl) ?_
  refine ze_aload_n (pc := 53) dJ5_append_c97b9_53 rfl rfl ?_
  refine ze_aretR dJ5_append_c97b9_54 (Or.inl ⟨_, rfl⟩) ⟨by exact Nat.le_of_ble_eq_true rfl, by exact Nat.le_of_ble_eq_true rfl⟩ ⟨rfl, v2, m2, f3, ⟨?_, c2, by rw [hset_ne _ _ (by omega), hset_eq], by rw [List.length_append, dec_len]; omega, c5, hL.1, c7.app (dec_lt hw) hL⟩, q2, q3, q4, fun x hx => ?_⟩
  · rw [hset_eq, List.length_append, dec_len]; rfl
  · rw [hset_ne _ _ (by omega), hset_ne _ _ (by omega)]
    exact q5 x hx
theorem s_J4_appendI {w : Nat} (hD : DT ro) (hw : w < 100) (hB : Sb h b v m f T) (hvz : v < zq) (hl : T.length + 2 ≤ 100) : CnS ro yJ4_append_bf812 MJ4_append_bf812 [.ref b, .int (nI w)] zq h (Apd b zq h (T ++ dec w)) := by
  obtain ⟨b1, -, -⟩ := id hB
  refine CnS.ofVS (by decide) rfl (fun q => by cases q) (by simp [Value.category]) (by exact Nat.le_of_ble_eq_true rfl) ?_
  refine ze_aload_n (pc := 0) dJ4_append_bf812_0 rfl rfl ?_
  refine ze_iload_n (pc := 1) dJ4_append_bf812_1 rfl rfl ?_
  refine ze_callSU (pc := 2) (s_J5_appendI hD hw hB hvz hl) bJ5_append_c97b9 (by decide) q_m_J4_53 q_sm_J5_J5_append_c97b9 q_su_J4_J5 q_i_J5_append_c97b9 dJ4_append_bf812_2 rfl rfl (by repeat (first | assumption | exact hset_eq _ _ _ | rw [hset_ne _ _ (by omega)])) (by exact Nat.le_of_ble_eq_true rfl) ⟨by decide, by decide⟩ ⟨by exact Nat.le_of_ble_eq_true rfl, by exact Nat.le_of_ble_eq_true rfl⟩ (fun r h2 z2 hp => ?_)
  obtain ⟨rfl, hp⟩ := hp
  refine ze_pop (pc := 5) dJ4_append_bf812_5 rfl ?_
  refine ze_aload_n (pc := 6) dJ4_append_bf812_6 rfl rfl ?_
  exact ze_aretR dJ4_append_bf812_7 (Or.inl ⟨_, rfl⟩) ⟨by exact Nat.le_of_ble_eq_true rfl, by exact Nat.le_of_ble_eq_true rfl⟩ ⟨rfl, hp⟩
theorem s_J7_checkLength {x y : Nat} (hxy : x ≤ y) (hy : y < 100000) : CVS ro yJ7_checkLength_df160 MJ7_checkLength_df160 [.int (nI x), .int (nI y)] h (fun h' => h' = h) := by
  refine CVS.ofV (by decide) rfl rfl (by simp [Value.category]) (by exact Nat.le_of_ble_eq_true rfl) (fun sz => ?_)
  refine ze_iload_n (pc := 0) dJ7_checkLength_df160_0 rfl rfl ?_
  refine ze_iload_n (pc := 1) dJ7_checkLength_df160_1 rfl rfl ?_
  refine zn_icmp_ge (pc := 2) (tgt := 37) dJ7_checkLength_df160_2 (by decide) (by omega) (by omega) (fun c => ?_) (fun c => absurd c (by omega))
  exact zn_vret (pc := 37) dJ7_checkLength_df160_37 rfl rfl
/-- n bytes of f laid anew at zq -/
def Cut (zq n : Nat) (f : Nat → Int32) (h : AH) (r : Option Value) (h' : AH) (z : Nat) : Prop := r = some (.ref zq) ∧ z = zq + 1 ∧ ∃ g, h' = hset h zq (aB n g) ∧ ∀ j, j < n → g j = f j
theorem s_J7_copyOfRangeByte {a n : Nat} (ha : h a = some (aB m f)) (haz : a < zq) (hn : n ≤ m) (hm : m ≤ 200) (hf : ∀ j, j < m → fits .byte (.int (f j)) = true) : CnS ro yJ7_copyOfRangeByte_39247 MJ7_copyOfRangeByte_39247 [.ref a, .int (nI 0), .int (nI n)] zq h (Cut zq n f h) := by
  refine CnS.ofVS (by decide) rfl (fun q => by cases q) (by simp [Value.category]) (by exact Nat.le_of_ble_eq_true rfl) ?_
  refine ze_iload_n (pc := 0) dJ7_copyOfRangeByte_39247_0 rfl rfl ?_
  refine ze_iload_n (pc := 1) dJ7_copyOfRangeByte_39247_1 rfl rfl ?_
  refine ze_callS (pc := 2) (s_J7_checkLength (Nat.zero_le n) (by omega) _) bJ7_checkLength_df160 q_st_J7_checkLength_df160 q_m_J7_343 dJ7_copyOfRangeByte_39247_2 rfl rfl (by exact Nat.le_of_ble_eq_true rfl) ⟨by decide, by decide⟩ ⟨by exact Nat.le_of_ble_eq_true rfl, by exact Nat.le_of_ble_eq_true rfl⟩ (fun r h2 z2 hp => ?_)
  obtain ⟨hz9, rfl, rfl⟩ := hp
  subst z2
  refine ze_iload_n (pc := 5) dJ7_copyOfRangeByte_39247_5 rfl rfl ?_
  refine ze_iload_n (pc := 6) dJ7_copyOfRangeByte_39247_6 rfl rfl ?_
  refine zn_isub (pc := 7) dJ7_copyOfRangeByte_39247_7 (Nat.zero_le _) ?_
  refine ze_top (congrArg nI (Nat.sub_zero n)) ?_
  refine ze_istore_n (pc := 8) dJ7_copyOfRangeByte_39247_8 rfl (by decide) ?_
  refine ze_iload_n (pc := 9) dJ7_copyOfRangeByte_39247_9 rfl rfl ?_
  refine ze_newB (pc := 10) dJ7_copyOfRangeByte_39247_10 rfl (by omega) ⟨by exact Nat.le_of_ble_eq_true rfl, by show 0 + 0 + n ≤ 400; omega⟩ ?_
  refine ze_astore (pc := 12) dJ7_copyOfRangeByte_39247_12 (by decide) ?_
  refine ze_aload_n (pc := 14) dJ7_copyOfRangeByte_39247_14 rfl rfl ?_
  refine ze_iload_n (pc := 15) dJ7_copyOfRangeByte_39247_15 rfl rfl ?_
  refine ze_aload (pc := 16) dJ7_copyOfRangeByte_39247_16 rfl ?_
  refine zn_iconst (pc := 18) 0 dJ7_copyOfRangeByte_39247_18 (by decide) ?_
  refine ze_aload_n (pc := 19) dJ7_copyOfRangeByte_39247_19 rfl rfl ?_
  refine ze_alenB (pc := 20) dJ7_copyOfRangeByte_39247_20 (Or.inl (by repeat (first | assumption | exact hset_eq _ _ _ | rw [hset_ne _ _ (by omega)]))) ?_
  refine ze_iload_n (pc := 21) dJ7_copyOfRangeByte_39247_21 rfl rfl ?_
  refine zn_isub (pc := 22) dJ7_copyOfRangeByte_39247_22 (Nat.zero_le _) ?_
  refine ze_top (congrArg nI (Nat.sub_zero m)) ?_
  refine ze_iload_n (pc := 23) dJ7_copyOfRangeByte_39247_23 rfl rfl ?_
  refine zn_mmin (pc := 24) q_m_J7_304 dJ7_copyOfRangeByte_39247_24 (by decide) (by omega) (by omega) (by exact Nat.le_of_ble_eq_true rfl) ⟨by exact Nat.le_of_ble_eq_true rfl, by show 0 + 0 + n ≤ 400; omega⟩ ?_
  refine ze_top (congrArg nI (Nat.min_eq_right (by omega))) ?_
  refine ze_copyB (pc := 27) (sp := 0) (dp := 0) (N := n) (n0 := m) (f := f) (n1 := n) (g := fun _ => 0) q_m_J7_150 dJ7_copyOfRangeByte_39247_27 (Or.inl (by rw [hset_ne _ _ (by omega)]; exact ha)) (hset_eq _ _ _) (by omega) (by omega) (by omega) (by omega) (fun i hi => by rw [Nat.zero_add]; exact hf i (by omega)) (by decide) (by exact Nat.le_of_ble_eq_true rfl) ?_
  refine ze_aload (pc := 30) dJ7_copyOfRangeByte_39247_30 rfl ?_
  refine ze_aretR dJ7_copyOfRangeByte_39247_32 (Or.inr ⟨_, rfl⟩) ⟨by exact Nat.le_of_ble_eq_true rfl, by show 0 + 0 + n ≤ 400; omega⟩ ⟨rfl, rfl, _, hset_hset _ _ _ _, fun j hj => ?_⟩
  unfold va_cpy
  rw [if_pos (by omega)]
  congr 1
  omega
theorem s_J7_copyOfRange {a n : Nat} (ha : h a = some (aB m f)) (haz : a < zq) (hn : n ≤ m) (hm : m ≤ 200) (hf : ∀ j, j < m → fits .byte (.int (f j)) = true) : CnS ro yJ7_copyOfRange_39247 MJ7_copyOfRange_39247 [.ref a, .int (nI 0), .int (nI n)] zq h (Cut zq n f h) := by
  refine CnS.ofVS (by decide) rfl (fun q => by cases q) (by simp [Value.category]) (by exact Nat.le_of_ble_eq_true rfl) ?_
  refine ze_iload_n (pc := 0) dJ7_copyOfRange_39247_0 rfl rfl ?_
  refine zn_if_ne (pc := 1) (tgt := 10) dJ7_copyOfRange_39247_1 (by decide) (by omega) (fun c => absurd c (by omega)) (fun c => ?_)
  refine ze_iload_n (pc := 4) dJ7_copyOfRange_39247_4 rfl rfl ?_
  refine ze_aload_n (pc := 5) dJ7_copyOfRange_39247_5 rfl rfl ?_
  refine ze_alenB (pc := 6) dJ7_copyOfRange_39247_6 (Or.inl (by repeat (first | assumption | exact hset_eq _ _ _ | rw [hset_ne _ _ (by omega)]))) ?_
  refine zn_icmp_eq (pc := 7) (tgt := 17) dJ7_copyOfRange_39247_7 (by decide) (by omega) (by omega) (fun c => ?_) (fun c => ?_)
  · subst c
    refine ze_aload_n (pc := 17) dJ7_copyOfRange_39247_17 rfl rfl ?_
    refine ze_cloneB (pc := 18) q_m_J7_310 dJ7_copyOfRange_39247_18 ha hf (by decide) (by exact Nat.le_of_ble_eq_true rfl) ⟨by exact Nat.le_of_ble_eq_true rfl, by show 0 + n ≤ 400; omega⟩ ?_
    refine ze_castB (pc := 21) (n := n) (f := f) q_cl_J7_311 dJ7_copyOfRange_39247_21 (hset_eq _ _ _) ?_
    exact ze_aretR dJ7_copyOfRange_39247_24 (Or.inr ⟨_, rfl⟩) ⟨by exact Nat.le_of_ble_eq_true rfl, by show 0 + n ≤ 400; omega⟩ ⟨rfl, rfl, f, rfl, fun _ _ => rfl⟩
  · refine ze_aload_n (pc := 10) dJ7_copyOfRange_39247_10 rfl rfl ?_
    refine ze_iload_n (pc := 11) dJ7_copyOfRange_39247_11 rfl rfl ?_
    refine ze_iload_n (pc := 12) dJ7_copyOfRange_39247_12 rfl rfl ?_
    refine ze_callS (pc := 13) (s_J7_copyOfRangeByte (zq := zq) ha haz hn hm hf) bJ7_copyOfRangeByte_39247 q_st_J7_copyOfRangeByte_39247 q_m_J7_339 dJ7_copyOfRange_39247_13 rfl rfl (by exact Nat.le_of_ble_eq_true rfl) ⟨by decide, by decide⟩ ⟨by exact Nat.le_of_ble_eq_true rfl, by exact Nat.le_of_ble_eq_true rfl⟩ (fun r h2 z2 hp => ?_)
    obtain ⟨rfl, hp⟩ := hp
    exact ze_aretR dJ7_copyOfRange_39247_16 (Or.inr ⟨_, rfl⟩) ⟨by exact Nat.le_of_ble_eq_true rfl, by exact Nat.le_of_ble_eq_true rfl⟩ ⟨rfl, hp⟩
/-- the String at s has got its bytes at zq -/
def Tst (s zq : Nat) (T : List Nat) (h : AH) (r : Option Value) (h' : AH) (z : Nat) : Prop := r = none ∧ z = zq + 1 ∧ ∃ g, h' = hset (hset h zq (aB T.length g)) s (ob 11 [.ref zq, .int 0]) ∧ Bts g T
theorem s_J0_init2 (hB : Sb h b v m f T) (hs : h s = some (ob 11 [.null, .int 0])) (hbs : b < s) (hvs : v < s) (hsz : s < zq) : CnS ro yJ0_init_db425 MJ0_init_db425 [.ref s, .ref b, .null] zq h (Tst s zq T h) := by
  obtain ⟨b1, b2, b3, b4, b5, b6, b7⟩ := id hB
  refine CnS.ofVS (by decide) rfl (fun q => rfl) (by simp [Value.category]) (by exact Nat.le_of_ble_eq_true rfl) ?_
  refine ze_aload_n (pc := 0) dJ0_init_db425_0 rfl rfl ?_
  refine ze_objInit (pc := 1) q_m_J0_1 dJ0_init_db425_1 (by exact Nat.le_of_ble_eq_true rfl) (by exact Nat.le_of_ble_eq_true rfl) ?_
  refine ze_aload_n (pc := 4) dJ0_init_db425_4 rfl rfl ?_
  refine ze_callU (pc := 5) (s_J5_getValue (zq := zq) hB) bJ5_getValue_6d5f1 rfl (by decide +kernel) q_m_J0_552 q_sm_J5_J5_getValue_6d5f1 q_s_J4_J5_getValue_6d5f1 q_i_J5_getValue_6d5f1 dJ0_init_db425_5 rfl rfl (by repeat (first | assumption | exact hset_eq _ _ _ | rw [hset_ne _ _ (by omega)])) (by exact Nat.le_of_ble_eq_true rfl) ⟨by decide, by decide⟩ ⟨by exact Nat.le_of_ble_eq_true rfl, by exact Nat.le_of_ble_eq_true rfl⟩ (fun r h3 z3 hp => ?_)
  obtain ⟨rfl, hz9, rfl⟩ := hp
  subst z3
  refine ze_astore_n (pc := 8) dJ0_init_db425_8 rfl (by decide) ?_
  refine ze_aload_n (pc := 9) dJ0_init_db425_9 rfl rfl ?_
  refine ze_callO (pc := 10) (x := yJ5_length_8abf5) (s_J4_length hB _) bJ4_length_8abf5 (by decide +kernel) q_m_J0_549 q_sm_J5_J5_length_8abf5 q_s_J4_J5_length_8abf5 q_i_J5_length_8abf5 q_c_J5_length_8abf5 q_i_J4_length_8abf5 dJ0_init_db425_10 rfl rfl b1 (by exact Nat.le_of_ble_eq_true rfl) ⟨by decide, by decide⟩ ⟨by exact Nat.le_of_ble_eq_true rfl, by exact Nat.le_of_ble_eq_true rfl⟩ (fun r h3 z3 hp => ?_)
  obtain ⟨hz9, x, rfl, rfl, rfl⟩ := hp
  subst z3
  refine ze_istore (pc := 13) dJ0_init_db425_13 (by decide) ?_
  refine ze_aload_n (pc := 15) dJ0_init_db425_15 rfl rfl ?_
  refine ze_callU (pc := 16) (s_J5_isLatin1 hB _) bJ5_isLatin1_aae02 rfl (by decide +kernel) q_m_J0_1047 q_sm_J5_J5_isLatin1_aae02 q_s_J4_J5_isLatin1_aae02 q_i_J5_isLatin1_aae02 dJ0_init_db425_16 rfl rfl (by repeat (first | assumption | exact hset_eq _ _ _ | rw [hset_ne _ _ (by omega)])) (by exact Nat.le_of_ble_eq_true rfl) ⟨by decide, by decide⟩ ⟨by exact Nat.le_of_ble_eq_true rfl, by exact Nat.le_of_ble_eq_true rfl⟩ (fun r h3 z3 hp => ?_)
  obtain ⟨hz9, x, rfl, rfl, rfl⟩ := hp
  subst z3
  refine ze_if_eq (pc := 19) (tgt := 41) dJ0_init_db425_19 (by decide) (fun q => absurd q (by decide)) (fun _ => ?_)
  refine ze_aload_n (pc := 22) dJ0_init_db425_22 rfl rfl ?_
  refine zn_iconst (pc := 23) 0 dJ0_init_db425_23 (by decide) ?_
  refine ze_putF (pc := 24) pl_J0_15 rfl dJ0_init_db425_24 (by repeat (first | assumption | exact hset_eq _ _ _ | rw [hset_ne _ _ (by omega)])) (by rfl) (by rfl) (by exact Nat.le_of_ble_eq_true rfl) ?_
  refine ze_aload_n (pc := 27) dJ0_init_db425_27 rfl rfl ?_
  refine ze_aload_n (pc := 28) dJ0_init_db425_28 rfl rfl ?_
  refine zn_iconst (pc := 29) 0 dJ0_init_db425_29 (by decide) ?_
  refine ze_iload (pc := 30) dJ0_init_db425_30 rfl ?_
  refine ze_callS (pc := 32) (s_J7_copyOfRange (zq := zq) (f := f) (by rw [hset_ne _ _ (by omega)]; exact b3) (by omega) b4 b5 b6) bJ7_copyOfRange_39247 q_st_J7_copyOfRange_39247 q_m_J0_54 dJ0_init_db425_32 rfl rfl (by exact Nat.le_of_ble_eq_true rfl) ⟨by decide, by decide⟩ ⟨by exact Nat.le_of_ble_eq_true rfl, by exact Nat.le_of_ble_eq_true rfl⟩ (fun r h3 z3 hp => ?_)
  obtain ⟨rfl, rfl, g, rfl, hg⟩ := hp
  refine ze_putF (pc := 35) pl_J0_9 rfl dJ0_init_db425_35 (by repeat (first | assumption | exact hset_eq _ _ _ | rw [hset_ne _ _ (by omega)])) (by rfl) (by rfl) (by exact Nat.le_of_ble_eq_true rfl) ?_
  refine ze_goto (pc := 38) (tgt := 97) dJ0_init_db425_38 (by decide) ?_
  refine ze_vret (pc := 97) dJ0_init_db425_97 rfl ⟨by exact Nat.le_of_ble_eq_true rfl, by exact Nat.le_of_ble_eq_true rfl⟩ ⟨rfl, rfl, g, ?_, fun j hj => by rw [hg j hj]; exact b7 j hj⟩
  rw [hset_comm _ (show s ≠ zq by omega), hset_hset]
  rfl
theorem s_J0_init (hB : Sb h b v m f T) (hs : h s = some (ob 11 [.null, .int 0])) (hbs : b < s) (hvs : v < s) (hsz : s < zq) : CnS ro yJ0_init_81219 MJ0_init_81219 [.ref s, .ref b] zq h (Tst s zq T h) := by
  refine CnS.ofVS (by decide) rfl (fun q => rfl) (by simp [Value.category]) (by exact Nat.le_of_ble_eq_true rfl) ?_
  refine ze_aload_n (pc := 0) dJ0_init_81219_0 rfl rfl ?_
  refine ze_aload_n (pc := 1) dJ0_init_81219_1 rfl rfl ?_
  refine ze_null (pc := 2) dJ0_init_81219_2 ?_
  refine ze_callI (pc := 3) (s_J0_init2 hB hs hbs hvs hsz) bJ0_init_db425 rfl rfl q_i_J0_init_db425 q_m_J0_489 dJ0_init_81219_3 rfl rfl (by exact Nat.le_of_ble_eq_true rfl) ⟨by decide, by decide⟩ ⟨by exact Nat.le_of_ble_eq_true rfl, by exact Nat.le_of_ble_eq_true rfl⟩ (fun r h2 z2 hp => ?_)
  obtain ⟨rfl, hp⟩ := hp
  exact ze_vret (pc := 6) dJ0_init_81219_6 rfl ⟨by exact Nat.le_of_ble_eq_true rfl, by exact Nat.le_of_ble_eq_true rfl⟩ ⟨rfl, hp⟩
theorem s_J4_toString (hB : Sb h b v m f T) (hbs : b < zq) (hvs : v < zq) : CnS ro yJ4_toString_0e30d MJ4_toString_0e30d [.ref b] zq h (fun r h' z => r = some (.ref zq) ∧ z = zq + 2 ∧ MS h' zq T ∧ ∀ x, x < zq → h' x = h x) := by
  obtain ⟨b1, b2, b3, b4, b5, b6, b7⟩ := id hB
  refine CnS.ofVS (by decide) rfl (fun q => by cases q) (by simp [Value.category]) (by exact Nat.le_of_ble_eq_true rfl) ?_
  refine ze_newT (pc := 0) q_cl_J4_18 dJ4_toString_0e30d_0 ⟨by exact Nat.le_of_ble_eq_true rfl, by exact Nat.le_of_ble_eq_true rfl⟩ ?_
  refine ze_dup (pc := 3) dJ4_toString_0e30d_3 rfl ?_
  refine ze_aload_n (pc := 4) dJ4_toString_0e30d_4 rfl rfl ?_
  have hB2 : Sb (hset h zq (ob 11 [.null, .int 0])) b v m f T := ⟨by rw [hset_ne _ _ (by omega)]; exact b1, b2, by rw [hset_ne _ _ (by omega)]; exact b3, b4, b5, b6, b7⟩
  refine ze_callI (pc := 5) (s_J0_init (zq := zq + 1) hB2 (hset_eq _ _ _) hbs hvs (by omega)) bJ0_init_81219 rfl rfl q_i_J0_init_81219 q_m_J4_137 dJ4_toString_0e30d_5 rfl rfl (by exact Nat.le_of_ble_eq_true rfl) ⟨by decide, by decide⟩ ⟨by exact Nat.le_of_ble_eq_true rfl, by exact Nat.le_of_ble_eq_true rfl⟩ (fun r h3 z3 hp => ?_)
  obtain ⟨rfl, rfl, g, rfl, hg⟩ := hp
  refine ze_aretR dJ4_toString_0e30d_8 (Or.inl ⟨_, rfl⟩) ⟨by exact Nat.le_of_ble_eq_true rfl, by exact Nat.le_of_ble_eq_true rfl⟩ ⟨rfl, rfl, ⟨g, hset_eq _ _ _, by rw [hset_ne _ _ (by omega), hset_eq], hg⟩, fun x hx => ?_⟩
  rw [hset_ne _ _ (by omega), hset_ne _ _ (by omega), hset_ne _ _ (by omega)]
end JI
