/-! ===== the reference: back and forth ===== -/
section M4
variable {h : AH} {m p n q : Nat} {s : Ms} {g : Nat → Int32} {x : Sx}
theorem l_un_a {sz mn row d a : Nat} {b : Value} {Pr : Int32 → AH → Prop} (hM : MH h m p n q s) (hw : h (m + 1) = some (aI 6070 g)) (hmn : mn = 820 ∨ mn = 821) (hr : 830 ≤ row) (hr2 : row + 2620 ≤ 6070) (hg : g mn = nI d) (hd : 0 < d) (hd2 : d ≤ 20) (ha : g (row + 131 * (d - 1)) = nI a)
    (k : VI MX11_undo sz Pr (hset h (m + 1) (aI 6070 (upd g mn (nI (d - 1))))) 72 [some (.ref m), some b, some (.int (nI mn)), some (.int (nI row)), some (.int (nI (row + 131 * (d - 1)))), some (.int (nI a))] []) : VI MX11_undo sz Pr h 28 [some (.ref m), some b, some (.int (nI mn)), some (.int (nI row)), none, none] [] := by
  refine e_aload_n (pc := 28) dX11_undo_28 rfl rfl ?_
  refine e_get (pc := 29) fl_X11_7 dX11_undo_29 (by repeat (first | assumption | exact hset_eq _ _ _ | (apply WAt.hd; assumption) | rw [hset_ne _ _ (by omega)])) (by rfl) ?_
  refine e_iload_n (pc := 32) dX11_undo_32 rfl rfl ?_
  refine e_ialdN (pc := 33) mn dX11_undo_33 (by repeat (first | assumption | exact hset_eq _ _ _ | (apply WAt.hd; assumption) | rw [hset_ne _ _ (by omega)])) (by rfl) (by omega) (by first | decide | omega) ?_
  rw [hg]
  refine n_if_ne (pc := 34) (tgt := 39) dX11_undo_34 (by decide) (by omega) (fun hb_ => ?_) (fun c => absurd c (by omega))
  refine e_aload_n (pc := 39) dX11_undo_39 rfl rfl ?_
  refine e_get (pc := 40) fl_X11_7 dX11_undo_40 (by repeat (first | assumption | exact hset_eq _ _ _ | (apply WAt.hd; assumption) | rw [hset_ne _ _ (by omega)])) (by rfl) ?_
  refine e_iload_n (pc := 43) dX11_undo_43 rfl rfl ?_
  refine e_dup2 (pc := 44) dX11_undo_44 rfl rfl ?_
  refine e_ialdN (pc := 45) mn dX11_undo_45 (by repeat (first | assumption | exact hset_eq _ _ _ | (apply WAt.hd; assumption) | rw [hset_ne _ _ (by omega)])) (by rfl) (by omega) (by first | decide | omega) ?_
  rw [hg]
  refine n_iconst (pc := 46) 1 dX11_undo_46 (by decide) ?_
  refine n_isub (pc := 47) dX11_undo_47 (by omega) ?_
  refine e_iastN (pc := 48) mn dX11_undo_48 (by repeat (first | assumption | exact hset_eq _ _ _ | (apply WAt.hd; assumption) | rw [hset_ne _ _ (by omega)])) (by rfl) (by omega) (by first | decide | omega) ?_
  have hM1 : MH (hset h (m + 1) (aI 6070 (upd g mn (nI (d - 1))))) m p n q s := (hset_ne _ _ (by omega)).trans hM
  have z : upd g mn (nI (d - 1)) mn = nI (d - 1) := pk_us
  have z2 : upd g mn (nI (d - 1)) (row + 131 * (d - 1)) = nI a := by rw [pk_un (by omega)]; exact ha
  refine e_iload_n (pc := 49) dX11_undo_49 rfl rfl ?_
  refine n_sipush (pc := 50) 131 dX11_undo_50 (by decide) ?_
  refine e_aload_n (pc := 53) dX11_undo_53 rfl rfl ?_
  refine e_get (pc := 54) fl_X11_7 dX11_undo_54 (by repeat (first | assumption | exact hset_eq _ _ _ | (apply WAt.hd; assumption) | rw [hset_ne _ _ (by omega)])) (by rfl) ?_
  refine e_iload_n (pc := 57) dX11_undo_57 rfl rfl ?_
  refine e_ialdN (pc := 58) mn dX11_undo_58 (by repeat (first | assumption | exact hset_eq _ _ _ | (apply WAt.hd; assumption) | rw [hset_ne _ _ (by omega)])) (by rfl) (by omega) (by first | decide | omega) ?_
  rw [z]
  refine n_imul (pc := 59) dX11_undo_59 ?_
  refine n_iadd (pc := 60) dX11_undo_60 ?_
  refine e_istore (pc := 61) dX11_undo_61 (by decide) ?_
  refine e_aload_n (pc := 63) dX11_undo_63 rfl rfl ?_
  refine e_get (pc := 64) fl_X11_7 dX11_undo_64 (by repeat (first | assumption | exact hset_eq _ _ _ | (apply WAt.hd; assumption) | rw [hset_ne _ _ (by omega)])) (by rfl) ?_
  refine e_iload (pc := 67) dX11_undo_67 rfl ?_
  refine e_ialdN (pc := 69) (row + 131 * (d - 1)) dX11_undo_69 (by repeat (first | assumption | exact hset_eq _ _ _ | (apply WAt.hd; assumption) | rw [hset_ne _ _ (by omega)])) (by rfl) (by omega) (by first | decide | omega) ?_
  rw [z2]
  refine e_istore (pc := 70) dX11_undo_70 (by decide) ?_
  exact k
theorem l_un_b {sz at0 mn row d a : Nat} {l2 l3 : Int32} {b : Value} {Pr : Int32 → AH → Prop} (hM : MH h m p n q s) (hw : h (m + 1) = some (aI 6070 g)) (hmn : mn = 820 ∨ mn = 821) (hr : 830 ≤ row) (hr2 : row + 2620 ≤ 6070) (ha : a < 6) (hg : g mn = nI d) (hd2 : d ≤ 20) (ht : 830 ≤ at0) (ht2 : at0 + 131 ≤ 6070)
    (k : ∀ g2 g3 e, Psh g g2 mn row a d e → (∀ k, k < 130 → g3 (130 * a + k) = g2 (at0 + 1 + k)) → (∀ t, (t < 130 * a ∨ 130 * a + 130 ≤ t) → g3 t = g2 t) → Pr (nI a) (hset h (m + 1) (aI 6070 g3))) : VI MX11_undo sz Pr h 99 [some (.ref m), some b, some (.int l2), some (.int l3), some (.int (nI at0)), some (.int (nI a))] [.int (nI row), .int (nI mn), .ref m] := by
  refine e_iload (pc := 99) dX11_undo_99 rfl ?_
  refine n_Vv (pc := 101) (c_X11_pushes (d := d) hM hw hmn hr hr2 ha hg hd2) bX11_pushes q_i_X11_pushes q_s_X11_pushes q_m_X11_135 dX11_undo_101 rfl rfl (by repeat (first | assumption | exact hset_eq _ _ _ | (apply WAt.hd; assumption) | rw [hset_ne _ _ (by omega)])) rfl rfl (by exact Nat.le_of_ble_eq_true rfl) ⟨by decide, by decide⟩ ⟨rfl, rfl, Nat.zero_le _, Nat.zero_le _⟩ (fun h2 hp => ?_)
  obtain ⟨g2, e, rfl, q1⟩ := hp
  have hM2 : MH (hset h (m + 1) (aI 6070 g2)) m p n q s := (hset_ne _ _ (by omega)).trans hM
  refine e_aload_n (pc := 104) dX11_undo_104 rfl rfl ?_
  refine e_iload (pc := 105) dX11_undo_105 rfl ?_
  refine n_iconst (pc := 107) 1 dX11_undo_107 (by decide) ?_
  refine n_iadd (pc := 108) dX11_undo_108 ?_
  refine n_sipush (pc := 109) 130 dX11_undo_109 (by decide) ?_
  refine e_iload (pc := 112) dX11_undo_112 rfl ?_
  refine n_imul (pc := 114) dX11_undo_114 ?_
  refine n_Vv (pc := 115) (c_X11_copies (fr := at0 + 1) (to := 130 * a) hM2 (hset_eq _ _ _) (by omega) (by omega) (by omega)) bX11_copies q_i_X11_copies q_s_X11_copies q_m_X11_131 dX11_undo_115 rfl rfl (by repeat (first | assumption | exact hset_eq _ _ _ | (apply WAt.hd; assumption) | rw [hset_ne _ _ (by omega)])) rfl rfl (by exact Nat.le_of_ble_eq_true rfl) ⟨by decide, by decide⟩ ⟨rfl, rfl, Nat.zero_le _, Nat.zero_le _⟩ (fun h3 hp3 => ?_)
  obtain ⟨g3, rfl, p1, p2⟩ := hp3
  refine e_heap (hset_hset h (m + 1) _ _) ?_
  refine e_iload (pc := 118) dX11_undo_118 rfl ?_
  exact n_iret (pc := 120) dX11_undo_120 rfl (k g2 g3 e q1 p1 p2)
theorem c_X11_undo (hM : MH h m p n q s) (hw : h (m + 1) = some (aI 6070 g)) (hx : SxOk x) (hg : WR g x) (b : Bool) : CI yX11_undo MX11_undo [.ref m, .int (bI b)] h (fun z h' => ∃ g2 x2, QS_undo x b z x2 ∧ h' = hset h (m + 1) (aI 6070 g2) ∧ WR g2 x2) := by
  obtain ⟨r1, r2, r3, r4, r5, r6⟩ := id hg
  have hu := hx.2.2.2
  refine CI.ofV (by decide) rfl rfl (by simp [Value.category]) (by exact Nat.le_of_ble_eq_true rfl) (fun sz => ?_)
  cases b with
  | true =>
    refine e_iload_n (pc := 0) dX11_undo_0 rfl rfl ?_
    refine e_if_eq (pc := 1) (tgt := 10) dX11_undo_1 (by decide) (fun q => absurd q (by decide)) (fun _ => ?_)
    refine n_sipush (pc := 4) 820 dX11_undo_4 (by decide) ?_
    refine e_goto (pc := 7) (tgt := 13) dX11_undo_7 (by decide) ?_
    refine e_istore_n (pc := 13) dX11_undo_13 rfl (by decide) ?_
    refine e_iload_n (pc := 14) dX11_undo_14 rfl rfl ?_
    refine e_if_eq (pc := 15) (tgt := 24) dX11_undo_15 (by decide) (fun q => absurd q (by decide)) (fun _ => ?_)
    refine n_sipush (pc := 18) 830 dX11_undo_18 (by decide) ?_
    refine e_goto (pc := 21) (tgt := 27) dX11_undo_21 (by decide) ?_
    refine e_istore_n (pc := 27) dX11_undo_27 rfl (by decide) ?_
    by_cases hd : x.dn = 0
    · refine e_aload_n (pc := 28) dX11_undo_28 rfl rfl ?_
      refine e_get (pc := 29) fl_X11_7 dX11_undo_29 (by repeat (first | assumption | exact hset_eq _ _ _ | (apply WAt.hd; assumption) | rw [hset_ne _ _ (by omega)])) (by rfl) ?_
      refine e_iload_n (pc := 32) dX11_undo_32 rfl rfl ?_
      refine e_ialdN (pc := 33) 820 dX11_undo_33 (by repeat (first | assumption | exact hset_eq _ _ _ | (apply WAt.hd; assumption) | rw [hset_ne _ _ (by omega)])) (by rfl) (by omega) (by first | decide | omega) ?_
      rw [r3]
      refine n_if_ne (pc := 34) (tgt := 39) dX11_undo_34 (by decide) (by omega) (fun c => absurd c (by omega)) (fun hb_ => ?_)
      refine e_iconst (pc := 37) (v := -1) dX11_undo_37 (by decide) ?_
      exact n_iret (pc := 38) dX11_undo_38 rfl ⟨g, x, by unfold QS_undo; rw [if_pos rfl, if_pos hd]; exact ⟨rfl, rfl⟩, (hset_self hw).symm, hg⟩
    have e5 := r5 (x.dn - 1) (by omega)
    have ha := hx.2.1 (x.dn - 1) (by omega)
    refine l_un_a (d := x.dn) hM hw (Or.inl rfl) (by omega) (by omega) r3 (by omega) (by omega) e5.1 ?_
    have hM1 : MH (hset h (m + 1) (aI 6070 (upd g 820 (nI (x.dn - 1))))) m p n q s := (hset_ne _ _ (by omega)).trans hM
    refine e_aload_n (pc := 72) dX11_undo_72 rfl rfl ?_
    refine e_iload_n (pc := 73) dX11_undo_73 rfl rfl ?_
    refine e_if_eq (pc := 74) (tgt := 83) dX11_undo_74 (by decide) (fun q => absurd q (by decide)) (fun _ => ?_)
    refine n_sipush (pc := 77) 821 dX11_undo_77 (by decide) ?_
    refine e_goto (pc := 80) (tgt := 86) dX11_undo_80 (by decide) ?_
    refine e_iload_n (pc := 86) dX11_undo_86 rfl rfl ?_
    refine e_if_eq (pc := 87) (tgt := 96) dX11_undo_87 (by decide) (fun q => absurd q (by decide)) (fun _ => ?_)
    refine n_sipush (pc := 90) 3450 dX11_undo_90 (by decide) ?_
    refine e_goto (pc := 93) (tgt := 99) dX11_undo_93 (by decide) ?_
    refine l_un_b (d := x.un) hM1 (hset_eq _ _ _) (Or.inr rfl) (by omega) (by omega) ha (by rw [pk_un (by decide)]; exact r4) (by omega) (by omega) (by omega) (fun g2 g3 e q0 p1 p2 => ?_)
    obtain ⟨q1, q2, q3, q4, q5, q6⟩ := q0
    refine ⟨g3, x.back, by unfold QS_undo; rw [if_pos rfl, if_neg hd]; exact ⟨rfl, rfl⟩, hset_hset h (m + 1) _ _, ?_⟩
    have e' : e = x.un := by omega
    subst e'
    have ne : ∀ t, t ≠ 820 → t ≠ 821 → t < 3450 → g2 t = g t := fun t t1 t2 t3 => by rw [q5 t t2 (by omega), pk_un t1]
    have n3 : ∀ t, 3450 ≤ t → t < 3450 + 131 * x.un → g2 t = g t := fun t t1 t2 => by rw [q6 t t1 t2, if_neg (by omega), pk_un (by omega)]
    refine ⟨fun k hk => ?_, fun t ht => ?_, ?_, ?_, fun b hb => ?_, fun r hr => ?_⟩
    · show WdR g3 (130 * k) (x.1 (sw (x.2.1 (x.dn - 1)) (6 + (x.dn - 1)) k))
      by_cases c : k = x.2.1 (x.dn - 1)
      · rw [show sw (x.2.1 (x.dn - 1)) (6 + (x.dn - 1)) k = 6 + (x.dn - 1) from if_pos c]
        refine e5.2.mv (fun j hj => ?_)
        rw [c, p1 j hj, ne _ (by omega) (by omega) (by omega)]
      · rw [show sw (x.2.1 (x.dn - 1)) (6 + (x.dn - 1)) k = k by unfold sw; rw [if_neg c, if_neg (by omega)]]
        have c' : k ≠ x.who (x.dn - 1) := c
        exact (r1 k hk).kp (fun t t1 t2 => by rw [p2 t (by omega), ne t (by omega) (by omega) (by omega)])
    · rw [p2 _ (by omega), ne _ (by omega) (by omega) (by omega)]; exact r2 t ht
    · rw [p2 _ (by omega), q5 _ (by decide) (by omega), pk_us]; rfl
    · rw [p2 _ (by omega), q2]; rfl
    · have hb : b < x.dn - 1 := hb
      show g3 _ = nI (x.2.1 b) ∧ WdR g3 _ (x.1 (sw (x.2.1 (x.dn - 1)) (6 + (x.dn - 1)) (6 + b)))
      have c' : x.2.1 (x.dn - 1) < 6 := ha
      rw [show sw (x.2.1 (x.dn - 1)) (6 + (x.dn - 1)) (6 + b) = 6 + b by unfold sw; rw [if_neg (by omega), if_neg (by omega)]]
      have k1 : ∀ t, 830 + 131 * b ≤ t → t < 830 + 131 * b + 131 → g3 t = g t := fun t t1 t2 => by rw [p2 t (by omega), ne t (by omega) (by omega) (by omega)]
      exact ⟨(k1 _ (by omega) (by omega)).trans (r5 b (by omega)).1, (r5 b (by omega)).2.kp (fun t t1 t2 => k1 t (by omega) (by omega))⟩
    · have hr : r < x.un + 1 := hr
      have c' : x.2.1 (x.dn - 1) < 6 := ha
      show g3 _ = nI (x.2.1 (x.dn - 1 + (x.un + 1) - 1 - r)) ∧ WdR g3 _ (x.1 (sw (x.2.1 (x.dn - 1)) (6 + (x.dn - 1)) (6 + (x.dn - 1 + (x.un + 1) - 1 - r))))
      by_cases c : r = x.un
      · subst c
        rw [show x.dn - 1 + (x.un + 1) - 1 - x.un = x.dn - 1 by omega, show sw (x.2.1 (x.dn - 1)) (6 + (x.dn - 1)) (6 + (x.dn - 1)) = x.2.1 (x.dn - 1) by unfold sw; rw [if_neg (by omega), if_pos rfl]]
        refine ⟨by rw [p2 _ (by omega)]; exact q3, (r1 _ c').mv (fun j hj => ?_)⟩
        rw [p2 _ (by omega), q4 j hj, pk_un (by omega)]
      · rw [show x.dn - 1 + (x.un + 1) - 1 - r = x.dn + x.un - 1 - r by omega, show sw (x.2.1 (x.dn - 1)) (6 + (x.dn - 1)) (6 + (x.dn + x.un - 1 - r)) = 6 + (x.dn + x.un - 1 - r) by unfold sw; rw [if_neg (by omega), if_neg (by omega)]]
        have k1 : ∀ t, 3450 + 131 * r ≤ t → t < 3450 + 131 * r + 131 → g3 t = g t := fun t t1 t2 => by rw [p2 t (by omega), n3 t (by omega) (by omega)]
        exact ⟨(k1 _ (by omega) (by omega)).trans (r6 r (by omega)).1, (r6 r (by omega)).2.kp (fun t t1 t2 => k1 t (by omega) (by omega))⟩
  | false =>
    refine e_iload_n (pc := 0) dX11_undo_0 rfl rfl ?_
    refine e_if_eq (pc := 1) (tgt := 10) dX11_undo_1 (by decide) (fun _ => ?_) (fun q => absurd rfl q)
    refine n_sipush (pc := 10) 821 dX11_undo_10 (by decide) ?_
    refine e_istore_n (pc := 13) dX11_undo_13 rfl (by decide) ?_
    refine e_iload_n (pc := 14) dX11_undo_14 rfl rfl ?_
    refine e_if_eq (pc := 15) (tgt := 24) dX11_undo_15 (by decide) (fun _ => ?_) (fun q => absurd rfl q)
    refine n_sipush (pc := 24) 3450 dX11_undo_24 (by decide) ?_
    refine e_istore_n (pc := 27) dX11_undo_27 rfl (by decide) ?_
    by_cases hd : x.un = 0
    · refine e_aload_n (pc := 28) dX11_undo_28 rfl rfl ?_
      refine e_get (pc := 29) fl_X11_7 dX11_undo_29 (by repeat (first | assumption | exact hset_eq _ _ _ | (apply WAt.hd; assumption) | rw [hset_ne _ _ (by omega)])) (by rfl) ?_
      refine e_iload_n (pc := 32) dX11_undo_32 rfl rfl ?_
      refine e_ialdN (pc := 33) 821 dX11_undo_33 (by repeat (first | assumption | exact hset_eq _ _ _ | (apply WAt.hd; assumption) | rw [hset_ne _ _ (by omega)])) (by rfl) (by omega) (by first | decide | omega) ?_
      rw [r4]
      refine n_if_ne (pc := 34) (tgt := 39) dX11_undo_34 (by decide) (by omega) (fun c => absurd c (by omega)) (fun hb_ => ?_)
      refine e_iconst (pc := 37) (v := -1) dX11_undo_37 (by decide) ?_
      exact n_iret (pc := 38) dX11_undo_38 rfl ⟨g, x, by unfold QS_undo; rw [if_neg (by decide), if_pos hd]; exact ⟨rfl, rfl⟩, (hset_self hw).symm, hg⟩
    have e6 := r6 (x.un - 1) (by omega)
    rw [show x.dn + x.un - 1 - (x.un - 1) = x.dn by omega] at e6
    have ha := hx.2.1 x.dn (by omega)
    refine l_un_a (d := x.un) hM hw (Or.inr rfl) (by omega) (by omega) r4 (by omega) (by omega) e6.1 ?_
    have hM1 : MH (hset h (m + 1) (aI 6070 (upd g 821 (nI (x.un - 1))))) m p n q s := (hset_ne _ _ (by omega)).trans hM
    refine e_aload_n (pc := 72) dX11_undo_72 rfl rfl ?_
    refine e_iload_n (pc := 73) dX11_undo_73 rfl rfl ?_
    refine e_if_eq (pc := 74) (tgt := 83) dX11_undo_74 (by decide) (fun _ => ?_) (fun q => absurd rfl q)
    refine n_sipush (pc := 83) 820 dX11_undo_83 (by decide) ?_
    refine e_iload_n (pc := 86) dX11_undo_86 rfl rfl ?_
    refine e_if_eq (pc := 87) (tgt := 96) dX11_undo_87 (by decide) (fun _ => ?_) (fun q => absurd rfl q)
    refine n_sipush (pc := 96) 830 dX11_undo_96 (by decide) ?_
    refine l_un_b (d := x.dn) hM1 (hset_eq _ _ _) (Or.inl rfl) (by omega) (by omega) ha (by rw [pk_un (by decide)]; exact r3) (by omega) (by omega) (by omega) (fun g2 g3 e q0 p1 p2 => ?_)
    obtain ⟨q1, q2, q3, q4, q5, q6⟩ := q0
    refine ⟨g3, x.forth, by unfold QS_undo; rw [if_neg (by decide), if_neg hd]; exact ⟨rfl, rfl⟩, hset_hset h (m + 1) _ _, ?_⟩
    have e' : e = x.dn := by omega
    subst e'
    have ne : ∀ t, t ≠ 820 → t ≠ 821 → (t < 830 ∨ 3450 ≤ t) → g2 t = g t := fun t t1 t2 t3 => by rw [q5 t t1 (by omega), pk_un t2]
    have n3 : ∀ t, 830 ≤ t → t < 830 + 131 * x.dn → g2 t = g t := fun t t1 t2 => by rw [q6 t t1 t2, if_neg (by omega), pk_un (by omega)]
    have c' : x.2.1 x.dn < 6 := ha
    refine ⟨fun k hk => ?_, fun t ht => ?_, ?_, ?_, fun b hb => ?_, fun r hr => ?_⟩
    · show WdR g3 (130 * k) (x.1 (sw (x.2.1 x.dn) (6 + x.dn) k))
      by_cases c : k = x.2.1 x.dn
      · rw [show sw (x.2.1 x.dn) (6 + x.dn) k = 6 + x.dn from if_pos c]
        refine e6.2.mv (fun j hj => ?_)
        rw [c, p1 j hj, ne _ (by omega) (by omega) (by omega)]
      · rw [show sw (x.2.1 x.dn) (6 + x.dn) k = k by unfold sw; rw [if_neg c, if_neg (by omega)]]
        have c2 : k ≠ x.who x.dn := c
        exact (r1 k hk).kp (fun t t1 t2 => by rw [p2 t (by omega), ne t (by omega) (by omega) (by omega)])
    · rw [p2 _ (by omega), ne _ (by omega) (by omega) (by omega)]; exact r2 t ht
    · rw [p2 _ (by omega), q2]; rfl
    · rw [p2 _ (by omega), q5 _ (by decide) (by omega), pk_us]; rfl
    · have hb : b < x.dn + 1 := hb
      show g3 _ = nI (x.2.1 b) ∧ WdR g3 _ (x.1 (sw (x.2.1 x.dn) (6 + x.dn) (6 + b)))
      by_cases c : b = x.dn
      · subst c
        rw [show sw (x.2.1 x.dn) (6 + x.dn) (6 + x.dn) = x.2.1 x.dn by unfold sw; rw [if_neg (by omega), if_pos rfl]]
        refine ⟨by rw [p2 _ (by omega)]; exact q3, (r1 _ c').mv (fun j hj => ?_)⟩
        rw [p2 _ (by omega), q4 j hj, pk_un (by omega)]
      · rw [show sw (x.2.1 x.dn) (6 + x.dn) (6 + b) = 6 + b by unfold sw; rw [if_neg (by omega), if_neg (by omega)]]
        have k1 : ∀ t, 830 + 131 * b ≤ t → t < 830 + 131 * b + 131 → g3 t = g t := fun t t1 t2 => by rw [p2 t (by omega), n3 t (by omega) (by omega)]
        exact ⟨(k1 _ (by omega) (by omega)).trans (r5 b (by omega)).1, (r5 b (by omega)).2.kp (fun t t1 t2 => k1 t (by omega) (by omega))⟩
    · have hr : r < x.un - 1 := hr
      show g3 _ = nI (x.2.1 (x.dn + 1 + (x.un - 1) - 1 - r)) ∧ WdR g3 _ (x.1 (sw (x.2.1 x.dn) (6 + x.dn) (6 + (x.dn + 1 + (x.un - 1) - 1 - r))))
      rw [show x.dn + 1 + (x.un - 1) - 1 - r = x.dn + x.un - 1 - r by omega, show sw (x.2.1 x.dn) (6 + x.dn) (6 + (x.dn + x.un - 1 - r)) = 6 + (x.dn + x.un - 1 - r) by unfold sw; rw [if_neg (by omega), if_neg (by omega)]]
      have k1 : ∀ t, 3450 + 131 * r ≤ t → t < 3450 + 131 * r + 131 → g3 t = g t := fun t t1 t2 => by rw [p2 t (by omega), ne t (by omega) (by omega) (by omega)]
      exact ⟨(k1 _ (by omega) (by omega)).trans (r6 r (by omega)).1, (r6 r (by omega)).2.kp (fun t t1 t2 => k1 t (by omega) (by omega))⟩
end M4
