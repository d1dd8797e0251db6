/-! ===== the reference: a text ===== -/
section TX
variable {h hh : AH} {m p n q len sz : Nat} {s s0 : Ms} {f : Nat → Nat} {W F : Wd} {hf : Bool}
/-- what a statement of a text does -/
def AsR (hh : AH) (m : Nat) (W F : Wd) (hf : Bool) (f : Nat → Nat) (len i k : Nat) (s0 : Ms) (z : Int32) (h' : AH) : Prop :=
  (z = bI true ∧ ¬ badK (tK f len i) k hf ∧ k < 40 ∧ sF f len i W (tK f len i) = none ∧ tC f len (stE f len i W) = 3 ∧ PsS hh h' m (sW W F (tK f len i) (vl f len i)) (if tK f len i = 5 then polyW W.1 W.2.1 (vl f len i) else F) (if tK f len i = 5 then true else hf) f len (nt f len i (scn W (tK f len i) + 2)) s0) ∨
  (z = bI false ∧ ∃ x, PfS hh h' m s0 x ∧ ((badK (tK f len i) k hf ∧ x = (1, tS f len i)) ∨ (¬ badK (tK f len i) k hf ∧ 40 ≤ k ∧ x = (3, tS f len i)) ∨ (¬ badK (tK f len i) k hf ∧ k < 40 ∧ sF f len i W (tK f len i) = some x) ∨ (¬ badK (tK f len i) k hf ∧ k < 40 ∧ sF f len i W (tK f len i) = none ∧ tC f len (stE f len i W) ≠ 3 ∧ x = (1, tS f len (stE f len i W)))))
theorem PsS.lay {i : Nat} (q : PsS hh h m W F hf f len i s0) : ∃ s, Lay h m W s ∧ TkS s f len i ∧ Stx s0 s hf ∧ s.2.2.2.2.2.2.1 = 0 := by
  obtain ⟨s, a1, -, -, a4, a5, a6, -⟩ := q
  exact ⟨s, a1, a4, a5, a6⟩
/-- a fault is told -/
theorem PsS.bad {s s2 : Ms} {x : Nat × Nat} (hR : MRo h m) (hx : Stx s0 s hf) (hfc : FmC m hh h) (e : Sst s s2) (w : Wr s2 x) : PfS hh (hset h m (oM m p n q s2)) m s0 x := by
  obtain ⟨d1, d2, d3, d4⟩ := hx.to e
  exact ⟨p, n, q, s2, hset_eq _ _ _, hR.hd, ⟨d1, d2, d4⟩, w, fun b hb => by
    by_cases eb : b = m
    · omega
    · exact (hset_ne _ _ eb).trans (hfc b hb)⟩
/-- behind the numbers of a statement -/
theorem l_as_e {i k : Nat} {x1 : Option Value} (hT : TpM hh m f len) (hb : ¬ badK (tK f len i) k hf) (hk : k < 40) (hs : sF f len i W (tK f len i) = none) (hP : PsS hh h m (sW W F (tK f len i) (vl f len i)) (if tK f len i = 5 then polyW W.1 W.2.1 (vl f len i) else F) (if tK f len i = 5 then true else hf) f len (nt f len i (scn W (tK f len i) + 1)) s0) : VI MX11_aStatement sz (AsR hh m W F hf f len i k s0) h 91 [some (.ref m), x1] [] := by
  obtain ⟨s, hL, hk1, hF, ht, hx, hw, hfc⟩ := hP
  obtain ⟨t1, t2, t3, t4, t5, t6⟩ := id ht
  have hT1 : TpM h m f len := hT.keep (hfc _ (by omega))
  have kv := tK_v (f := f) (len := len) (stE f len i W)
  have tb := tE_b (f := f) t2
  have hM := hL.1
  have t4 : s.2.2.2.1 = tK f len (stE f len i W) := t4
  have t5 : s.2.2.2.2.1 = tS f len (stE f len i W) := t5
  refine e_aload_n (pc := 91) dX11_aStatement_91 rfl rfl ?_
  refine e_get (pc := 92) fl_X11_192 dX11_aStatement_92 (by repeat (first | assumption | exact hset_eq _ _ _ | (apply Lay.hd; assumption) | rw [hset_ne _ _ (by omega)])) (by rfl) ?_
  rw [t4]
  refine n_iconst (pc := 95) 3 dX11_aStatement_95 (by decide) ?_
  by_cases c3 : tC f len (stE f len i W) = 3
  · have k3 := (tK_3 (f := f) (len := len) (stE f len i W)).mpr c3
    rw [k3]
    refine n_icmp_eq (pc := 96) (tgt := 105) dX11_aStatement_96 (by decide) (by omega) (by omega) (fun hb_ => ?_) (fun c => absurd c (by omega))
    refine e_aload_n (pc := 105) dX11_aStatement_105 rfl rfl ?_
    refine n_Vv (pc := 106) (c_X11_next0 hM hT1 t1 t3 tb.2.2.1) bX11_next0 q_i_X11_next0 q_s_X11_next0 q_m_X11_216 dX11_aStatement_106 rfl rfl (by repeat (first | assumption | exact hset_eq _ _ _ | (apply Lay.hd; assumption) | rw [hset_ne _ _ (by omega)])) rfl rfl (by exact Nat.le_of_ble_eq_true rfl) ⟨by decide, by decide⟩ ⟨rfl, rfl, Nat.zero_le _, Nat.zero_le _⟩ (fun h2 hp => ?_)
    obtain ⟨v, rfl, hv⟩ := hp
    refine n_iconst (pc := 109) 1 dX11_aStatement_109 (by decide) ?_
    refine n_zret (pc := 110) dX11_aStatement_110 rfl rfl (Or.inl ⟨rfl, hb, hk, hs, c3, ?_⟩)
    refine ⟨_, ⟨hset_eq _ _ _, hL.2.1.keep (hset_ne _ _ (by omega)), hL.2.2.hd⟩, hk1, fun q => ?_, ⟨t1, tb.2.2.1, rfl, rfl, rfl, hv⟩, hx, hw, fun b hb => (hset_ne _ _ (by omega)).trans (hfc b hb)⟩
    obtain ⟨q1, q2, q3, q4⟩ := hF q
    exact ⟨q1.keep (hset_ne _ _ (by omega)), q2, q3, q4⟩
  · have k3 : tK f len (stE f len i W) ≠ 3 := fun q => c3 ((tK_3 (f := f) (len := len) _).mp q)
    refine n_icmp_eq (pc := 96) (tgt := 105) dX11_aStatement_96 (by decide) (by omega) (by omega) (fun c => absurd c (by omega)) (fun hb_ => ?_)
    refine e_aload_n (pc := 99) dX11_aStatement_99 rfl rfl ?_
    refine n_iconst (pc := 100) 1 dX11_aStatement_100 (by decide) ?_
    refine n_V (pc := 101) (c_X11_bad (k := 1) hM) bX11_bad q_i_X11_bad q_s_X11_bad q_m_X11_213 dX11_aStatement_101 rfl rfl (by repeat (first | assumption | exact hset_eq _ _ _ | (apply Lay.hd; assumption) | rw [hset_ne _ _ (by omega)])) rfl rfl (by exact Nat.le_of_ble_eq_true rfl) ⟨by decide, by decide⟩ ⟨rfl, rfl, Nat.zero_le _, Nat.zero_le _⟩ (fun z h2 hp => ?_)
    obtain ⟨rfl, s6, rfl, p1, p2⟩ := hp
    rw [t5] at p2
    exact n_zret (pc := 104) dX11_aStatement_104 rfl (bI_nar _) (Or.inr ⟨rfl, _, PsS.bad hL.2.2 hx hfc p1 p2, Or.inr (Or.inr (Or.inr ⟨hb, hk, hs, c3, rfl⟩))⟩)
theorem c_X11_aStatement {i k : Nat} (hP : PsS hh h m W F hf f len i s0) (hT : TpM hh m f len) (hk40 : k ≤ 40) (h0 : k = 0 → hf = false ∧ W.2.2 = fun _ => 0) : CI yX11_aStatement MX11_aStatement [.ref m, .int (nI k)] h (fun z h' => AsR hh m W F hf f len i k s0 z h') := by
  obtain ⟨s, hL, hk1, hF, ht, hx, hw, hfc⟩ := id hP
  obtain ⟨t1, t2, t3, t4, t5, t6⟩ := id ht
  have hT1 : TpM h m f len := hT.keep (hfc _ (by omega))
  have kv := tK_v (f := f) (len := len) i
  have tb := tE_b (f := f) t2
  have hM := hL.1
  have ro := hL.2.2
  refine CI.ofV (by decide) rfl rfl (by simp [Value.category]) (by exact Nat.le_of_ble_eq_true rfl) (fun sz => ?_)
  refine e_iload_n (pc := 0) dX11_aStatement_0 rfl rfl ?_
  by_cases k0 : k = 0
  · subst k0
    obtain ⟨rfl, hz⟩ := h0 rfl
    refine n_if_ne (pc := 1) (tgt := 31) dX11_aStatement_1 (by decide) (by omega) (fun c => absurd c (by omega)) (fun hb_ => ?_)
    refine e_aload_n (pc := 4) dX11_aStatement_4 rfl rfl ?_
    refine e_get (pc := 5) fl_X11_192 dX11_aStatement_5 (by repeat (first | assumption | exact hset_eq _ _ _ | (apply Lay.hd; assumption) | rw [hset_ne _ _ (by omega)])) (by rfl) ?_
    rw [t4]
    refine n_iconst (pc := 8) 4 dX11_aStatement_8 (by decide) ?_
    by_cases c4 : tK f len i = 4
    · have hb : ¬ badK (tK f len i) 0 false := by unfold badK; omega
      rw [c4]
      refine n_icmp_eq (pc := 9) (tgt := 18) dX11_aStatement_9 (by decide) (by omega) (by omega) (fun hb_ => ?_) (fun c => absurd c (by omega))
      refine e_aload_n (pc := 18) dX11_aStatement_18 rfl rfl ?_
      refine n_Vv (pc := 19) (c_X11_next0 hM hT1 t1 t3 tb.2.2.1) bX11_next0 q_i_X11_next0 q_s_X11_next0 q_m_X11_216 dX11_aStatement_19 rfl rfl (by repeat (first | assumption | exact hset_eq _ _ _ | (apply Lay.hd; assumption) | rw [hset_ne _ _ (by omega)])) rfl rfl (by exact Nat.le_of_ble_eq_true rfl) ⟨by decide, by decide⟩ ⟨rfl, rfl, Nat.zero_le _, Nat.zero_le _⟩ (fun h2 hp => ?_)
      obtain ⟨v, rfl, hv⟩ := hp
      have s2 : TkS (s.tk (tE f len (tE f len i)) (tK f len (tE f len i)) (tS f len (tE f len i)) v) f len (nt f len i 1) := ⟨t1, tb.2.2.1, rfl, rfl, rfl, hv⟩
      have x2 : Stx s0 (s.tk (tE f len (tE f len i)) (tK f len (tE f len i)) (tS f len (tE f len i)) v) false := hx
      have w2 : (s.tk (tE f len (tE f len i)) (tK f len (tE f len i)) (tS f len (tE f len i)) v).2.2.2.2.2.2.1 = 0 := hw
      generalize s.tk (tE f len (tE f len i)) (tK f len (tE f len i)) (tS f len (tE f len i)) v = s3 at s2 x2 w2 ⊢
      have hM3 : MH (hset h m (oM m W.1 W.2.1 (W.1 ^ W.2.1) s3)) m W.1 W.2.1 (W.1 ^ W.2.1) s3 := hset_eq _ _ _
      refine e_aload_n (pc := 22) dX11_aStatement_22 rfl rfl ?_
      refine n_V (pc := 23) (c_X11_order (i := i) hM3 hT1.hm s2) bX11_order q_i_X11_order q_s_X11_order q_m_X11_245 dX11_aStatement_23 rfl rfl (by repeat (first | assumption | exact hset_eq _ _ _ | (apply Lay.hd; assumption) | rw [hset_ne _ _ (by omega)])) rfl rfl (by exact Nat.le_of_ble_eq_true rfl) ⟨by decide, by decide⟩ ⟨rfl, rfl, Nat.zero_le _, Nat.zero_le _⟩ (fun z h4 hp => ?_)
      rcases hp with ⟨rfl, ho, s4, rfl, d4, tk4⟩ | ⟨rfl, x, p2, n2, q2, s4, ho, rfl, d4, w4⟩
      · refine n_bif_ne (pc := 26) (tgt := 91) dX11_aStatement_26 (by decide) (fun _ => ?_) (fun c => by cases c)
        refine e_heap (hset_hset h m _ _) ?_
        have cb : canBe (vl f len i 0) (vl f len i 1) := by
          refine Classical.byContradiction (fun nc => ?_)
          unfold ordF at ho
          rw [bl_f nc] at ho
          (repeat' split at ho) <;> first | (rename_i q; exact absurd q (by decide)) | cases ho
        have eS : sF f len i W (tK f len i) = none := by rw [c4]; exact ho
        have eW : sW W F (tK f len i) (vl f len i) = (vl f len i 0, vl f len i 1, fun _ => 0) := by rw [c4]; rfl
        have eN : scn W (tK f len i) = 2 := by rw [c4]; rfl
        have wk4 : Wok (vl f len i 0, vl f len i 1, fun _ => 0) := ⟨cb.1, cb.2.1, cb.2.2.1, cb.2.2.2, fun t => ⟨by show 0 < vl f len i 0; rcases cb.1 with e | e | e <;> omega, fun _ => rfl⟩⟩
        refine l_as_e hT hb (by decide) eS ?_
        rw [eW, eN, if_neg (by omega), if_neg (by omega)]
        refine ⟨s4, ⟨hset_eq _ _ _, ?_, ro.hd⟩, wk4, (fun q => by cases q), tk4, x2.to d4.1, d4.2.trans w2, fun b hb => (hset_ne _ _ (by omega)).trans (hfc b hb)⟩
        obtain ⟨gc, c1, c2⟩ := hL.2.1
        exact ⟨gc, (hset_ne _ _ (by omega)).trans c1, fun t ht => by rw [c2 t ht, hz]⟩
      · refine n_bif_ne (pc := 26) (tgt := 91) dX11_aStatement_26 (by decide) (fun c => by cases c) (fun _ => ?_)
        refine e_heap (hset_hset h m _ _) ?_
        refine n_iconst (pc := 29) 0 dX11_aStatement_29 (by decide) ?_
        exact n_zret (pc := 30) dX11_aStatement_30 rfl rfl (Or.inr ⟨rfl, x, PsS.bad ro x2 hfc d4 w4, Or.inr (Or.inr (Or.inl ⟨hb, by decide, by rw [c4]; exact ho⟩))⟩)
    · have hb : badK (tK f len i) 0 false := by unfold badK; omega
      refine n_icmp_eq (pc := 9) (tgt := 18) dX11_aStatement_9 (by decide) (by omega) (by omega) (fun c => absurd c (by omega)) (fun hb_ => ?_)
      refine e_aload_n (pc := 12) dX11_aStatement_12 rfl rfl ?_
      refine n_iconst (pc := 13) 1 dX11_aStatement_13 (by decide) ?_
      refine n_V (pc := 14) (c_X11_bad (k := 1) hM) bX11_bad q_i_X11_bad q_s_X11_bad q_m_X11_213 dX11_aStatement_14 rfl rfl (by repeat (first | assumption | exact hset_eq _ _ _ | (apply Lay.hd; assumption) | rw [hset_ne _ _ (by omega)])) rfl rfl (by exact Nat.le_of_ble_eq_true rfl) ⟨by decide, by decide⟩ ⟨rfl, rfl, Nat.zero_le _, Nat.zero_le _⟩ (fun z h2 hp => ?_)
      obtain ⟨rfl, s6, rfl, p1, p2⟩ := hp
      rw [t5] at p2
      exact n_zret (pc := 17) dX11_aStatement_17 rfl (bI_nar _) (Or.inr ⟨rfl, _, PsS.bad ro hx hfc p1 p2, Or.inl ⟨hb, rfl⟩⟩)
  · have bad1 : badK (tK f len i) k hf → VI MX11_aStatement sz (AsR hh m W F hf f len i k s0) h 60 [some (.ref m), some (.int (nI k))] [] := fun hb => by
      refine e_aload_n (pc := 60) dX11_aStatement_60 rfl rfl ?_
      refine n_iconst (pc := 61) 1 dX11_aStatement_61 (by decide) ?_
      refine n_V (pc := 62) (c_X11_bad (k := 1) hM) bX11_bad q_i_X11_bad q_s_X11_bad q_m_X11_213 dX11_aStatement_62 rfl rfl (by repeat (first | assumption | exact hset_eq _ _ _ | (apply Lay.hd; assumption) | rw [hset_ne _ _ (by omega)])) rfl rfl (by exact Nat.le_of_ble_eq_true rfl) ⟨by decide, by decide⟩ ⟨rfl, rfl, Nat.zero_le _, Nat.zero_le _⟩ (fun z h2 hp => ?_)
      obtain ⟨rfl, s6, rfl, p1, p2⟩ := hp
      rw [t5] at p2
      exact n_zret (pc := 65) dX11_aStatement_65 rfl (bI_nar _) (Or.inr ⟨rfl, _, PsS.bad ro hx hfc p1 p2, Or.inl ⟨hb, rfl⟩⟩)
    have go : ¬ badK (tK f len i) k hf → VI MX11_aStatement sz (AsR hh m W F hf f len i k s0) h 66 [some (.ref m), some (.int (nI k))] [] := fun hb => by
      have kb : 5 ≤ tK f len i ∧ tK f len i ≤ 8 := by unfold badK at hb; omega
      have k6 : tK f len i = 6 → hf = true := fun e => by
        cases hf with
        | true => rfl
        | false => exact absurd (Or.inr (Or.inr ⟨e, rfl⟩)) hb
      refine e_iload_n (pc := 66) dX11_aStatement_66 rfl rfl ?_
      refine n_bipush (pc := 67) 40 dX11_aStatement_67 (by decide) ?_
      refine n_icmp_ne (pc := 69) (tgt := 78) dX11_aStatement_69 (by decide) (by omega) (by omega) (fun c40 => ?_) (fun c40 => ?_)
      · refine e_aload_n (pc := 78) dX11_aStatement_78 rfl rfl ?_
        refine e_aload_n (pc := 79) dX11_aStatement_79 rfl rfl ?_
        refine e_get (pc := 80) fl_X11_192 dX11_aStatement_80 (by repeat (first | assumption | exact hset_eq _ _ _ | (apply Lay.hd; assumption) | rw [hset_ne _ _ (by omega)])) (by rfl) ?_
        rw [t4]
        refine n_V (pc := 83) (c_X11_statement hP hT kb k6) bX11_statement q_i_X11_statement q_s_X11_statement q_m_X11_248 dX11_aStatement_83 rfl rfl (by repeat (first | assumption | exact hset_eq _ _ _ | (apply Lay.hd; assumption) | rw [hset_ne _ _ (by omega)])) rfl rfl (by exact Nat.le_of_ble_eq_true rfl) ⟨by decide, by decide⟩ ⟨rfl, rfl, Nat.zero_le _, Nat.zero_le _⟩ (fun z h2 hp => ?_)
        rcases hp with ⟨rfl, p1, p2⟩ | ⟨rfl, x, p1, p2⟩
        · refine n_bif_ne (pc := 86) (tgt := 91) dX11_aStatement_86 (by decide) (fun _ => ?_) (fun c => by cases c)
          exact l_as_e hT hb (by omega) p1 p2
        · refine n_bif_ne (pc := 86) (tgt := 91) dX11_aStatement_86 (by decide) (fun c => by cases c) (fun _ => ?_)
          refine n_iconst (pc := 89) 0 dX11_aStatement_89 (by decide) ?_
          exact n_zret (pc := 90) dX11_aStatement_90 rfl rfl (Or.inr ⟨rfl, x, p2, Or.inr (Or.inr (Or.inl ⟨hb, by omega, p1⟩))⟩)
      · refine e_aload_n (pc := 72) dX11_aStatement_72 rfl rfl ?_
        refine n_iconst (pc := 73) 3 dX11_aStatement_73 (by decide) ?_
        refine n_V (pc := 74) (c_X11_bad (k := 3) hM) bX11_bad q_i_X11_bad q_s_X11_bad q_m_X11_213 dX11_aStatement_74 rfl rfl (by repeat (first | assumption | exact hset_eq _ _ _ | (apply Lay.hd; assumption) | rw [hset_ne _ _ (by omega)])) rfl rfl (by exact Nat.le_of_ble_eq_true rfl) ⟨by decide, by decide⟩ ⟨rfl, rfl, Nat.zero_le _, Nat.zero_le _⟩ (fun z h2 hp => ?_)
        obtain ⟨rfl, s6, rfl, p1, p2⟩ := hp
        rw [t5] at p2
        exact n_zret (pc := 77) dX11_aStatement_77 rfl (bI_nar _) (Or.inr ⟨rfl, _, PsS.bad ro hx hfc p1 p2, Or.inr (Or.inl ⟨hb, by omega, rfl⟩)⟩)
    refine n_if_ne (pc := 1) (tgt := 31) dX11_aStatement_1 (by decide) (by omega) (fun hb_ => ?_) (fun c => absurd c (by omega))
    refine e_aload_n (pc := 31) dX11_aStatement_31 rfl rfl ?_
    refine e_get (pc := 32) fl_X11_192 dX11_aStatement_32 (by repeat (first | assumption | exact hset_eq _ _ _ | (apply Lay.hd; assumption) | rw [hset_ne _ _ (by omega)])) (by rfl) ?_
    rw [t4]
    refine n_iconst (pc := 35) 5 dX11_aStatement_35 (by decide) ?_
    refine n_bipush (pc := 36) 8 dX11_aStatement_36 (by decide) ?_
    refine n_SP (pc := 38) (c_X11_isIn (nI (tK f len i)) (nI 5) (nI 8)) bX11_isIn q_st_X11_isIn q_m_X11_98 dX11_aStatement_38 rfl rfl (by exact Nat.le_of_ble_eq_true rfl) ⟨by decide, by decide⟩ ⟨rfl, rfl, Nat.zero_le _, Nat.zero_le _⟩ ?_
    rw [inB_nat (by omega) (by decide) (by decide)]
    refine n_bif_eq (pc := 41) (tgt := 60) dX11_aStatement_41 (by decide) (fun cb => ?_) (fun cb => ?_)
    · have cb := of_decide_eq_false cb
      exact bad1 (by unfold badK; omega)
    · have cb := of_decide_eq_true cb
      refine e_aload_n (pc := 44) dX11_aStatement_44 rfl rfl ?_
      refine e_get (pc := 45) fl_X11_192 dX11_aStatement_45 (by repeat (first | assumption | exact hset_eq _ _ _ | (apply Lay.hd; assumption) | rw [hset_ne _ _ (by omega)])) (by rfl) ?_
      rw [t4]
      refine n_bipush (pc := 48) 6 dX11_aStatement_48 (by decide) ?_
      refine n_icmp_ne (pc := 50) (tgt := 66) dX11_aStatement_50 (by decide) (by omega) (by omega) (fun c6 => ?_) (fun c6 => ?_)
      · exact go (by unfold badK; omega)
      · refine e_aload_n (pc := 53) dX11_aStatement_53 rfl rfl ?_
        refine e_get (pc := 54) fl_X11_238 dX11_aStatement_54 (by repeat (first | assumption | exact hset_eq _ _ _ | (apply Lay.hd; assumption) | rw [hset_ne _ _ (by omega)])) (by rfl) ?_
        rw [hx.2.2.1]
        refine n_bif_ne (pc := 57) (tgt := 66) dX11_aStatement_57 (by decide) (fun ch => ?_) (fun ch => ?_)
        · exact go (by unfold badK; rw [ch]; intro z; rcases z with z | z | z <;> first | omega | cases z.2)
        · exact bad1 (Or.inr (Or.inr ⟨c6, ch⟩))
end TX
section TXX
variable {h hh : AH} {m : Nat} {x y : Sx} {ik : Bool} {len sz : Nat} {f : Nat → Nat} {ft fp : Int32} {s s0 : Ms}
/-- what a text leaves -/
def TxR (hh : AH) (m : Nat) (x y : Sx) (ik : Bool) (f : Nat → Nat) (a : Nat) (r : (Nat × Nat) ⊕ Wd) (z : Int32) (h' : AH) : Prop := ∃ x2 ft2 fp2, (match r with
    | .inl q => z = -1 ∧ x2 = x ∧ ft2 = nI q.1 ∧ fp2 = nI q.2
    | .inr W => z = nI (W.1 ^ W.2.1) ∧ x2 = x.tellW a W ∧ ft2 = nI 0 ∧ fp2 = -1) ∧ MAt h' m x2 y ik 0 f ft2 fp2 ∧ Er m (m + 107) hh h'
theorem MAt.len0 {h2 : AH} {p n q : Nat} {s : Ms} {ft2 fp2 : Int32} (hX : MAt h m x y ik len f ft fp) (hM : MH h2 m p n q s) (hs : Pst s ik 0 ft2 fp2) (hR : MRo h2 m) (e : FmC m h h2) : MAt h2 m x y ik 0 f ft2 fp2 := by
  obtain ⟨-, -, ⟨g, a1, a2⟩, ⟨g2, a3, a4⟩, a5, g3, a6, a7⟩ := hX
  exact ⟨⟨p, n, q, s, hM, hs⟩, hR, ⟨g, (e _ (by omega)).trans a1, a2⟩, ⟨g2, (e _ (by omega)).trans a3, a4⟩, Nat.zero_le _, g3, (e _ (by omega)).trans a6, fun k hk => absurd hk (Nat.not_lt_zero k)⟩
theorem l_tx_g {a : Nat} {W F : Wd} {hf : Bool} {i : Nat} {x3 : Option Value} (hX : MAt hh m x y ik len f ft fp) (hx : SxOk x) (ha : a < 6) (hs0 : Pst s0 ik len ft fp) (hP : PsS hh h m W F hf f len i s0) : VI MX11_text sz (TxR hh m x y ik f a (.inr W)) h 106 [some (.ref m), some (.int (nI a)), some (.int (nI 1)), x3] [] := by
  obtain ⟨s, hL, hk1, hF, ht, hxs, hw, hfc⟩ := hP
  obtain ⟨e1, e2, e3, e4⟩ := hxs
  have hM : h m = some (ob 10 (mfs m W.1 W.2.1 (W.1 ^ W.2.1) s)) := hL.1
  refine e_aload_n (pc := 106) dX11_text_106 rfl rfl ?_
  refine n_iconst (pc := 107) 0 dX11_text_107 (by decide) ?_
  refine e_put (pc := 108) pl_X11_157 dX11_text_108 (by repeat (first | assumption | exact hset_eq _ _ _ | (apply Lay.hd; assumption) | rw [hset_ne _ _ (by omega)])) (by rfl) (by rfl) (by exact Nat.le_of_ble_eq_true rfl) ?_
  refine e_aload_n (pc := 111) dX11_text_111 rfl rfl ?_
  refine e_aload_n (pc := 112) dX11_text_112 rfl rfl ?_
  refine e_get (pc := 113) fl_X11_207 dX11_text_113 (by repeat (first | assumption | exact hset_eq _ _ _ | (apply Lay.hd; assumption) | rw [hset_ne _ _ (by omega)])) (by rfl) ?_
  rw [hw]
  refine e_put (pc := 116) pl_X11_251 dX11_text_116 (by repeat (first | assumption | exact hset_eq _ _ _ | (apply Lay.hd; assumption) | rw [hset_ne _ _ (by omega)])) (by rfl) (by rfl) (by exact Nat.le_of_ble_eq_true rfl) ?_
  refine e_heap (hset_hset h m _ _) ?_
  refine e_aload_n (pc := 119) dX11_text_119 rfl rfl ?_
  refine e_iload_n (pc := 120) dX11_text_120 rfl rfl ?_
  refine n_if_eq (pc := 121) (tgt := 128) dX11_text_121 (by decide) (by omega) (fun c => absurd c (by omega)) (fun hb_ => ?_)
  refine e_iconst (pc := 124) (v := -1) dX11_text_124 (by decide) ?_
  refine e_goto (pc := 125) (tgt := 132) dX11_text_125 (by decide) ?_
  refine e_put (pc := 132) pl_X11_37 dX11_text_132 (by repeat (first | assumption | exact hset_eq _ _ _ | (apply Lay.hd; assumption) | rw [hset_ne _ _ (by omega)])) (by rfl) (by rfl) (by exact Nat.le_of_ble_eq_true rfl) ?_
  refine e_heap (hset_hset h m _ _) ?_
  have l2 : Lay (hset h m (oM m W.1 W.2.1 (W.1 ^ W.2.1) (s.1, 0, s.2.2.1, s.2.2.2.1, s.2.2.2.2.1, s.2.2.2.2.2.1, s.2.2.2.2.2.2.1, s.2.2.2.2.2.2.2.1, nI 0, -1, s.2.2.2.2.2.2.2.2.2.2))) m W (s.1, 0, s.2.2.1, s.2.2.2.1, s.2.2.2.2.1, s.2.2.2.2.2.1, s.2.2.2.2.2.2.1, s.2.2.2.2.2.2.2.1, nI 0, -1, s.2.2.2.2.2.2.2.2.2.2) := ⟨hset_eq _ _ _, hL.2.1.keep (hset_ne _ _ (by omega)), hL.2.2.hd⟩
  have f2 : FmC m hh (hset h m (oM m W.1 W.2.1 (W.1 ^ W.2.1) (s.1, 0, s.2.2.1, s.2.2.2.1, s.2.2.2.2.1, s.2.2.2.2.2.1, s.2.2.2.2.2.2.1, s.2.2.2.2.2.2.2.1, nI 0, -1, s.2.2.2.2.2.2.2.2.2.2))) := fun b hb => (hset_ne _ _ (by omega)).trans (hfc b hb)
  have ps : Pst (s.1, 0, s.2.2.1, s.2.2.2.1, s.2.2.2.2.1, s.2.2.2.2.2.1, s.2.2.2.2.2.2.1, s.2.2.2.2.2.2.2.1, nI 0, -1, s.2.2.2.2.2.2.2.2.2.2) ik 0 (nI 0) (-1) := ⟨e1.trans hs0.1, rfl, rfl, rfl, e4.trans hs0.2.2.2.2⟩
  show VI MX11_text sz _ (hset h m (oM m W.1 W.2.1 (W.1 ^ W.2.1) (s.1, 0, s.2.2.1, s.2.2.2.1, s.2.2.2.2.1, s.2.2.2.2.2.1, s.2.2.2.2.2.2.1, s.2.2.2.2.2.2.2.1, nI 0, -1, s.2.2.2.2.2.2.2.2.2.2))) 135 _ _
  generalize (s.1, 0, s.2.2.1, s.2.2.2.1, s.2.2.2.2.1, s.2.2.2.2.2.1, s.2.2.2.2.2.2.1, s.2.2.2.2.2.2.2.1, nI 0, (-1 : Int32), s.2.2.2.2.2.2.2.2.2.2) = s2 at l2 f2 ps ⊢
  generalize hset h m (oM m W.1 W.2.1 (W.1 ^ W.2.1) s2) = h2 at l2 f2 ⊢
  have hX2 := hX.len0 l2.1 ps l2.2.2 f2
  obtain ⟨-, -, ⟨g, hw1, hg⟩, -⟩ := id hX2
  refine e_iload_n (pc := 135) dX11_text_135 rfl rfl ?_
  refine n_if_ne (pc := 136) (tgt := 141) dX11_text_136 (by decide) (by omega) (fun hb_ => ?_) (fun c => absurd c (by omega))
  refine e_aload_n (pc := 141) dX11_text_141 rfl rfl ?_
  refine e_iload_n (pc := 142) dX11_text_142 rfl rfl ?_
  refine e_aload_n (pc := 143) dX11_text_143 rfl rfl ?_
  refine e_get (pc := 144) fl_X11_16 dX11_text_144 (by repeat (first | assumption | exact hset_eq _ _ _ | (apply Lay.hd; assumption) | rw [hset_ne _ _ (by omega)])) (by rfl) ?_
  refine n_Vv (pc := 147) (c_X11_becomes (W := W) l2.1 hw1 hx hg ha l2.2.1 (by omega)) bX11_becomes q_i_X11_becomes q_s_X11_becomes q_m_X11_154 dX11_text_147 rfl rfl (by repeat (first | assumption | exact hset_eq _ _ _ | (apply Lay.hd; assumption) | rw [hset_ne _ _ (by omega)])) rfl rfl (by exact Nat.le_of_ble_eq_true rfl) ⟨by decide, by decide⟩ ⟨rfl, rfl, Nat.zero_le _, Nat.zero_le _⟩ (fun h4 hp => ?_)
  obtain ⟨g4, rfl, p5⟩ := hp
  obtain ⟨u1, u2⟩ := hX2.nw rfl p5
  have hM4 : hset h2 (m + 1) (aI 6070 g4) m = some (ob 10 (mfs m W.1 W.2.1 (W.1 ^ W.2.1) s2)) := (hset_ne _ _ (by omega)).trans l2.1
  refine e_aload_n (pc := 150) dX11_text_150 rfl rfl ?_
  refine e_get (pc := 151) fl_X11_112 dX11_text_151 (by repeat (first | assumption | exact hset_eq _ _ _ | (apply Lay.hd; assumption) | rw [hset_ne _ _ (by omega)])) (by rfl) ?_
  exact n_iret (pc := 154) dX11_text_154 rfl ⟨_, _, _, ⟨rfl, rfl, rfl, rfl⟩, u1, f2.er.tr u2⟩
theorem l_tx_b {a : Nat} {q : Nat × Nat} {x3 : Option Value} (hX : MAt hh m x y ik len f ft fp) (hs0 : Pst s0 ik len ft fp) (hP : PfS hh h m s0 q) : VI MX11_text sz (TxR hh m x y ik f a (.inl q)) h 106 [some (.ref m), some (.int (nI a)), some (.int (nI 0)), x3] [] := by
  obtain ⟨p, n, qq, s, hM, hR, ⟨e1, e2, e4⟩, ⟨w1, w2⟩, hfc⟩ := hP
  have hM : h m = some (ob 10 (mfs m p n qq s)) := hM
  refine e_aload_n (pc := 106) dX11_text_106 rfl rfl ?_
  refine n_iconst (pc := 107) 0 dX11_text_107 (by decide) ?_
  refine e_put (pc := 108) pl_X11_157 dX11_text_108 (by repeat (first | assumption | exact hset_eq _ _ _ | (apply Lay.hd; assumption) | rw [hset_ne _ _ (by omega)])) (by rfl) (by rfl) (by exact Nat.le_of_ble_eq_true rfl) ?_
  refine e_aload_n (pc := 111) dX11_text_111 rfl rfl ?_
  refine e_aload_n (pc := 112) dX11_text_112 rfl rfl ?_
  refine e_get (pc := 113) fl_X11_207 dX11_text_113 (by repeat (first | assumption | exact hset_eq _ _ _ | (apply Lay.hd; assumption) | rw [hset_ne _ _ (by omega)])) (by rfl) ?_
  rw [w1]
  refine e_put (pc := 116) pl_X11_251 dX11_text_116 (by repeat (first | assumption | exact hset_eq _ _ _ | (apply Lay.hd; assumption) | rw [hset_ne _ _ (by omega)])) (by rfl) (by rfl) (by exact Nat.le_of_ble_eq_true rfl) ?_
  refine e_heap (hset_hset h m _ _) ?_
  refine e_aload_n (pc := 119) dX11_text_119 rfl rfl ?_
  refine e_iload_n (pc := 120) dX11_text_120 rfl rfl ?_
  refine n_if_eq (pc := 121) (tgt := 128) dX11_text_121 (by decide) (by omega) (fun hb_ => ?_) (fun c => absurd c (by omega))
  refine e_aload_n (pc := 128) dX11_text_128 rfl rfl ?_
  refine e_get (pc := 129) fl_X11_210 dX11_text_129 (by repeat (first | assumption | exact hset_eq _ _ _ | (apply Lay.hd; assumption) | rw [hset_ne _ _ (by omega)])) (by rfl) ?_
  refine e_top (congrArg nI w2) ?_
  refine e_put (pc := 132) pl_X11_37 dX11_text_132 (by repeat (first | assumption | exact hset_eq _ _ _ | (apply Lay.hd; assumption) | rw [hset_ne _ _ (by omega)])) (by rfl) (by rfl) (by exact Nat.le_of_ble_eq_true rfl) ?_
  refine e_heap (hset_hset h m _ _) ?_
  refine e_iload_n (pc := 135) dX11_text_135 rfl rfl ?_
  refine n_if_ne (pc := 136) (tgt := 141) dX11_text_136 (by decide) (by omega) (fun c => absurd c (by omega)) (fun hb_ => ?_)
  refine e_iconst (pc := 139) (v := -1) dX11_text_139 (by decide) ?_
  have f2 : FmC m hh (hset h m (oM m p n qq (s.1, 0, s.2.2.1, s.2.2.2.1, s.2.2.2.2.1, s.2.2.2.2.2.1, s.2.2.2.2.2.2.1, s.2.2.2.2.2.2.2.1, nI q.1, nI q.2, s.2.2.2.2.2.2.2.2.2.2))) := fun b hb => by
    by_cases eb : b = m
    · omega
    · exact (hset_ne _ _ eb).trans (hfc b hb)
  refine n_iret (pc := 140) dX11_text_140 rfl ⟨x, nI q.1, nI q.2, ⟨rfl, rfl, rfl, rfl⟩, ?_, f2.er⟩
  exact hX.len0 (s := (s.1, 0, s.2.2.1, s.2.2.2.1, s.2.2.2.2.1, s.2.2.2.2.2.1, s.2.2.2.2.2.2.1, s.2.2.2.2.2.2.2.1, nI q.1, nI q.2, s.2.2.2.2.2.2.2.2.2.2)) (hset_eq _ _ _) ⟨e1.trans hs0.1, rfl, rfl, rfl, e4.trans hs0.2.2.2.2⟩ hR.hd f2
theorem l_tx {a : Nat} (hX : MAt hh m x y ik len f ft fp) (hx : SxOk x) (ha : a < 6) (hs0 : Pst s0 ik len ft fp) (hT : TpM hh m f len) :
    ∀ (t k : Nat), k + t = 42 → k ≤ 40 → ∀ (i : Nat) (W F : Wd) (hf : Bool), (k = 0 → hf = false ∧ W.2.2 = fun _ => 0) → ∀ h, PsS hh h m W F hf f len i s0 → VI MX11_text sz (TxR hh m x y ik f a (prs f len t k W F hf i)) h 83 [some (.ref m), some (.int (nI a)), some (.int (nI 1)), some (.int (nI k))] [] := by
  intro t
  induction t with
  | zero => intro k e1 e2; exact absurd e1 (by omega)
  | succ t ih =>
    intro k e1 e2 i W F hf h0 h hP
    obtain ⟨s, hL, ht, hxs, hw⟩ := hP.lay
    have hM : h m = some (ob 10 (mfs m W.1 W.2.1 (W.1 ^ W.2.1) s)) := hL.1
    have kv := tK_v (f := f) (len := len) i
    rw [prs_s]
    refine e_iload_n (pc := 83) dX11_text_83 rfl rfl ?_
    refine n_if_eq (pc := 84) (tgt := 106) dX11_text_84 (by decide) (by omega) (fun c => absurd c (by omega)) (fun hb_ => ?_)
    refine e_aload_n (pc := 87) dX11_text_87 rfl rfl ?_
    refine e_get (pc := 88) fl_X11_192 dX11_text_88 (by repeat (first | assumption | exact hset_eq _ _ _ | (apply Lay.hd; assumption) | rw [hset_ne _ _ (by omega)])) (by rfl) ?_
    rw [ht.2.2.2.1]
    refine n_if_eq (pc := 91) (tgt := 106) dX11_text_91 (by decide) (by omega) (fun c0 => ?_) (fun c0 => ?_)
    · rw [if_pos c0]
      exact l_tx_g hX hx ha hs0 hP
    · rw [if_neg c0]
      refine e_aload_n (pc := 94) dX11_text_94 rfl rfl ?_
      refine e_iload_n (pc := 95) dX11_text_95 rfl rfl ?_
      refine n_V (pc := 96) (c_X11_aStatement hP hT e2 h0) bX11_aStatement q_i_X11_aStatement q_s_X11_aStatement q_m_X11_254 dX11_text_96 rfl rfl (by repeat (first | assumption | exact hset_eq _ _ _ | (apply Lay.hd; assumption) | rw [hset_ne _ _ (by omega)])) rfl rfl (by exact Nat.le_of_ble_eq_true rfl) ⟨by decide, by decide⟩ ⟨rfl, rfl, Nat.zero_le _, Nat.zero_le _⟩ (fun z h2 hp => ?_)
      rcases hp with ⟨rfl, nb, k40, q1, q2, hP2⟩ | ⟨rfl, qx, hF2, hq⟩
      · have nb' : ¬ (tK f len i < 4 ∨ ¬ (tK f len i = 4 ↔ k = 0) ∨ (tK f len i = 6 ∧ hf = false)) := nb
        rw [if_neg nb', if_neg (by omega), q1]
        show VI MX11_text sz (TxR hh m x y ik f a (if tC f len (nt f len i (scn W (tK f len i) + 1)) = 3 then prs f len t (k + 1) (sW W F (tK f len i) (vl f len i)) (if tK f len i = 5 then polyW W.1 W.2.1 (vl f len i) else F) (if tK f len i = 5 then true else hf) (nt f len i (scn W (tK f len i) + 2)) else .inl (1, tS f len (nt f len i (scn W (tK f len i) + 1))))) h2 99 _ _
        rw [if_pos q2]
        refine e_istore_n (pc := 99) dX11_text_99 rfl (by decide) ?_
        refine n_inc (pc := 100) dX11_text_100 rfl (by decide) ?_
        refine e_goto (pc := 103) (tgt := 83) dX11_text_103 (by decide) ?_
        exact ih (k + 1) (by omega) (by omega) _ _ _ _ (fun q => by omega) h2 hP2
      · have fin : ∀ r, r = Sum.inl qx → VI MX11_text sz (TxR hh m x y ik f a r) h2 99 [some (.ref m), some (.int (nI a)), some (.int (nI 1)), some (.int (nI k))] [.int (bI false)] := fun r hr => by
          subst hr
          obtain ⟨p, n, qq, s, hM, -⟩ := id hF2
          refine e_istore_n (pc := 99) dX11_text_99 rfl (by decide) ?_
          refine n_inc (pc := 100) dX11_text_100 rfl (by decide) ?_
          refine e_goto (pc := 103) (tgt := 83) dX11_text_103 (by decide) ?_
          refine e_iload_n (pc := 83) dX11_text_83 rfl rfl ?_
          refine e_if_eq (pc := 84) (tgt := 106) dX11_text_84 (by decide) (fun _ => ?_) (fun q => absurd rfl q)
          exact l_tx_b hX hs0 hF2
        rcases hq with ⟨b1, rfl⟩ | ⟨b1, b2, rfl⟩ | ⟨b1, b2, b3⟩ | ⟨b1, b2, b3, b4, rfl⟩
        · have b1' : tK f len i < 4 ∨ ¬ (tK f len i = 4 ↔ k = 0) ∨ (tK f len i = 6 ∧ hf = false) := b1
          rw [if_pos b1']
          exact fin _ rfl
        · have b1' : ¬ (tK f len i < 4 ∨ ¬ (tK f len i = 4 ↔ k = 0) ∨ (tK f len i = 6 ∧ hf = false)) := b1
          rw [if_neg b1', if_pos b2]
          exact fin _ rfl
        · have b1' : ¬ (tK f len i < 4 ∨ ¬ (tK f len i = 4 ↔ k = 0) ∨ (tK f len i = 6 ∧ hf = false)) := b1
          rw [if_neg b1', if_neg (by omega), b3]
          exact fin _ rfl
        · have b1' : ¬ (tK f len i < 4 ∨ ¬ (tK f len i = 4 ↔ k = 0) ∨ (tK f len i = 6 ∧ hf = false)) := b1
          rw [if_neg b1', if_neg (by omega), b3]
          refine fin _ ?_
          show (if tC f len (nt f len i (scn W (tK f len i) + 1)) = 3 then _ else _) = _
          rw [if_neg b4]
theorem l_tx_z {H : AH} {p n q : Nat} {a : Value} {Pr : Int32 → AH → Prop} (hM : MH H m p n q s)
    (kk : ∀ g, (∀ t, t < 125 → g t = nI 0) → VI MX11_text sz Pr (hset H (m + 3) (aI 125 g)) 75 [some (.ref m), some a, none, none] []) :
    ∀ (t k : Nat), t = 125 - k → k ≤ 125 → ∀ g, (∀ t, t < k → g t = nI 0) → VI MX11_text sz Pr (hset H (m + 3) (aI 125 g)) 56 [some (.ref m), some a, some (.int (nI k)), none] [] := by
  intro t
  induction t with
  | zero =>
    intro k e1 e2 g hg
    have e' : k = 125 := by omega
    subst e'
    refine e_iload_n (pc := 56) dX11_text_56 rfl rfl ?_
    refine n_bipush (pc := 57) 125 dX11_text_57 (by decide) ?_
    refine n_icmp_ge (pc := 59) (tgt := 75) dX11_text_59 (by decide) (by omega) (by omega) (fun hb_ => ?_) (fun c => absurd c (by omega))
    refine V.mask [true, true, false, false] ?_
    exact kk g hg
  | succ t ih =>
    intro k e1 e2 g hg
    have hM1 : MH (hset H (m + 3) (aI 125 g)) m p n q s := (hset_ne _ _ (by omega)).trans hM
    refine e_iload_n (pc := 56) dX11_text_56 rfl rfl ?_
    refine n_bipush (pc := 57) 125 dX11_text_57 (by decide) ?_
    refine n_icmp_ge (pc := 59) (tgt := 75) dX11_text_59 (by decide) (by omega) (by omega) (fun c => absurd c (by omega)) (fun hb_ => ?_)
    refine e_aload_n (pc := 62) dX11_text_62 rfl rfl ?_
    refine e_get (pc := 63) fl_X11_16 dX11_text_63 (by repeat (first | assumption | exact hset_eq _ _ _ | (apply Lay.hd; assumption) | rw [hset_ne _ _ (by omega)])) (by rfl) ?_
    refine e_iload_n (pc := 66) dX11_text_66 rfl rfl ?_
    refine n_iconst (pc := 67) 0 dX11_text_67 (by decide) ?_
    refine e_iastN (pc := 68) k dX11_text_68 (by repeat (first | assumption | exact hset_eq _ _ _ | (apply Lay.hd; assumption) | rw [hset_ne _ _ (by omega)])) (by rfl) (by omega) (by first | decide | omega) ?_
    refine e_heap (hset_hset H (m + 3) _ _) ?_
    refine n_inc (pc := 69) dX11_text_69 rfl (by decide) ?_
    refine e_goto (pc := 72) (tgt := 56) dX11_text_72 (by decide) ?_
    refine ih (k + 1) (by omega) (by omega) _ (fun t ht => ?_)
    by_cases c : t = k
    · subst c; rw [pk_us]
    · rw [pk_un c]; exact hg t (by omega)
theorem c_X11_text (hX : MAt h m x y ik len f ft fp) (hx : SxOk x) (hf : ∀ t, t < len → f t < 256) (w : Int32) : CI yX11_text MX11_text [.ref m, .int w] h (fun z h' => ∃ x2 ft2 fp2, QS_text x f len w z x2 ft2 fp2 ∧ MAt h' m x2 y ik 0 f ft2 fp2 ∧ Er m (m + 107) h h') := by
  obtain ⟨⟨p, n, q, s, hM, hs⟩, hR, -, -, l6, gt, ht1, ht2⟩ := id hX
  have hM : h m = some (ob 10 (mfs m p n q s)) := hM
  have hT : TpM h m f len := ⟨l6, gt, ht1, fun t ht => ⟨ht2 t ht, hf t ht⟩⟩
  refine CI.ofV (by decide) rfl rfl (by simp [Value.category]) (by exact Nat.le_of_ble_eq_true rfl) (fun sz => ?_)
  refine e_aload_n (pc := 0) dX11_text_0 rfl rfl ?_
  refine n_iconst (pc := 1) 0 dX11_text_1 (by decide) ?_
  refine e_put (pc := 2) pl_X11_207 dX11_text_2 (by repeat (first | assumption | exact hset_eq _ _ _ | (apply Lay.hd; assumption) | rw [hset_ne _ _ (by omega)])) (by rfl) (by rfl) (by exact Nat.le_of_ble_eq_true rfl) ?_
  refine e_iload_n (pc := 5) dX11_text_5 rfl rfl ?_
  refine n_SP (pc := 6) (c_X11_isWorld w) bX11_isWorld q_st_X11_isWorld q_m_X11_143 dX11_text_6 rfl rfl (by exact Nat.le_of_ble_eq_true rfl) ⟨by decide, by decide⟩ ⟨rfl, rfl, Nat.zero_le _, Nat.zero_le _⟩ ?_
  refine n_bif_ne (pc := 9) (tgt := 29) dX11_text_9 (by decide) (fun c => ?_) (fun c => ?_)
  · obtain ⟨a, ha, rfl⟩ := okI_of (by decide) c
    refine e_aload_n (pc := 29) dX11_text_29 rfl rfl ?_
    refine n_iconst (pc := 30) 0 dX11_text_30 (by decide) ?_
    refine e_put (pc := 31) pl_X11_160 dX11_text_31 (by repeat (first | assumption | exact hset_eq _ _ _ | (apply Lay.hd; assumption) | rw [hset_ne _ _ (by omega)])) (by rfl) (by rfl) (by exact Nat.le_of_ble_eq_true rfl) ?_
    refine e_heap (hset_hset h m _ _) ?_
    refine e_aload_n (pc := 34) dX11_text_34 rfl rfl ?_
    refine n_iconst (pc := 35) 0 dX11_text_35 (by decide) ?_
    refine e_put (pc := 36) pl_X11_238 dX11_text_36 (by repeat (first | assumption | exact hset_eq _ _ _ | (apply Lay.hd; assumption) | rw [hset_ne _ _ (by omega)])) (by rfl) (by rfl) (by exact Nat.le_of_ble_eq_true rfl) ?_
    refine e_heap (hset_hset h m _ _) ?_
    refine e_aload_n (pc := 39) dX11_text_39 rfl rfl ?_
    refine n_iconst (pc := 40) 2 dX11_text_40 (by decide) ?_
    refine e_put (pc := 41) pl_X11_106 dX11_text_41 (by repeat (first | assumption | exact hset_eq _ _ _ | (apply Lay.hd; assumption) | rw [hset_ne _ _ (by omega)])) (by rfl) (by rfl) (by exact Nat.le_of_ble_eq_true rfl) ?_
    refine e_heap (hset_hset h m _ _) ?_
    refine e_aload_n (pc := 44) dX11_text_44 rfl rfl ?_
    refine n_iconst (pc := 45) 1 dX11_text_45 (by decide) ?_
    refine e_put (pc := 46) pl_X11_109 dX11_text_46 (by repeat (first | assumption | exact hset_eq _ _ _ | (apply Lay.hd; assumption) | rw [hset_ne _ _ (by omega)])) (by rfl) (by rfl) (by exact Nat.le_of_ble_eq_true rfl) ?_
    refine e_heap (hset_hset h m _ _) ?_
    refine e_aload_n (pc := 49) dX11_text_49 rfl rfl ?_
    refine n_iconst (pc := 50) 2 dX11_text_50 (by decide) ?_
    refine e_put (pc := 51) pl_X11_112 dX11_text_51 (by repeat (first | assumption | exact hset_eq _ _ _ | (apply Lay.hd; assumption) | rw [hset_ne _ _ (by omega)])) (by rfl) (by rfl) (by exact Nat.le_of_ble_eq_true rfl) ?_
    refine e_heap (hset_hset h m _ _) ?_
    have hM1 : MH (hset h m (oM m 2 1 2 (s.1, s.2.1, 0, s.2.2.2.1, s.2.2.2.2.1, s.2.2.2.2.2.1, 0, s.2.2.2.2.2.2.2.1, s.2.2.2.2.2.2.2.2.1, s.2.2.2.2.2.2.2.2.2.1, nI 0, s.2.2.2.2.2.2.2.2.2.2.2))) m 2 1 2 (s.1, s.2.1, 0, s.2.2.2.1, s.2.2.2.2.1, s.2.2.2.2.2.1, 0, s.2.2.2.2.2.2.2.1, s.2.2.2.2.2.2.2.2.1, s.2.2.2.2.2.2.2.2.2.1, nI 0, s.2.2.2.2.2.2.2.2.2.2.2) := hset_eq _ _ _
    show VI MX11_text sz _ (hset h m (oM m 2 1 2 (s.1, s.2.1, 0, s.2.2.2.1, s.2.2.2.2.1, s.2.2.2.2.2.1, 0, s.2.2.2.2.2.2.2.1, s.2.2.2.2.2.2.2.2.1, s.2.2.2.2.2.2.2.2.2.1, nI 0, s.2.2.2.2.2.2.2.2.2.2.2))) 54 _ _
    have f1 : FmC m h (hset h m (oM m 2 1 2 (s.1, s.2.1, 0, s.2.2.2.1, s.2.2.2.2.1, s.2.2.2.2.2.1, 0, s.2.2.2.2.2.2.2.1, s.2.2.2.2.2.2.2.2.1, s.2.2.2.2.2.2.2.2.2.1, nI 0, s.2.2.2.2.2.2.2.2.2.2.2))) := fun b hb => hset_ne _ _ (by omega)
    have r1 : MRo (hset h m (oM m 2 1 2 (s.1, s.2.1, 0, s.2.2.2.1, s.2.2.2.2.1, s.2.2.2.2.2.1, 0, s.2.2.2.2.2.2.2.1, s.2.2.2.2.2.2.2.2.1, s.2.2.2.2.2.2.2.2.2.1, nI 0, s.2.2.2.2.2.2.2.2.2.2.2))) m := hR.hd
    generalize hset h m (oM m 2 1 2 (s.1, s.2.1, 0, s.2.2.2.1, s.2.2.2.2.1, s.2.2.2.2.2.1, 0, s.2.2.2.2.2.2.2.1, s.2.2.2.2.2.2.2.2.1, s.2.2.2.2.2.2.2.2.2.1, nI 0, s.2.2.2.2.2.2.2.2.2.2.2)) = h1 at hM1 f1 r1 ⊢
    obtain ⟨g3, r3⟩ := r1.row (k := 3) (isR_d _ (by decide))
    refine n_iconst (pc := 54) 0 dX11_text_54 (by decide) ?_
    refine e_istore_n (pc := 55) dX11_text_55 rfl (by decide) ?_
    refine e_heap (hset_self r3).symm ?_
    refine l_tx_z hM1 (fun g5 hg5 => ?_) 125 0 rfl (Nat.zero_le _) g3 (fun t ht => absurd ht (Nat.not_lt_zero t))
    have hM2 : MH (hset h1 (m + 3) (aI 125 g5)) m 2 1 2 (s.1, s.2.1, 0, s.2.2.2.1, s.2.2.2.2.1, s.2.2.2.2.2.1, 0, s.2.2.2.2.2.2.2.1, s.2.2.2.2.2.2.2.2.1, s.2.2.2.2.2.2.2.2.2.1, nI 0, s.2.2.2.2.2.2.2.2.2.2.2) := (hset_ne _ _ (by omega)).trans hM1
    have f2 : FmC m h (hset h1 (m + 3) (aI 125 g5)) := f1.set (by omega)
    have r2 : MRo (hset h1 (m + 3) (aI 125 g5)) m := r1.set (isR_d 3 (by decide)) rfl
    have c2 : hset h1 (m + 3) (aI 125 g5) (m + 3) = some (aI 125 g5) := hset_eq _ _ _
    generalize hset h1 (m + 3) (aI 125 g5) = h2 at hM2 f2 r2 c2 ⊢
    have hT2 : TpM h2 m f len := hT.keep (f2 _ (by omega))
    refine e_aload_n (pc := 75) dX11_text_75 rfl rfl ?_
    refine n_Vv (pc := 76) (c_X11_next0 (e := 0) hM2 hT2 hs.2.1 rfl (Nat.zero_le _)) bX11_next0 q_i_X11_next0 q_s_X11_next0 q_m_X11_216 dX11_text_76 rfl rfl (by repeat (first | assumption | exact hset_eq _ _ _ | (apply Lay.hd; assumption) | rw [hset_ne _ _ (by omega)])) rfl rfl (by exact Nat.le_of_ble_eq_true rfl) ⟨by decide, by decide⟩ ⟨rfl, rfl, Nat.zero_le _, Nat.zero_le _⟩ (fun h3 hp => ?_)
    obtain ⟨v, rfl, hv⟩ := hp
    refine n_iconst (pc := 79) 1 dX11_text_79 (by decide) ?_
    refine e_istore_n (pc := 80) dX11_text_80 rfl (by decide) ?_
    refine n_iconst (pc := 81) 0 dX11_text_81 (by decide) ?_
    refine e_istore_n (pc := 82) dX11_text_82 rfl (by decide) ?_
    refine (V.post ?_ (l_tx (hh := h) (sz := sz) (s0 := s) hX hx ha hs hT 42 0 rfl (by decide) 0 (2, 1, fun _ => 0) (2, 1, fun _ => 0) false (fun _ => ⟨rfl, rfl⟩) _ ?_))
    · intro rr h' z qq
      obtain ⟨k1, z', k2, x2, ft2, fp2, k3, k4, k5⟩ := qq
      refine ⟨k1, z', k2, x2, ft2, fp2, qT (ok6 ha) ?_, k4, k5⟩
      rw [cl_nI (by omega)]
      have e : prs f len 42 0 (2, 1, fun _ => 0) (2, 1, fun _ => 0) false 0 = txt f len := rfl
      rw [e] at k3
      cases ht : txt f len with
      | inl q => rw [ht] at k3; exact k3
      | inr W => rw [ht] at k3; exact k3
    · exact ⟨_, ⟨hset_eq _ _ _, ⟨g5, (hset_ne _ _ (by omega)).trans c2, hg5⟩, r2.hd⟩, ⟨Or.inl rfl, by decide, by decide, by decide, fun k => ⟨by show 0 < 2; decide, fun _ => rfl⟩⟩, (fun q => by cases q), ⟨hs.2.1, Nat.zero_le _, rfl, rfl, rfl, hv⟩, ⟨rfl, rfl, rfl, rfl⟩, rfl, fun b hb => (hset_ne _ _ (by omega)).trans (f2 b hb)⟩
  · refine e_aload_n (pc := 12) dX11_text_12 rfl rfl ?_
    refine n_iconst (pc := 13) 0 dX11_text_13 (by decide) ?_
    refine e_put (pc := 14) pl_X11_157 dX11_text_14 (by repeat (first | assumption | exact hset_eq _ _ _ | (apply Lay.hd; assumption) | rw [hset_ne _ _ (by omega)])) (by rfl) (by rfl) (by exact Nat.le_of_ble_eq_true rfl) ?_
    refine e_heap (hset_hset h m _ _) ?_
    refine e_aload_n (pc := 17) dX11_text_17 rfl rfl ?_
    refine n_iconst (pc := 18) 0 dX11_text_18 (by decide) ?_
    refine e_put (pc := 19) pl_X11_251 dX11_text_19 (by repeat (first | assumption | exact hset_eq _ _ _ | (apply Lay.hd; assumption) | rw [hset_ne _ _ (by omega)])) (by rfl) (by rfl) (by exact Nat.le_of_ble_eq_true rfl) ?_
    refine e_heap (hset_hset h m _ _) ?_
    refine e_aload_n (pc := 22) dX11_text_22 rfl rfl ?_
    refine e_iconst (pc := 23) (v := -1) dX11_text_23 (by decide) ?_
    refine e_put (pc := 24) pl_X11_37 dX11_text_24 (by repeat (first | assumption | exact hset_eq _ _ _ | (apply Lay.hd; assumption) | rw [hset_ne _ _ (by omega)])) (by rfl) (by rfl) (by exact Nat.le_of_ble_eq_true rfl) ?_
    refine e_heap (hset_hset h m _ _) ?_
    refine e_iconst (pc := 27) (v := -1) dX11_text_27 (by decide) ?_
    have f2 : FmC m h (hset h m (oM m p n q (s.1, 0, s.2.2.1, s.2.2.2.1, s.2.2.2.2.1, s.2.2.2.2.2.1, 0, s.2.2.2.2.2.2.2.1, nI 0, -1, s.2.2.2.2.2.2.2.2.2.2))) := fun b hb => by
      by_cases eb : b = m
      · omega
      · exact hset_ne _ _ eb
    refine n_iret (pc := 28) dX11_text_28 rfl ⟨x, nI 0, -1, qF c ⟨rfl, rfl, rfl, rfl⟩, ?_, f2.er⟩
    exact hX.len0 (s := (s.1, 0, s.2.2.1, s.2.2.2.1, s.2.2.2.2.1, s.2.2.2.2.2.1, 0, s.2.2.2.2.2.2.2.1, nI 0, -1, s.2.2.2.2.2.2.2.2.2.2)) (hset_eq _ _ _) ⟨hs.1, rfl, rfl, rfl, hs.2.2.2.2⟩ hR.hd f2
end TXX
