/-! ===== Reader: a text read; the tape ===== -/
theorem nx_and (a b : Nat) : nI a &&& nI b = nI (a &&& b) := by
  apply Int32.toBitVec_inj.1
  show BitVec.ofNat 32 a &&& BitVec.ofNat 32 b = BitVec.ofNat 32 (a &&& b)
  apply BitVec.eq_of_getLsbD_eq
  intro i hi
  simp [hi]
theorem nx_mod255 (k : Nat) : nI k &&& 255 = nI (k % 256) := by
  show nI k &&& nI 255 = _
  rw [nx_and, show (255 : Nat) = 2 ^ 8 - 1 from rfl, Nat.and_two_pow_sub_one_eq_mod]
theorem nx_255 (x : Int32) : ∃ k, k < 256 ∧ x &&& 255 = nI k := by
  have e : x = nI x.toBitVec.toNat := by
    apply Int32.toBitVec_inj.1
    show x.toBitVec = BitVec.ofNat 32 x.toBitVec.toNat
    simp
  refine ⟨x.toBitVec.toNat % 256, Nat.mod_lt _ (by omega), ?_⟩
  rw [← nx_mod255, ← e]
/-- byte k of a number, the highest first -/
def byA (a : Int32) (k : Nat) : Int32 := (a.toUInt32 >>> ((nI (24 - 8 * k)).toUInt32 &&& Int32.toUInt32 31)).toInt32 &&& 255
def byN (a : Int32) (k : Nat) : Nat := (byA a k).toNatClampNeg
theorem byA_ok (a : Int32) (k : Nat) : byA a k = nI (byN a k) ∧ byN a k < 256 := by
  obtain ⟨n, h1, h2⟩ := nx_255 ((a.toUInt32 >>> ((nI (24 - 8 * k)).toUInt32 &&& Int32.toUInt32 31)).toInt32)
  have h3 : byA a k = nI n := h2
  unfold byN
  rw [h3, nI_clamp (by omega)]
  exact ⟨rfl, h1⟩
section R7
variable {h : AH} {R len : Nat} {f : Nat → Nat} {W F : Wd}
/-- the object's row, with what may be asked of it -/
def RHx (h : AH) (R len : Nat) (ft fp : Int32) : Prop := ∃ pl kd st v sm hf, RdH h R (nI len) pl kd st v ft fp sm hf
/-- the reader between calls -/
def RdS (h : AH) (R len : Nat) (f : Nat → Nat) (ft fp : Int32) : Prop := RHx h R len ft fp ∧ Tap h R f len ∧ ∃ W F, RWk h R W F
theorem RdS.kp {h2 : AH} {ft fp : Int32} (q : RdS h R len f ft fp) (e : ∀ a, R ≤ a → a < R + 14 → h2 a = h a) : RdS h2 R len f ft fp := by
  obtain ⟨⟨pl, kd, st, v, sm, hf, c⟩, b, W, F, w⟩ := q
  exact ⟨⟨pl, kd, st, v, sm, hf, (e _ (by omega) (by omega)).trans c⟩, b.keep (e _ (by omega) (by omega)), W, F, w.kp (fun a x y => e a (by omega) y)⟩
/-- what a text leaves -/
def RdRes (r : (Nat × Nat) ⊕ Wd) (h' : AH) (R : Nat) (f : Nat → Nat) (z : Int32) : Prop := match r with
  | .inl x => z = 0 ∧ RHx h' R 0 (nI x.1) (nI x.2) ∧ Tap h' R f 0 ∧ ∃ W' F', RWk h' R W' F'
  | .inr W' => z = 1 ∧ RHx h' R 0 (nI 0) (-1) ∧ Tap h' R f 0 ∧ ∃ F', RWk h' R W' F'
section RR
variable {sz : Nat} {hh : AH}
theorem prs_s (m s : Nat) (W F : Wd) (hf : Bool) (i : Nat) : prs f len (m + 1) s W F hf i =
    if tK f len i = 0 then .inr W
    else if tK f len i < 4 ∨ ¬ (tK f len i = 4 ↔ s = 0) ∨ (tK f len i = 6 ∧ hf = false) then .inl (1, tS f len i)
    else if 40 ≤ s then .inl (3, tS f len i)
    else match sF f len i W (tK f len i) with
      | some x => .inl x
      | none => if tC f len (nt f len i (scn W (tK f len i) + 1)) = 3 then prs f len m (s + 1) (sW W F (tK f len i) (vl f len i)) (if tK f len i = 5 then polyW W.1 W.2.1 (vl f len i) else F) (if tK f len i = 5 then true else hf) (nt f len i (scn W (tK f len i) + 2)) else .inl (1, tS f len (nt f len i (scn W (tK f len i) + 1))) := rfl
theorem l_re_x {x : Nat × Nat} (hx : 0 < x.1 ∧ x.1 < 4) {h1 : AH} (hF : Flt h1 R len f x) (hW : ∃ W' F', RWk h1 R W' F') (hE : Er R (R + 14) hh h1) {a : Option Value} : VI MX4_read sz (fun z h' => RdRes (.inl x) h' R f z ∧ Er R (R + 14) hh h') h1 71 [some (.ref R), a] [] := by
  obtain ⟨b, pl, kd, st, v, sm, hf, c⟩ := hF
  obtain ⟨W', F', w⟩ := hW
  refine e_aload_n (pc := 71) dX4_read_71 rfl rfl ?_
  refine n_iconst (pc := 72) 0 dX4_read_72 (by decide) ?_
  refine e_put (pc := 73) pl_X4_15 dX4_read_73 (by repeat (first | assumption | exact hset_eq _ _ _ | (apply WAt.hd; assumption) | rw [hset_ne _ _ (by omega)])) (by rfl) (by rfl) (by exact Nat.le_of_ble_eq_true rfl) ?_
  refine e_aload_n (pc := 76) dX4_read_76 rfl rfl ?_
  refine e_get (pc := 77) fl_X4_31 dX4_read_77 (by repeat (first | assumption | exact hset_eq _ _ _ | (apply WAt.hd; assumption) | rw [hset_ne _ _ (by omega)])) (by rfl) ?_
  refine n_if_ne (pc := 80) (tgt := 87) dX4_read_80 (by decide) (by omega) (fun _ => ?_) (fun q => absurd q (by omega))
  refine n_iconst (pc := 87) 0 dX4_read_87 (by decide) ?_
  exact n_zret (pc := 88) dX4_read_88 rfl rfl ⟨⟨rfl, ⟨_, _, _, _, _, _, hset_eq _ _ _⟩, ⟨Nat.zero_le _, (b.keep (hset_ne _ _ (by omega))).2.imp (fun g q => ⟨q.1, fun t ht => absurd ht (Nat.not_lt_zero t)⟩)⟩, W', F', w.kp (fun a x y => hset_ne _ _ (by omega))⟩, hE.set (by omega)⟩
theorem l_re (hl : len ≤ 600) :
    ∀ (m s : Nat), s + m = 42 → s ≤ 40 → ∀ (τ i : Nat) (W F : Wd) (hfb : Bool), τ ≤ s → (hfb = true → ∃ cs, F = polyW W.1 W.2.1 cs) → (s = 0 → hfb = false) → ∀ h1, Tk h1 R len f i (nI 0) (-1) (nI s) (bI hfb) → RWk h1 R W F → Er R (R + 14) hh h1 →
    VI MX4_read sz (fun z h' => RdRes (prs f len m s W F hfb i) h' R f z ∧ Er R (R + 14) hh h') h1 40 [some (.ref R), some (.int (nI τ))] [] := by
  intro m
  induction m with
  | zero => intro s e1 e2; omega
  | succ m ih =>
    intro s e1 e2 τ i W F hfb e3 hF h0 h1 hT hW hE
    obtain ⟨ta, tb, v, c, cd⟩ := id hT
    rw [prs_s]
    have c5 := tC_5 (f := f) (len := len) i
    refine e_iload_n (pc := 40) dX4_read_40 rfl rfl ?_
    refine n_sipush (pc := 41) 600 dX4_read_41 (by decide) ?_
    refine n_icmp_gt (pc := 44) (tgt := 71) dX4_read_44 (by decide) (by omega) (by omega) (fun c => absurd c (by omega)) (fun hb_ => ?_)
    refine e_aload_n (pc := 47) dX4_read_47 rfl rfl ?_
    refine e_get (pc := 48) fl_X4_22 dX4_read_48 (by repeat (first | assumption | exact hset_eq _ _ _ | (apply WAt.hd; assumption) | rw [hset_ne _ _ (by omega)])) (by rfl) ?_
    by_cases k0 : tC f len i = 0
    · refine n_if_eq (pc := 51) (tgt := 71) dX4_read_51 (by decide) (by omega) (fun _ => ?_) (fun q => absurd k0 q)
      rw [if_pos ((tK_0 i).mpr k0)]
      refine e_aload_n (pc := 71) dX4_read_71 rfl rfl ?_
      refine n_iconst (pc := 72) 0 dX4_read_72 (by decide) ?_
      refine e_put (pc := 73) pl_X4_15 dX4_read_73 (by repeat (first | assumption | exact hset_eq _ _ _ | (apply WAt.hd; assumption) | rw [hset_ne _ _ (by omega)])) (by rfl) (by rfl) (by exact Nat.le_of_ble_eq_true rfl) ?_
      refine e_aload_n (pc := 76) dX4_read_76 rfl rfl ?_
      refine e_get (pc := 77) fl_X4_31 dX4_read_77 (by repeat (first | assumption | exact hset_eq _ _ _ | (apply WAt.hd; assumption) | rw [hset_ne _ _ (by omega)])) (by rfl) ?_
      refine n_if_ne (pc := 80) (tgt := 87) dX4_read_80 (by decide) (by omega) (fun q => absurd rfl q) (fun _ => ?_)
      refine n_iconst (pc := 83) 1 dX4_read_83 (by decide) ?_
      refine e_goto (pc := 84) (tgt := 88) dX4_read_84 (by decide) ?_
      exact n_zret (pc := 88) dX4_read_88 rfl rfl ⟨⟨rfl, ⟨_, _, _, _, _, _, hset_eq _ _ _⟩, ⟨Nat.zero_le _, (tb.keep (hset_ne _ _ (by omega))).2.imp (fun g q => ⟨q.1, fun t ht => absurd ht (Nat.not_lt_zero t)⟩)⟩, F, hW.kp (fun a x y => hset_ne _ _ (by omega))⟩, hE.set (by omega)⟩
    · refine n_if_eq (pc := 51) (tgt := 71) dX4_read_51 (by decide) (by omega) (fun q => absurd q k0) (fun _ => ?_)
      rw [if_neg (fun q => k0 ((tK_0 i).mp q))]
      refine e_aload_n (pc := 54) dX4_read_54 rfl rfl ?_
      refine e_get (pc := 55) fl_X4_31 dX4_read_55 (by repeat (first | assumption | exact hset_eq _ _ _ | (apply WAt.hd; assumption) | rw [hset_ne _ _ (by omega)])) (by rfl) ?_
      refine n_if_ne (pc := 58) (tgt := 71) dX4_read_58 (by decide) (by omega) (fun q => absurd rfl q) (fun _ => ?_)
      refine e_aload_n (pc := 61) dX4_read_61 rfl rfl ?_
      refine n_Vv (pc := 62) (c_X4_statement hT hW hF e2) bX4_statement q_i_X4_statement q_s_X4_statement q_m_X4_73 dX4_read_62 rfl rfl (by repeat (first | assumption | exact hset_eq _ _ _ | (apply WAt.hd; assumption) | rw [hset_ne _ _ (by omega)])) rfl rfl (by exact Nat.le_of_ble_eq_true rfl) ⟨by decide, by decide⟩ ⟨rfl, rfl, Nat.zero_le _, Nat.zero_le _⟩ (fun h2 hp => ?_)
      obtain ⟨hp, he⟩ := hp
      rcases hp with ⟨x, p1, p2, p3, p4, p5⟩ | ⟨p1, p2, p3, p4, p5, p6⟩
      · have hr : (if tK f len i < 4 ∨ ¬ (tK f len i = 4 ↔ s = 0) ∨ (tK f len i = 6 ∧ hfb = false) then (.inl (1, tS f len i) : (Nat × Nat) ⊕ Wd)
            else if 40 ≤ s then .inl (3, tS f len i)
            else match sF f len i W (tK f len i) with
              | some x => .inl x
              | none => if tC f len (nt f len i (scn W (tK f len i) + 1)) = 3 then prs f len m (s + 1) (sW W F (tK f len i) (vl f len i)) (if tK f len i = 5 then polyW W.1 W.2.1 (vl f len i) else F) (if tK f len i = 5 then true else hfb) (nt f len i (scn W (tK f len i) + 2)) else .inl (1, tS f len (nt f len i (scn W (tK f len i) + 1)))) = .inl x := by
          rcases p5 with ⟨q1, rfl⟩ | ⟨q1, q2, rfl⟩ | ⟨q1, q2, q3⟩ | ⟨q1, q2, q3, q4, rfl⟩
          · exact if_pos q1
          · exact (if_neg q1).trans (if_pos q2)
          · refine (if_neg q1).trans ((if_neg (by omega)).trans ?_)
            rw [q3]
          · refine (if_neg q1).trans ((if_neg (by omega)).trans ?_)
            rw [q3]
            exact if_neg q4
        rw [hr]
        obtain ⟨b, pl, kd, st, v2, sm, hf, c2⟩ := id p1
        refine n_inc (pc := 65) dX4_read_65 rfl (by decide) ?_
        refine e_goto (pc := 68) (tgt := 40) dX4_read_68 (by decide) ?_
        refine e_iload_n (pc := 40) dX4_read_40 rfl rfl ?_
        refine n_sipush (pc := 41) 600 dX4_read_41 (by decide) ?_
        refine n_icmp_gt (pc := 44) (tgt := 71) dX4_read_44 (by decide) (by omega) (by omega) (fun c => absurd c (by omega)) (fun hb_ => ?_)
        refine e_aload_n (pc := 47) dX4_read_47 rfl rfl ?_
        refine e_get (pc := 48) fl_X4_22 dX4_read_48 (by repeat (first | assumption | exact hset_eq _ _ _ | (apply WAt.hd; assumption) | rw [hset_ne _ _ (by omega)])) (by rfl) ?_
        refine e_if_eq (pc := 51) (tgt := 71) dX4_read_51 (by decide) (fun _ => ?_) (fun _ => ?_)
        · exact l_re_x ⟨p3, p4⟩ p1 p2 (hE.tr he)
        · refine e_aload_n (pc := 54) dX4_read_54 rfl rfl ?_
          refine e_get (pc := 55) fl_X4_31 dX4_read_55 (by repeat (first | assumption | exact hset_eq _ _ _ | (apply WAt.hd; assumption) | rw [hset_ne _ _ (by omega)])) (by rfl) ?_
          refine n_if_ne (pc := 58) (tgt := 71) dX4_read_58 (by decide) (by omega) (fun _ => ?_) (fun q => absurd q (by omega))
          exact l_re_x ⟨p3, p4⟩ p1 p2 (hE.tr he)
      · have hr : (if tK f len i < 4 ∨ ¬ (tK f len i = 4 ↔ s = 0) ∨ (tK f len i = 6 ∧ hfb = false) then (.inl (1, tS f len i) : (Nat × Nat) ⊕ Wd)
            else if 40 ≤ s then .inl (3, tS f len i)
            else match sF f len i W (tK f len i) with
              | some x => .inl x
              | none => if tC f len (nt f len i (scn W (tK f len i) + 1)) = 3 then prs f len m (s + 1) (sW W F (tK f len i) (vl f len i)) (if tK f len i = 5 then polyW W.1 W.2.1 (vl f len i) else F) (if tK f len i = 5 then true else hfb) (nt f len i (scn W (tK f len i) + 2)) else .inl (1, tS f len (nt f len i (scn W (tK f len i) + 1)))) = prs f len m (s + 1) (sW W F (tK f len i) (vl f len i)) (if tK f len i = 5 then polyW W.1 W.2.1 (vl f len i) else F) (if tK f len i = 5 then true else hfb) (nt f len i (scn W (tK f len i) + 2)) := by
          refine (if_neg p1).trans ((if_neg (by omega)).trans ?_)
          rw [p3]
          exact if_pos p4
        rw [hr]
        refine n_inc (pc := 65) dX4_read_65 rfl (by decide) ?_
        refine e_goto (pc := 68) (tgt := 40) dX4_read_68 (by decide) ?_
        refine ih (s + 1) (by omega) (by omega) (τ + 1) _ _ _ _ (by omega) ?_ (fun q => by omega) h2 p5 p6 (hE.tr he)
        intro q
        have kb : 4 ≤ tK f len i := Nat.not_lt.mp (fun q => p1 (Or.inl q))
        by_cases k5 : tK f len i = 5
        · rw [if_pos k5]
          refine ⟨vl f len i, ?_⟩
          unfold sW
          rw [if_neg (by omega), if_pos k5]
          rfl
        · rw [if_neg k5] at q ⊢
          obtain ⟨cs, hcs⟩ := hF q
          refine ⟨cs, ?_⟩
          have k4 : tK f len i ≠ 4 := fun z => by
            have s0 : s = 0 := Decidable.byContradiction (fun y => p1 (Or.inr (Or.inl (fun w => y (w.mp z)))))
            rw [h0 s0] at q
            exact Bool.noConfusion q
          unfold sW
          rw [if_neg k4, if_neg k5]
          by_cases k6 : tK f len i = 6
          · rw [if_pos k6, hcs]; rfl
          · rw [if_neg k6]
            by_cases k7 : tK f len i = 7
            · rw [if_pos k7]; exact hcs
            · rw [if_neg k7]; exact hcs
end RR
theorem txt_0 (len : Nat) : txt f len = prs f len 42 0 (2, 1, fun _ => 0) (2, 1, fun _ => 0) false 0 := rfl
theorem w0_ok : Wok (2, 1, fun _ => 0) := ⟨Or.inl rfl, by decide, by decide, by decide, fun k => ⟨by show 0 < 2; decide, fun _ => rfl⟩⟩
theorem prs_F (len : Nat) : ∀ (m s : Nat) (W F F2 : Wd) (i : Nat), prs f len m s W F false i = prs f len m s W F2 false i := by
  intro m
  induction m with
  | zero => intro s W F F2 i; rfl
  | succ m ih =>
    intro s W F F2 i
    rw [prs_s, prs_s]
    by_cases c0 : tK f len i = 0
    · rw [if_pos c0, if_pos c0]
    rw [if_neg c0, if_neg c0]
    by_cases c1 : tK f len i < 4 ∨ ¬ (tK f len i = 4 ↔ s = 0) ∨ (tK f len i = 6 ∧ false = false)
    · rw [if_pos c1, if_pos c1]
    rw [if_neg c1, if_neg c1]
    by_cases c2 : 40 ≤ s
    · rw [if_pos c2, if_pos c2]
    rw [if_neg c2, if_neg c2]
    have k6 : tK f len i ≠ 6 := fun q => c1 (Or.inr (Or.inr ⟨q, rfl⟩))
    have e : sW W F (tK f len i) (vl f len i) = sW W F2 (tK f len i) (vl f len i) := by
      unfold sW
      by_cases k4 : tK f len i = 4
      · rw [if_pos k4, if_pos k4]
      rw [if_neg k4, if_neg k4]
      by_cases k5 : tK f len i = 5
      · rw [if_pos k5, if_pos k5]
      rw [if_neg k5, if_neg k5, if_neg k6, if_neg k6]
    rw [e]
    by_cases k5 : tK f len i = 5
    · rw [if_pos k5, if_pos k5, if_pos k5]
    · rw [if_neg k5, if_neg k5, if_neg k5, ih (s + 1) _ F F2]
theorem c_X4_read {ft fp : Int32} (hS : RdS h R len f ft fp) : CI yX4_read MX4_read [.ref R] h (fun z h' => RdRes (txt f len) h' R f z ∧ Er R (R + 14) h h') := by
  obtain ⟨⟨pl, kd, st, v, sm, hf, c⟩, b, W, F, w⟩ := hS
  obtain ⟨l6, -⟩ := id b
  obtain ⟨w1, w2, -⟩ := id w
  have hcb : canBe 2 1 := ⟨Or.inl rfl, by decide, by decide, by decide⟩
  refine CI.ofV (by decide) rfl rfl (by simp [Value.category]) (by exact Nat.le_of_ble_eq_true rfl) (fun sz => ?_)
  refine e_aload_n (pc := 0) dX4_read_0 rfl rfl ?_
  refine n_iconst (pc := 1) 0 dX4_read_1 (by decide) ?_
  refine e_put (pc := 2) pl_X4_31 dX4_read_2 (by repeat (first | assumption | exact hset_eq _ _ _ | (apply WAt.hd; assumption) | rw [hset_ne _ _ (by omega)])) (by rfl) (by rfl) (by exact Nat.le_of_ble_eq_true rfl) ?_
  refine e_aload_n (pc := 5) dX4_read_5 rfl rfl ?_
  refine e_iconst (pc := 6) (v := -1) dX4_read_6 (by decide) ?_
  refine e_put (pc := 7) pl_X4_34 dX4_read_7 (by repeat (first | assumption | exact hset_eq _ _ _ | (apply WAt.hd; assumption) | rw [hset_ne _ _ (by omega)])) (by rfl) (by rfl) (by exact Nat.le_of_ble_eq_true rfl) ?_
  refine e_aload_n (pc := 10) dX4_read_10 rfl rfl ?_
  refine n_iconst (pc := 11) 0 dX4_read_11 (by decide) ?_
  refine e_put (pc := 12) pl_X4_19 dX4_read_12 (by repeat (first | assumption | exact hset_eq _ _ _ | (apply WAt.hd; assumption) | rw [hset_ne _ _ (by omega)])) (by rfl) (by rfl) (by exact Nat.le_of_ble_eq_true rfl) ?_
  refine e_aload_n (pc := 15) dX4_read_15 rfl rfl ?_
  refine n_iconst (pc := 16) 0 dX4_read_16 (by decide) ?_
  refine e_put (pc := 17) pl_X4_37 dX4_read_17 (by repeat (first | assumption | exact hset_eq _ _ _ | (apply WAt.hd; assumption) | rw [hset_ne _ _ (by omega)])) (by rfl) (by rfl) (by exact Nat.le_of_ble_eq_true rfl) ?_
  refine e_aload_n (pc := 20) dX4_read_20 rfl rfl ?_
  refine n_iconst (pc := 21) 0 dX4_read_21 (by decide) ?_
  refine e_put (pc := 22) pl_X4_40 dX4_read_22 (by repeat (first | assumption | exact hset_eq _ _ _ | (apply WAt.hd; assumption) | rw [hset_ne _ _ (by omega)])) (by rfl) (by rfl) (by exact Nat.le_of_ble_eq_true rfl) ?_
  refine e_aload_n (pc := 25) dX4_read_25 rfl rfl ?_
  refine e_get (pc := 26) fl_X4_47 dX4_read_26 (by repeat (first | assumption | exact hset_eq _ _ _ | (apply WAt.hd; assumption) | rw [hset_ne _ _ (by omega)])) (by rfl) ?_
  refine n_iconst (pc := 29) 2 dX4_read_29 (by decide) ?_
  refine n_iconst (pc := 30) 1 dX4_read_30 (by decide) ?_
  refine n_Vv (pc := 31) (c_X9_clear (((((w1.hs (by omega)).hs (by omega)).hs (by omega)).hs (by omega)).hs (by omega)) w2 hcb) bX9_clear q_i_X9_clear q_s_X9_clear q_m_X4_66 dX4_read_31 rfl rfl (by repeat (first | assumption | exact hset_eq _ _ _ | (apply WAt.hd; assumption) | rw [hset_ne _ _ (by omega)])) rfl rfl (by exact Nat.le_of_ble_eq_true rfl) ⟨by decide, by decide⟩ ⟨rfl, rfl, Nat.zero_le _, Nat.zero_le _⟩ (fun h2 hp => ?_)
  obtain ⟨p1, p2⟩ := hp
  have c2 : RdH h2 R (nI len) (nI 0) kd st v (nI 0) (-1) (nI 0) (nI 0) := (p2 _ (by omega) (by omega) (by omega)).trans (hset_eq _ _ _)
  have b2 : Tap h2 R f len := b.keep ((p2 _ (by omega) (by omega) (by omega)).trans (by rw [hset_ne _ _ (by omega), hset_ne _ _ (by omega), hset_ne _ _ (by omega), hset_ne _ _ (by omega), hset_ne _ _ (by omega)]))
  have W2 : RWk h2 R (2, 1, fun _ => 0) F := RWk.w (w.kp (fun a x y => by rw [hset_ne _ _ (by omega), hset_ne _ _ (by omega), hset_ne _ _ (by omega), hset_ne _ _ (by omega), hset_ne _ _ (by omega)])) p2 p1 w0_ok
  have E2 : Er R (R + 14) h h2 := (((((((Er.rf R (R + 14) h).set (by omega)).set (by omega)).set (by omega)).set (by omega)).set (by omega))).tr p2.rr
  refine e_aload_n (pc := 34) dX4_read_34 rfl rfl ?_
  refine n_Vv (pc := 35) (c_X4_step (i := 0) b2 (Nat.zero_le _) c2) bX4_step q_i_X4_step q_s_X4_step q_m_X4_70 dX4_read_35 rfl rfl (by repeat (first | assumption | exact hset_eq _ _ _ | (apply WAt.hd; assumption) | rw [hset_ne _ _ (by omega)])) rfl rfl (by exact Nat.le_of_ble_eq_true rfl) ⟨by decide, by decide⟩ ⟨rfl, rfl, Nat.zero_le _, Nat.zero_le _⟩ (fun h3 hp => ?_)
  obtain ⟨q1, q2⟩ := hp
  refine n_iconst (pc := 38) 0 dX4_read_38 (by decide) ?_
  refine e_istore_n (pc := 39) dX4_read_39 rfl (by decide) ?_
  have q := l_re (sz := sz) (hh := h) l6 42 0 rfl (Nat.zero_le _) 0 0 (2, 1, fun _ => 0) F false (Nat.le_refl 0) (fun q => Bool.noConfusion q) (fun _ => rfl) h3 ⟨Nat.zero_le _, b2.keep (q2 _ (by omega)), q1⟩ (W2.er q2) (E2.tr q2.rr)
  rw [txt_0, prs_F len 42 0 (2, 1, fun _ => 0) (2, 1, fun _ => 0) F 0]
  exact q
theorem c_X4_hasRoom {ft fp : Int32} (hS : RdS h R len f ft fp) : CP yX4_hasRoom MX4_hasRoom [.ref R] h (bI (decide (len + 20 ≤ 600))) := by
  obtain ⟨⟨pl, kd, st, v, sm, hf, c⟩, ⟨l6, -⟩, -⟩ := hS
  refine CI.ofV (by decide) rfl rfl (by simp [Value.category]) (by exact Nat.le_of_ble_eq_true rfl) (fun sz => ?_)
  refine e_aload_n (pc := 0) dX4_hasRoom_0 rfl rfl ?_
  refine e_get (pc := 1) fl_X4_15 dX4_hasRoom_1 (by repeat (first | assumption | exact hset_eq _ _ _ | (apply WAt.hd; assumption) | rw [hset_ne _ _ (by omega)])) (by rfl) ?_
  refine n_bipush (pc := 4) 20 dX4_hasRoom_4 (by decide) ?_
  refine n_iadd (pc := 6) dX4_hasRoom_6 ?_
  refine n_sipush (pc := 7) 600 dX4_hasRoom_7 (by decide) ?_
  refine n_icmp_gt (pc := 10) (tgt := 17) dX4_hasRoom_10 (by decide) (by omega) (by omega) (fun q => ?_) (fun q => ?_)
  · refine n_iconst (pc := 17) 0 dX4_hasRoom_17 (by decide) ?_
    rw [decide_eq_false (by omega)]
    exact n_zret (pc := 18) dX4_hasRoom_18 rfl rfl ⟨rfl, rfl⟩
  · refine n_iconst (pc := 13) 1 dX4_hasRoom_13 (by decide) ?_
    refine e_goto (pc := 14) (tgt := 18) dX4_hasRoom_14 (by decide) ?_
    rw [decide_eq_true (by omega)]
    exact n_zret (pc := 18) dX4_hasRoom_18 rfl rfl ⟨rfl, rfl⟩
theorem c_X4_length {ft fp : Int32} (hS : RdS h R len f ft fp) : CP yX4_length MX4_length [.ref R] h (nI len) := by
  obtain ⟨⟨pl, kd, st, v, sm, hf, c⟩, -⟩ := hS
  refine CI.ofV (by decide) rfl rfl (by simp [Value.category]) (by exact Nat.le_of_ble_eq_true rfl) (fun sz => ?_)
  refine e_aload_n (pc := 0) dX4_length_0 rfl rfl ?_
  refine e_get (pc := 1) fl_X4_15 dX4_length_1 (by repeat (first | assumption | exact hset_eq _ _ _ | (apply WAt.hd; assumption) | rw [hset_ne _ _ (by omega)])) (by rfl) ?_
  exact n_iret (pc := 4) dX4_length_4 rfl ⟨rfl, rfl⟩
theorem c_X4_told {ft fp : Int32} (hS : RHx h R len ft fp) : CR yX4_told MX4_told [.ref R] h (fun r h' => r = some (R + 2) ∧ h' = h) := by
  obtain ⟨pl, kd, st, v, sm, hf, c⟩ := hS
  refine CR.ofV (by decide) rfl rfl (by simp [Value.category]) (by exact Nat.le_of_ble_eq_true rfl) (fun sz => ?_)
  refine e_aload_n (pc := 0) dX4_told_0 rfl rfl ?_
  refine e_get (pc := 1) fl_X4_47 dX4_told_1 (by repeat (first | assumption | exact hset_eq _ _ _ | (apply WAt.hd; assumption) | rw [hset_ne _ _ (by omega)])) (by rfl) ?_
  exact n_aret (pc := 4) (some (R + 2)) dX4_told_4 ⟨_, rfl⟩ ⟨rfl, rfl⟩
theorem c_X4_forget {ft fp : Int32} (hS : RdS h R len f ft fp) : CV yX4_forget MX4_forget [.ref R] h (fun h' => RdS h' R 0 f (nI 0) (-1) ∧ Er R (R + 14) h h') := by
  obtain ⟨⟨pl, kd, st, v, sm, hf, c⟩, ⟨l6, g, g1, g2⟩, W, F, w⟩ := hS
  refine CV.ofV (by decide) rfl rfl (by simp [Value.category]) (by exact Nat.le_of_ble_eq_true rfl) (fun sz => ?_)
  refine e_aload_n (pc := 0) dX4_forget_0 rfl rfl ?_
  refine n_iconst (pc := 1) 0 dX4_forget_1 (by decide) ?_
  refine e_put (pc := 2) pl_X4_15 dX4_forget_2 (by repeat (first | assumption | exact hset_eq _ _ _ | (apply WAt.hd; assumption) | rw [hset_ne _ _ (by omega)])) (by rfl) (by rfl) (by exact Nat.le_of_ble_eq_true rfl) ?_
  refine e_aload_n (pc := 5) dX4_forget_5 rfl rfl ?_
  refine n_iconst (pc := 6) 0 dX4_forget_6 (by decide) ?_
  refine e_put (pc := 7) pl_X4_31 dX4_forget_7 (by repeat (first | assumption | exact hset_eq _ _ _ | (apply WAt.hd; assumption) | rw [hset_ne _ _ (by omega)])) (by rfl) (by rfl) (by exact Nat.le_of_ble_eq_true rfl) ?_
  refine e_aload_n (pc := 10) dX4_forget_10 rfl rfl ?_
  refine e_iconst (pc := 11) (v := -1) dX4_forget_11 (by decide) ?_
  refine e_put (pc := 12) pl_X4_34 dX4_forget_12 (by repeat (first | assumption | exact hset_eq _ _ _ | (apply WAt.hd; assumption) | rw [hset_ne _ _ (by omega)])) (by rfl) (by rfl) (by exact Nat.le_of_ble_eq_true rfl) ?_
  exact n_vret (pc := 15) dX4_forget_15 rfl ⟨⟨⟨_, _, _, _, _, _, hset_eq _ _ _⟩, ⟨Nat.zero_le _, g, by rw [hset_ne _ _ (by omega), hset_ne _ _ (by omega), hset_ne _ _ (by omega)]; exact g1, fun t ht => absurd ht (Nat.not_lt_zero t)⟩, W, F, w.kp (fun a x y => by rw [hset_ne _ _ (by omega), hset_ne _ _ (by omega), hset_ne _ _ (by omega)])⟩, (((Er.rf R (R + 14) h).set (by omega)).set (by omega)).set (by omega)⟩
theorem c_X4_cutAt {ft fp : Int32} (hS : RdS h R len f ft fp) (n : Int32) : CI yX4_cutAt MX4_cutAt [.ref R, .int n] h (fun z h' => ((∃ k, n = nI k ∧ k ≤ len ∧ z = 1 ∧ RdS h' R k f ft fp) ∨ (okI n (len + 1) = false ∧ z = 0 ∧ RdS h' R len f ft fp)) ∧ Er R (R + 14) h h') := by
  have hS0 := hS
  obtain ⟨⟨pl, kd, st, v, sm, hf, c⟩, ⟨l6, g, g1, g2⟩, W, F, w⟩ := hS
  have no : ∀ sz, okI n (len + 1) = false → VI MX4_cutAt sz (fun z h' => ((∃ k, n = nI k ∧ k ≤ len ∧ z = 1 ∧ RdS h' R k f ft fp) ∨ (okI n (len + 1) = false ∧ z = 0 ∧ RdS h' R len f ft fp)) ∧ Er R (R + 14) h h') h 12 [some (.ref R), some (.int n)] [] := fun sz q => by
    refine n_iconst (pc := 12) 0 dX4_cutAt_12 (by decide) ?_
    exact n_zret (pc := 13) dX4_cutAt_13 rfl rfl ⟨Or.inr ⟨q, rfl, hS0⟩, Er.rf _ _ _⟩
  refine CI.ofV (by decide) rfl rfl (by simp [Value.category]) (by exact Nat.le_of_ble_eq_true rfl) (fun sz => ?_)
  refine e_iload_n (pc := 0) dX4_cutAt_0 rfl rfl ?_
  refine e_if_lt (pc := 1) (tgt := 12) dX4_cutAt_1 (by decide) (fun q => no sz (okI_lt q)) (fun q => ?_)
  refine e_iload_n (pc := 4) dX4_cutAt_4 rfl rfl ?_
  refine e_aload_n (pc := 5) dX4_cutAt_5 rfl rfl ?_
  refine e_get (pc := 6) fl_X4_15 dX4_cutAt_6 (by repeat (first | assumption | exact hset_eq _ _ _ | (apply WAt.hd; assumption) | rw [hset_ne _ _ (by omega)])) (by rfl) ?_
  refine e_icmp_le (pc := 9) (tgt := 14) dX4_cutAt_9 (by decide) (fun q2 => ?_) (fun q2 => no sz ?_)
  · have ok : okI n (len + 1) = true := okI_in q (fun z => by
      rw [Int32.le_iff_toInt_le] at z q2
      rw [nI_toInt (by omega)] at z q2
      omega)
    obtain ⟨k, k1, rfl⟩ := okI_of (by omega) ok
    refine e_aload_n (pc := 14) dX4_cutAt_14 rfl rfl ?_
    refine e_iload_n (pc := 15) dX4_cutAt_15 rfl rfl ?_
    refine e_put (pc := 16) pl_X4_15 dX4_cutAt_16 (by repeat (first | assumption | exact hset_eq _ _ _ | (apply WAt.hd; assumption) | rw [hset_ne _ _ (by omega)])) (by rfl) (by rfl) (by exact Nat.le_of_ble_eq_true rfl) ?_
    refine n_iconst (pc := 19) 1 dX4_cutAt_19 (by decide) ?_
    exact n_zret (pc := 20) dX4_cutAt_20 rfl rfl ⟨Or.inl ⟨k, rfl, by omega, rfl, ⟨_, _, _, _, _, _, hset_eq _ _ _⟩, ⟨by omega, g, (hset_ne _ _ (by omega)).trans g1, fun t ht => g2 t (by omega)⟩, W, F, w.kp (fun a x y => hset_ne _ _ (by omega))⟩, (Er.rf R (R + 14) h).set (by omega)⟩
  · refine okI_ge ?_
    rw [Int32.le_iff_toInt_le]
    rw [Int32.le_iff_toInt_le] at q2
    rw [nI_toInt (by omega)] at q2 ⊢
    omega
/-- a tape with a number's bytes behind it -/
def tap4 (f : Nat → Nat) (len : Nat) (a : Int32) (m : Nat) : Nat → Nat := fun t => if len ≤ t ∧ t < len + m then byN a (t - len) else f t
def shI (k : Nat) : Int32 := if k < 4 then nI (24 - 8 * k) else -8
theorem shI_s (k : Nat) (hk : k < 4) : shI k + Int32.ofInt (-8) = shI (k + 1) := by
  match k, hk with
  | 0, _ => decide
  | 1, _ => decide
  | 2, _ => decide
  | 3, _ => decide
theorem l_tn {sz : Nat} {a : Int32} {ft fp : Int32} {hh : AH} (hl : len + 4 ≤ 600) :
    ∀ (m k : Nat), m + k = 4 → ∀ h1, RdS h1 R (len + k) (tap4 f len a k) ft fp → Er R (R + 14) hh h1 → VV MX4_takeNumber sz (fun h' => RdS h' R (len + 4) (tap4 f len a 4) ft fp ∧ Er R (R + 14) hh h') h1 3 [some (.ref R), some (.int a), some (.int (shI k))] [] := by
  intro m
  induction m with
  | zero =>
    intro k e h1 hS hE
    have e' : k = 4 := by omega
    subst e'
    refine e_iload_n (pc := 3) dX4_takeNumber_3 rfl rfl ?_
    refine e_if_lt (pc := 4) (tgt := 49) dX4_takeNumber_4 (by decide) (fun _ => ?_) (fun q => absurd (by decide) q)
    exact n_vret (pc := 49) dX4_takeNumber_49 rfl ⟨hS, hE⟩
  | succ m ih =>
    intro k e h1 hS hE
    have hk : k < 4 := by omega
    obtain ⟨⟨pl, kd, st, v, sm, hf, c⟩, ⟨l6, g, g1, g2⟩, W, F, w⟩ := hS
    have es : shI k = nI (24 - 8 * k) := if_pos hk
    obtain ⟨y1, y2⟩ := byA_ok a k
    refine e_iload_n (pc := 3) dX4_takeNumber_3 rfl rfl ?_
    refine e_if_lt (pc := 4) (tgt := 49) dX4_takeNumber_4 (by decide) (fun q => absurd q (by rw [es]; exact nI_pos (by omega))) (fun _ => ?_)
    refine e_aload_n (pc := 7) dX4_takeNumber_7 rfl rfl ?_
    refine e_get (pc := 8) fl_X4_15 dX4_takeNumber_8 (by repeat (first | assumption | exact hset_eq _ _ _ | (apply WAt.hd; assumption) | rw [hset_ne _ _ (by omega)])) (by rfl) ?_
    refine n_sipush (pc := 11) 600 dX4_takeNumber_11 (by decide) ?_
    refine n_icmp_ge (pc := 14) (tgt := 49) dX4_takeNumber_14 (by decide) (by omega) (by omega) (fun c => absurd c (by omega)) (fun hb_ => ?_)
    refine e_aload_n (pc := 17) dX4_takeNumber_17 rfl rfl ?_
    refine e_get (pc := 18) fl_X4_11 dX4_takeNumber_18 (by repeat (first | assumption | exact hset_eq _ _ _ | (apply WAt.hd; assumption) | rw [hset_ne _ _ (by omega)])) (by rfl) ?_
    refine e_aload_n (pc := 21) dX4_takeNumber_21 rfl rfl ?_
    refine e_get (pc := 22) fl_X4_15 dX4_takeNumber_22 (by repeat (first | assumption | exact hset_eq _ _ _ | (apply WAt.hd; assumption) | rw [hset_ne _ _ (by omega)])) (by rfl) ?_
    refine e_iload_n (pc := 25) dX4_takeNumber_25 rfl rfl ?_
    refine e_iload_n (pc := 26) dX4_takeNumber_26 rfl rfl ?_
    refine e_iushr (pc := 27) dX4_takeNumber_27 ?_
    refine n_sipush (pc := 28) 255 dX4_takeNumber_28 (by decide) ?_
    refine e_iand (pc := 31) dX4_takeNumber_31 ?_
    rw [es]
    refine e_top (y := nI (byN a k)) y1 ?_
    refine e_iastN (pc := 32) (len + k) dX4_takeNumber_32 (by repeat (first | assumption | exact hset_eq _ _ _ | (apply WAt.hd; assumption) | rw [hset_ne _ _ (by omega)])) (by rfl) (by omega) (by first | decide | omega) ?_
    refine e_aload_n (pc := 33) dX4_takeNumber_33 rfl rfl ?_
    refine e_dup (pc := 34) dX4_takeNumber_34 rfl ?_
    refine e_get (pc := 35) fl_X4_15 dX4_takeNumber_35 (by repeat (first | assumption | exact hset_eq _ _ _ | (apply WAt.hd; assumption) | rw [hset_ne _ _ (by omega)])) (by rfl) ?_
    refine n_iconst (pc := 38) 1 dX4_takeNumber_38 (by decide) ?_
    refine n_iadd (pc := 39) dX4_takeNumber_39 ?_
    refine e_put (pc := 40) pl_X4_15 dX4_takeNumber_40 (by repeat (first | assumption | exact hset_eq _ _ _ | (apply WAt.hd; assumption) | rw [hset_ne _ _ (by omega)])) (by rfl) (by rfl) (by exact Nat.le_of_ble_eq_true rfl) ?_
    refine e_iinc (pc := 43) (v := shI (k + 1)) dX4_takeNumber_43 rfl (by rw [← es]; exact shI_s k hk) (by decide) ?_
    refine e_goto (pc := 46) (tgt := 3) dX4_takeNumber_46 (by decide) ?_
    refine ih (k + 1) (by omega) _ ⟨⟨_, _, _, _, _, _, hset_eq _ _ _⟩, ⟨by omega, _, (hset_ne _ _ (by omega)).trans (hset_eq _ _ _), fun t ht => ?_⟩, W, F, w.kp (fun a x y => (hset_ne _ _ (by omega)).trans (hset_ne _ _ (by omega)))⟩ ((hE.set (by omega)).set (by omega))
    unfold tap4
    by_cases q : t = len + k
    · subst q
      rw [pk_us, if_pos (by omega), show len + k - len = k by omega]
      exact ⟨rfl, y2⟩
    · rw [pk_un q]
      have := g2 t (by omega)
      unfold tap4 at this
      by_cases q2 : len ≤ t ∧ t < len + k
      · rw [if_pos q2] at this; rw [if_pos (by omega)]; exact this
      · rw [if_neg q2] at this; rw [if_neg (by omega)]; exact this
theorem c_X4_takeNumber {a : Int32} {ft fp : Int32} (hS : RdS h R len f ft fp) (hl : len + 4 ≤ 600) : CV yX4_takeNumber MX4_takeNumber [.ref R, .int a] h (fun h' => RdS h' R (len + 4) (tap4 f len a 4) ft fp ∧ Er R (R + 14) h h') := by
  refine CV.ofV (by decide) rfl rfl (by simp [Value.category]) (by exact Nat.le_of_ble_eq_true rfl) (fun sz => ?_)
  refine n_bipush (pc := 0) 24 dX4_takeNumber_0 (by decide) ?_
  refine e_istore_n (pc := 2) dX4_takeNumber_2 rfl (by decide) ?_
  refine l_tn (hh := h) hl 4 0 rfl h ?_ (Er.rf _ _ _)
  have e : tap4 f len a 0 = f := funext (fun t => if_neg (by omega))
  rw [e]
  exact hS
end R7
