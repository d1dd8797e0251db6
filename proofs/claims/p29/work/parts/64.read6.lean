/-! ===== Reader: a statement, a text ===== -/
section R6
variable {h : AH} {R len : Nat} {f : Nat → Nat} {W F : Wd}
theorem tC_5 (i : Nat) : tC f len i < 5 := by unfold tC; (repeat' split) <;> omega
theorem tK_v (i : Nat) : tK f len i < 9 := by
  have := tC_5 (f := f) (len := len) i
  unfold tK; (repeat' split) <;> omega
theorem tK_0 (i : Nat) : tK f len i = 0 ↔ tC f len i = 0 := by
  unfold tK
  constructor
  · intro h
    by_cases c : tC f len i = 1
    · rw [if_pos c] at h
      (repeat' split at h) <;> omega
    · rw [if_neg c] at h
      split at h <;> omega
  · intro h
    rw [if_neg (by omega), if_neg (by omega)]
    exact h
/-- which of the five words -/
def wK (j : Nat) : Nat := if j = 0 then 4 else if j = 1 then 6 else if j = 2 then 5 else if j = 3 then 7 else 8
theorem tK_w {i j : Nat} (hj : j < 5) : (tC f len i = 1 ∧ isW f (tS f len i) (tE f len i) j) ↔ tK f len i = wK j := by
  have one := fun a b ha hb => isW_one (f := f) (s := tS f len i) (e := tE f len i) (i := a) (j := b) ha hb
  have c5 := tC_5 (f := f) (len := len) i
  unfold tK
  by_cases c : tC f len i = 1
  · rw [if_pos c]
    by_cases w0 : isW f (tS f len i) (tE f len i) 0
    · rw [if_pos (bl_t w0)]
      constructor
      · intro q; rw [← one 0 j (by decide) hj w0 q.2]; rfl
      · intro q
        refine ⟨c, ?_⟩
        have : j = 0 := by unfold wK at q; (repeat' split at q) <;> omega
        subst this; exact w0
    rw [if_neg (by rw [bl_f w0]; decide)]
    by_cases w2 : isW f (tS f len i) (tE f len i) 2
    · rw [if_pos (bl_t w2)]
      constructor
      · intro q; rw [← one 2 j (by decide) hj w2 q.2]; rfl
      · intro q
        refine ⟨c, ?_⟩
        have : j = 2 := by unfold wK at q; (repeat' split at q) <;> omega
        subst this; exact w2
    rw [if_neg (by rw [bl_f w2]; decide)]
    by_cases w1 : isW f (tS f len i) (tE f len i) 1
    · rw [if_pos (bl_t w1)]
      constructor
      · intro q; rw [← one 1 j (by decide) hj w1 q.2]; rfl
      · intro q
        refine ⟨c, ?_⟩
        have : j = 1 := by unfold wK at q; (repeat' split at q) <;> omega
        subst this; exact w1
    rw [if_neg (by rw [bl_f w1]; decide)]
    by_cases w3 : isW f (tS f len i) (tE f len i) 3
    · rw [if_pos (bl_t w3)]
      constructor
      · intro q; rw [← one 3 j (by decide) hj w3 q.2]; rfl
      · intro q
        refine ⟨c, ?_⟩
        have : j = 3 := by unfold wK at q; (repeat' split at q) <;> omega
        subst this; exact w3
    rw [if_neg (by rw [bl_f w3]; decide)]
    by_cases w4 : isW f (tS f len i) (tE f len i) 4
    · rw [if_pos (bl_t w4)]
      constructor
      · intro q; rw [← one 4 j (by decide) hj w4 q.2]; rfl
      · intro q
        refine ⟨c, ?_⟩
        have : j = 4 := by unfold wK at q; (repeat' split at q) <;> omega
        subst this; exact w4
    rw [if_neg (by rw [bl_f w4]; decide)]
    constructor
    · intro ⟨_, q⟩
      match j, hj with
      | 0, _ => exact absurd q w0
      | 1, _ => exact absurd q w1
      | 2, _ => exact absurd q w2
      | 3, _ => exact absurd q w3
      | 4, _ => exact absurd q w4
    · intro q
      unfold wK at q
      (repeat' split at q) <;> omega
  · rw [if_neg c]
    constructor
    · intro q; exact absurd q.1 c
    · intro q
      unfold wK at q
      (repeat' split at q) <;> omega
/-- a statement that can't stand here -/
def badK (K s : Nat) (hfb : Bool) : Prop := K < 4 ∨ ¬ (K = 4 ↔ s = 0) ∨ (K = 6 ∧ hfb = false)
noncomputable abbrev stE (f : Nat → Nat) (len i : Nat) (W : Wd) : Nat := nt f len i (scn W (tK f len i) + 1)
/-- what a statement leaves -/
def StmP (hh : AH) (R len : Nat) (f : Nat → Nat) (i s : Nat) (W F : Wd) (hfb : Bool) (h' : AH) : Prop :=
  ((∃ x, Flt h' R len f x ∧ (∃ W' F', RWk h' R W' F') ∧ 0 < x.1 ∧ x.1 < 4 ∧ ((badK (tK f len i) s hfb ∧ x = (1, tS f len i)) ∨ (¬ badK (tK f len i) s hfb ∧ 40 ≤ s ∧ x = (3, tS f len i)) ∨ (¬ badK (tK f len i) s hfb ∧ s < 40 ∧ sF f len i W (tK f len i) = some x) ∨ (¬ badK (tK f len i) s hfb ∧ s < 40 ∧ sF f len i W (tK f len i) = none ∧ tC f len (stE f len i W) ≠ 3 ∧ x = (1, tS f len (stE f len i W))))) ∨
   (¬ badK (tK f len i) s hfb ∧ s < 40 ∧ sF f len i W (tK f len i) = none ∧ tC f len (stE f len i W) = 3 ∧ Tk h' R len f (nt f len i (scn W (tK f len i) + 2)) (nI 0) (-1) (nI (s + 1)) (bI (if tK f len i = 5 then true else hfb)) ∧ RWk h' R (sW W F (tK f len i) (vl f len i)) (if tK f len i = 5 then polyW W.1 W.2.1 (vl f len i) else F))) ∧ Er R (R + 14) hh h'
theorem tokF_b {j bd : Nat} {x : Nat × Nat} (h : tokF f len j bd = some x) : 0 < x.1 ∧ x.1 < 4 := by
  unfold tokF at h
  split at h
  · split at h
    · cases h
    · cases h; exact ⟨Nat.le_of_ble_eq_true rfl, Nat.le_of_ble_eq_true rfl⟩
  · cases h; exact ⟨Nat.le_of_ble_eq_true rfl, Nat.le_of_ble_eq_true rfl⟩
theorem nF_b {b : Nat → Nat} {i : Nat} {x : Nat × Nat} : ∀ m, nF f len i b m = some x → 0 < x.1 ∧ x.1 < 4
  | 0, h => by cases h
  | m + 1, h => by
    have h : (if nF f len i b m = none then tokF f len (nt f len i (m + 1)) (b m) else nF f len i b m) = some x := h
    split at h
    · exact tokF_b h
    · exact nF_b m h
theorem sF_b {i k : Nat} {x : Nat × Nat} (h : sF f len i W k = some x) : 0 < x.1 ∧ x.1 < 4 := by
  unfold sF at h
  split at h
  · unfold ordF at h
    (repeat' split at h) <;> first | (cases h; done) | (cases h; exact ⟨Nat.le_of_ble_eq_true rfl, Nat.le_of_ble_eq_true rfl⟩)
  · exact nF_b _ h
theorem isB_bI {z : Int32} {P : Prop} {b : Bool} (h : isB z P) (hb : P ↔ b = true) : z = bI b := by
  rcases h with ⟨h1, rfl⟩ | ⟨h1, rfl⟩
  · rw [hb.mp h1]; rfl
  · cases b with
    | true => exact absurd (hb.mpr rfl) h1
    | false => rfl
theorem bI_0 (b : Bool) : bI b = 0 ↔ b = false := by cases b <;> decide
section ST2
variable {i s : Nat} {hfb : Bool} {sz : Nat} {hh : AH}
/-- behind the part that the keyword asks for -/
theorem l_stm_e {k : Nat} {z : Int32} {h1 : AH} {a b c d e g : Option Value} (hk : k = tK f len i) (hb : ¬ badK (tK f len i) s hfb) (hs : s < 40) (hp : Part hh R len f i k W F (nI 0) (-1) (nI (s + 1)) (bI hfb) z h1) :
    VV MX4_statement sz (StmP hh R len f i s W F hfb) h1 176 [some (.ref R), a, b, c, d, e, g] [.int z] := by
  subst hk
  obtain ⟨hp, he⟩ := hp
  refine e_istore (pc := 176) dX4_statement_176 (by decide) ?_
  refine e_iload (pc := 178) dX4_statement_178 rfl ?_
  refine V.mask [true, false, false, false, false, false, false] ?_
  rcases hp with ⟨q1, rfl, q3, q4⟩ | ⟨x, q1, rfl, q3, q4⟩
  · refine e_if_eq (pc := 180) (tgt := 195) dX4_statement_180 (by decide) (fun q => absurd q (by decide)) (fun _ => ?_)
    obtain ⟨_, _, v, c, _⟩ := id q3
    refine e_aload_n (pc := 183) dX4_statement_183 rfl rfl ?_
    refine n_iconst (pc := 184) 3 dX4_statement_184 (by decide) ?_
    refine n_V (pc := 185) (c_X4_expect (k := 3) q3 (by decide)) bX4_expect q_i_X4_expect q_s_X4_expect q_m_X4_107 dX4_statement_185 rfl rfl (by repeat (first | assumption | exact hset_eq _ _ _ | (apply WAt.hd; assumption) | rw [hset_ne _ _ (by omega)])) rfl rfl (by exact Nat.le_of_ble_eq_true rfl) ⟨by decide, by decide⟩ ⟨rfl, rfl, Nat.zero_le _, Nat.zero_le _⟩ (fun z h2 hp => ?_)
    rcases hp with ⟨r1, rfl, rfl⟩ | ⟨r1, rfl, r2, r3⟩
    · refine e_if_eq (pc := 188) (tgt := 195) dX4_statement_188 (by decide) (fun q => absurd q (by decide)) (fun _ => ?_)
      refine e_aload_n (pc := 191) dX4_statement_191 rfl rfl ?_
      refine n_Vv (pc := 192) (c_X4_stepT q3) bX4_step q_i_X4_step q_s_X4_step q_m_X4_70 dX4_statement_192 rfl rfl (by repeat (first | assumption | exact hset_eq _ _ _ | (apply WAt.hd; assumption) | rw [hset_ne _ _ (by omega)])) rfl rfl (by exact Nat.le_of_ble_eq_true rfl) ⟨by decide, by decide⟩ ⟨rfl, rfl, Nat.zero_le _, Nat.zero_le _⟩ (fun h3 hp => ?_)
      obtain ⟨t1, t2⟩ := hp
      refine n_vret (pc := 195) dX4_statement_195 rfl ⟨Or.inr ⟨hb, hs, q1, r1, ?_, q4.er t2⟩, he.tr t2.rr⟩
      have e0 : bI (if tK f len i = 5 then true else hfb) = if tK f len i = 5 then 1 else bI hfb := by
        by_cases c : tK f len i = 5
        · rw [if_pos c, if_pos c]; rfl
        · rw [if_neg c, if_neg c]
      rw [e0]
      exact t1
    · refine e_if_eq (pc := 188) (tgt := 195) dX4_statement_188 (by decide) (fun _ => ?_) (fun q => absurd rfl q)
      exact n_vret (pc := 195) dX4_statement_195 rfl ⟨Or.inl ⟨_, r2, ⟨_, _, q4.er r3⟩, Nat.le_of_ble_eq_true rfl, Nat.le_of_ble_eq_true rfl, Or.inr (Or.inr (Or.inr ⟨hb, hs, q1, r1, rfl⟩))⟩, he.tr r3.rr⟩
  · refine e_if_eq (pc := 180) (tgt := 195) dX4_statement_180 (by decide) (fun _ => ?_) (fun q => absurd rfl q)
    have xb := sF_b q1
    exact n_vret (pc := 195) dX4_statement_195 rfl ⟨Or.inl ⟨x, q3, q4, xb.1, xb.2, Or.inr (Or.inr (Or.inl ⟨hb, hs, q1⟩))⟩, he⟩
/-- at the part that the keyword asks for -/
theorem l_stm_d (hT : Tk h R len f i (nI 0) (-1) (nI s) (bI hfb)) (hW : RWk h R W F) (hF : hfb = true → ∃ cs, F = polyW W.1 W.2.1 cs) (hb : ¬ badK (tK f len i) s hfb) (hs40 : s ≤ 40) {e g : Option Value} :
    VV MX4_statement sz (StmP h R len f i s W F hfb) h 101 [some (.ref R), some (.int (bI (decide (tK f len i = 4)))), some (.int (bI (decide (tK f len i = 6)))), some (.int (bI (decide (tK f len i = 5)))), some (.int (bI (decide (tK f len i = 7)))), e, g] [] := by
  have kv := tK_v (f := f) (len := len) i
  have kb : 4 ≤ tK f len i := Nat.not_lt.mp (fun q => hb (Or.inl q))
  obtain ⟨ta, tb, v, c, cd⟩ := id hT
  refine e_aload_n (pc := 101) dX4_statement_101 rfl rfl ?_
  refine e_get (pc := 102) fl_X4_37 dX4_statement_102 (by repeat (first | assumption | exact hset_eq _ _ _ | (apply WAt.hd; assumption) | rw [hset_ne _ _ (by omega)])) (by rfl) ?_
  refine n_bipush (pc := 105) 40 dX4_statement_105 (by decide) ?_
  refine n_icmp_lt (pc := 107) (tgt := 117) dX4_statement_107 (by decide) (by omega) (by omega) (fun hs => ?_) (fun hs => ?_)
  · refine e_aload_n (pc := 117) dX4_statement_117 rfl rfl ?_
    refine e_dup (pc := 118) dX4_statement_118 rfl ?_
    refine e_get (pc := 119) fl_X4_37 dX4_statement_119 (by repeat (first | assumption | exact hset_eq _ _ _ | (apply WAt.hd; assumption) | rw [hset_ne _ _ (by omega)])) (by rfl) ?_
    refine n_iconst (pc := 122) 1 dX4_statement_122 (by decide) ?_
    refine n_iadd (pc := 123) dX4_statement_123 ?_
    refine e_put (pc := 124) pl_X4_37 dX4_statement_124 (by repeat (first | assumption | exact hset_eq _ _ _ | (apply WAt.hd; assumption) | rw [hset_ne _ _ (by omega)])) (by rfl) (by rfl) (by exact Nat.le_of_ble_eq_true rfl) ?_
    have T1 : Tk (hset h R (ob 4 [.ref (R + 1), .int (nI len), .int (nI (tE f len i)), .int (nI (tC f len i)), .int (nI (tS f len i)), .int v, .int (nI 0), .int (-1), .int (nI (s + 1)), .int (bI hfb), .ref (R + 2), .ref (R + 5), .ref (R + 8), .ref (R + 11), .ref (R + 12), .ref (R + 13)])) R len f i (nI 0) (-1) (nI (s + 1)) (bI hfb) := ⟨ta, tb.keep (hset_ne _ _ (by omega)), v, hset_eq _ _ _, cd⟩
    have W1 : RWk (hset h R (ob 4 [.ref (R + 1), .int (nI len), .int (nI (tE f len i)), .int (nI (tC f len i)), .int (nI (tS f len i)), .int v, .int (nI 0), .int (-1), .int (nI (s + 1)), .int (bI hfb), .ref (R + 2), .ref (R + 5), .ref (R + 8), .ref (R + 11), .ref (R + 12), .ref (R + 13)])) R W F := hW.kp (fun a x y => hset_ne _ _ (by omega))
    have fr : ∀ k z h', Part (hset h R (ob 4 [.ref (R + 1), .int (nI len), .int (nI (tE f len i)), .int (nI (tC f len i)), .int (nI (tS f len i)), .int v, .int (nI 0), .int (-1), .int (nI (s + 1)), .int (bI hfb), .ref (R + 2), .ref (R + 5), .ref (R + 8), .ref (R + 11), .ref (R + 12), .ref (R + 13)])) R len f i k W F (nI 0) (-1) (nI (s + 1)) (bI hfb) z h' → Part h R len f i k W F (nI 0) (-1) (nI (s + 1)) (bI hfb) z h' := fun k z h' q => ⟨q.1, ((Er.rf R (R + 14) h).set (by omega)).tr q.2⟩
    refine e_iload_n (pc := 127) dX4_statement_127 rfl rfl ?_
    by_cases k4 : tK f len i = 4
    · rw [decide_eq_true k4]
      refine e_if_eq (pc := 128) (tgt := 138) dX4_statement_128 (by decide) (fun q => absurd q (by decide)) (fun _ => ?_)
      refine e_aload_n (pc := 131) dX4_statement_131 rfl rfl ?_
      refine n_V (pc := 132) (c_X4_order T1 W1) bX4_order q_i_X4_order q_s_X4_order q_m_X4_93 dX4_statement_132 rfl rfl (by repeat (first | assumption | exact hset_eq _ _ _ | (apply WAt.hd; assumption) | rw [hset_ne _ _ (by omega)])) rfl rfl (by exact Nat.le_of_ble_eq_true rfl) ⟨by decide, by decide⟩ ⟨rfl, rfl, Nat.zero_le _, Nat.zero_le _⟩ (fun z h2 hp => ?_)
      refine e_goto (pc := 135) (tgt := 176) dX4_statement_135 (by decide) ?_
      exact l_stm_e k4.symm hb hs (fr _ _ _ hp)
    · rw [decide_eq_false k4]
      refine e_if_eq (pc := 128) (tgt := 138) dX4_statement_128 (by decide) (fun _ => ?_) (fun q => absurd rfl q)
      refine e_iload_n (pc := 138) dX4_statement_138 rfl rfl ?_
      by_cases k6 : tK f len i = 6
      · rw [decide_eq_true k6]
        have hft : hfb = true := by
          cases q : hfb with
          | true => rfl
          | false => exact absurd (Or.inr (Or.inr ⟨k6, q⟩)) hb
        obtain ⟨cs, hFF⟩ := hF hft
        subst hFF
        refine e_if_eq (pc := 139) (tgt := 149) dX4_statement_139 (by decide) (fun q => absurd q (by decide)) (fun _ => ?_)
        refine e_aload_n (pc := 142) dX4_statement_142 rfl rfl ?_
        refine n_V (pc := 143) (c_X4_twist T1 W1) bX4_twist q_i_X4_twist q_s_X4_twist q_m_X4_96 dX4_statement_143 rfl rfl (by repeat (first | assumption | exact hset_eq _ _ _ | (apply WAt.hd; assumption) | rw [hset_ne _ _ (by omega)])) rfl rfl (by exact Nat.le_of_ble_eq_true rfl) ⟨by decide, by decide⟩ ⟨rfl, rfl, Nat.zero_le _, Nat.zero_le _⟩ (fun z h2 hp => ?_)
        refine e_goto (pc := 146) (tgt := 176) dX4_statement_146 (by decide) ?_
        exact l_stm_e k6.symm hb hs (fr _ _ _ hp)
      · rw [decide_eq_false k6]
        refine e_if_eq (pc := 139) (tgt := 149) dX4_statement_139 (by decide) (fun _ => ?_) (fun q => absurd rfl q)
        refine e_iload_n (pc := 149) dX4_statement_149 rfl rfl ?_
        by_cases k5 : tK f len i = 5
        · rw [decide_eq_true k5]
          refine e_if_eq (pc := 150) (tgt := 160) dX4_statement_150 (by decide) (fun q => absurd q (by decide)) (fun _ => ?_)
          refine e_aload_n (pc := 153) dX4_statement_153 rfl rfl ?_
          refine n_V (pc := 154) (c_X4_polynomials T1 W1) bX4_polynomials q_i_X4_polynomials q_s_X4_polynomials q_m_X4_98 dX4_statement_154 rfl rfl (by repeat (first | assumption | exact hset_eq _ _ _ | (apply WAt.hd; assumption) | rw [hset_ne _ _ (by omega)])) rfl rfl (by exact Nat.le_of_ble_eq_true rfl) ⟨by decide, by decide⟩ ⟨rfl, rfl, Nat.zero_le _, Nat.zero_le _⟩ (fun z h2 hp => ?_)
          refine e_goto (pc := 157) (tgt := 176) dX4_statement_157 (by decide) ?_
          exact l_stm_e k5.symm hb hs (fr _ _ _ hp)
        · rw [decide_eq_false k5]
          refine e_if_eq (pc := 150) (tgt := 160) dX4_statement_150 (by decide) (fun _ => ?_) (fun q => absurd rfl q)
          refine e_iload (pc := 160) dX4_statement_160 rfl ?_
          by_cases k7 : tK f len i = 7
          · rw [decide_eq_true k7]
            refine e_if_eq (pc := 162) (tgt := 172) dX4_statement_162 (by decide) (fun q => absurd q (by decide)) (fun _ => ?_)
            refine e_aload_n (pc := 165) dX4_statement_165 rfl rfl ?_
            refine n_V (pc := 166) (c_X4_row T1 W1) bX4_row q_i_X4_row q_s_X4_row q_m_X4_101 dX4_statement_166 rfl rfl (by repeat (first | assumption | exact hset_eq _ _ _ | (apply WAt.hd; assumption) | rw [hset_ne _ _ (by omega)])) rfl rfl (by exact Nat.le_of_ble_eq_true rfl) ⟨by decide, by decide⟩ ⟨rfl, rfl, Nat.zero_le _, Nat.zero_le _⟩ (fun z h2 hp => ?_)
            refine e_goto (pc := 169) (tgt := 176) dX4_statement_169 (by decide) ?_
            exact l_stm_e k7.symm hb hs (fr _ _ _ hp)
          · rw [decide_eq_false k7]
            refine e_if_eq (pc := 162) (tgt := 172) dX4_statement_162 (by decide) (fun _ => ?_) (fun q => absurd rfl q)
            refine e_aload_n (pc := 172) dX4_statement_172 rfl rfl ?_
            refine n_V (pc := 173) (c_X4_turning T1 W1) bX4_turning q_i_X4_turning q_s_X4_turning q_m_X4_104 dX4_statement_173 rfl rfl (by repeat (first | assumption | exact hset_eq _ _ _ | (apply WAt.hd; assumption) | rw [hset_ne _ _ (by omega)])) rfl rfl (by exact Nat.le_of_ble_eq_true rfl) ⟨by decide, by decide⟩ ⟨rfl, rfl, Nat.zero_le _, Nat.zero_le _⟩ (fun z h2 hp => ?_)
            exact l_stm_e (show 8 = tK f len i by omega) hb hs (fr _ _ _ hp)
  · refine e_aload_n (pc := 110) dX4_statement_110 rfl rfl ?_
    refine n_iconst (pc := 111) 3 dX4_statement_111 (by decide) ?_
    refine n_V (pc := 112) (c_X4_fail (k := 3) hT) bX4_fail q_i_X4_fail q_s_X4_fail q_m_X4_89 dX4_statement_112 rfl rfl (by repeat (first | assumption | exact hset_eq _ _ _ | (apply WAt.hd; assumption) | rw [hset_ne _ _ (by omega)])) rfl rfl (by exact Nat.le_of_ble_eq_true rfl) ⟨by decide, by decide⟩ ⟨rfl, rfl, Nat.zero_le _, Nat.zero_le _⟩ (fun z h2 hp => ?_)
    obtain ⟨rfl, p1, p2⟩ := hp
    refine e_pop (pc := 115) dX4_statement_115 rfl ?_
    exact n_vret (pc := 116) dX4_statement_116 rfl ⟨Or.inl ⟨_, p1, ⟨_, _, hW.er p2⟩, Nat.le_of_ble_eq_true rfl, Nat.le_of_ble_eq_true rfl, Or.inr (Or.inl ⟨hb, hs, rfl⟩)⟩, p2.rr⟩
theorem c_X4_statement (hT : Tk h R len f i (nI 0) (-1) (nI s) (bI hfb)) (hW : RWk h R W F) (hF : hfb = true → ∃ cs, F = polyW W.1 W.2.1 cs) (hs40 : s ≤ 40) : CV yX4_statement MX4_statement [.ref R] h (StmP h R len f i s W F hfb) := by
  obtain ⟨ta, tb, v, c, cd⟩ := id hT
  have te := tE_b (f := f) ta
  have kv := tK_v (f := f) (len := len) i
  have c5 := tC_5 (f := f) (len := len) i
  have key : ∀ j (z : Int32), j < 5 → isB z (tC f len i = 1 ∧ isW f (tS f len i) (tE f len i) j) → z = bI (decide (tK f len i = wK j)) := fun j z hj hz => isB_bI hz ((tK_w hj).trans (decide_eq_true_iff).symm)
  refine CV.ofV (by decide) rfl rfl (by simp [Value.category]) (by exact Nat.le_of_ble_eq_true rfl) (fun sz => ?_)
  refine e_aload_n (pc := 0) dX4_statement_0 rfl rfl ?_
  refine n_ldcV (i := 0) (tx := "order") (pc := 1) (by decide) dX4_statement_1 (fun G => c_X4_isWord (i := 0) (by decide) tb te.2.1 te.2.2.1 c5 c) bX4_isWord q_i_X4_isWord q_s_X4_isWord q_m_X4_78 dX4_statement_3 (by assumption) rfl rfl (by exact Nat.le_of_ble_eq_true rfl) ⟨by decide, by decide⟩ ⟨rfl, rfl, Nat.zero_le _, Nat.zero_le _⟩ (fun z h2 hp => ?_)
  obtain ⟨hz, rfl⟩ := hp
  rw [key 0 z (by decide) hz]
  refine e_istore_n (pc := 6) dX4_statement_6 rfl (by decide) ?_
  refine e_aload_n (pc := 7) dX4_statement_7 rfl rfl ?_
  refine n_ldcV (i := 1) (tx := "twist") (pc := 8) (by decide) dX4_statement_8 (fun G => c_X4_isWord (i := 1) (by decide) tb te.2.1 te.2.2.1 c5 c) bX4_isWord q_i_X4_isWord q_s_X4_isWord q_m_X4_78 dX4_statement_10 (by assumption) rfl rfl (by exact Nat.le_of_ble_eq_true rfl) ⟨by decide, by decide⟩ ⟨rfl, rfl, Nat.zero_le _, Nat.zero_le _⟩ (fun z h2 hp => ?_)
  obtain ⟨hz, rfl⟩ := hp
  rw [key 1 z (by decide) hz]
  refine e_istore_n (pc := 13) dX4_statement_13 rfl (by decide) ?_
  refine e_aload_n (pc := 14) dX4_statement_14 rfl rfl ?_
  refine n_ldcV (i := 2) (tx := "field") (pc := 15) (by decide) dX4_statement_15 (fun G => c_X4_isWord (i := 2) (by decide) tb te.2.1 te.2.2.1 c5 c) bX4_isWord q_i_X4_isWord q_s_X4_isWord q_m_X4_78 dX4_statement_17 (by assumption) rfl rfl (by exact Nat.le_of_ble_eq_true rfl) ⟨by decide, by decide⟩ ⟨rfl, rfl, Nat.zero_le _, Nat.zero_le _⟩ (fun z h2 hp => ?_)
  obtain ⟨hz, rfl⟩ := hp
  rw [key 2 z (by decide) hz]
  refine e_istore_n (pc := 20) dX4_statement_20 rfl (by decide) ?_
  refine e_aload_n (pc := 21) dX4_statement_21 rfl rfl ?_
  refine n_ldcV (i := 3) (tx := "at") (pc := 22) (by decide) dX4_statement_22 (fun G => c_X4_isWord (i := 3) (by decide) tb te.2.1 te.2.2.1 c5 c) bX4_isWord q_i_X4_isWord q_s_X4_isWord q_m_X4_78 dX4_statement_24 (by assumption) rfl rfl (by exact Nat.le_of_ble_eq_true rfl) ⟨by decide, by decide⟩ ⟨rfl, rfl, Nat.zero_le _, Nat.zero_le _⟩ (fun z h2 hp => ?_)
  obtain ⟨hz, rfl⟩ := hp
  rw [key 3 z (by decide) hz]
  refine e_istore (pc := 27) dX4_statement_27 (by decide) ?_
  have f1 : ∀ (a b e d g l : Option Value), badK (tK f len i) s hfb → VV MX4_statement sz (StmP h2 R len f i s W F hfb) h2 94 [some (.ref R), a, b, e, d, g, l] [] := fun a b e d g l hb => by
    refine e_aload_n (pc := 94) dX4_statement_94 rfl rfl ?_
    refine n_iconst (pc := 95) 1 dX4_statement_95 (by decide) ?_
    refine n_V (pc := 96) (c_X4_fail (k := 1) hT) bX4_fail q_i_X4_fail q_s_X4_fail q_m_X4_89 dX4_statement_96 rfl rfl (by repeat (first | assumption | exact hset_eq _ _ _ | (apply WAt.hd; assumption) | rw [hset_ne _ _ (by omega)])) rfl rfl (by exact Nat.le_of_ble_eq_true rfl) ⟨by decide, by decide⟩ ⟨rfl, rfl, Nat.zero_le _, Nat.zero_le _⟩ (fun z h3 hp => ?_)
    obtain ⟨rfl, p1, p2⟩ := hp
    refine e_pop (pc := 99) dX4_statement_99 rfl ?_
    exact n_vret (pc := 100) dX4_statement_100 rfl ⟨Or.inl ⟨_, p1, ⟨_, _, hW.er p2⟩, Nat.le_of_ble_eq_true rfl, Nat.le_of_ble_eq_true rfl, Or.inl ⟨hb, rfl⟩⟩, p2.rr⟩
  have k60 : ∀ kn : Bool, (kn = true ↔ 4 ≤ tK f len i) → VV MX4_statement sz (StmP h2 R len f i s W F hfb) h2 60 [some (.ref R), some (.int (bI (decide (tK f len i = 4)))), some (.int (bI (decide (tK f len i = 6)))), some (.int (bI (decide (tK f len i = 5)))), some (.int (bI (decide (tK f len i = 7)))), none, none] [.int (bI kn)] := fun kn hkn => by
    refine e_istore (pc := 60) dX4_statement_60 (by decide) ?_
    refine e_iload (pc := 62) dX4_statement_62 rfl ?_
    cases kn with
    | false =>
      refine e_if_eq (pc := 64) (tgt := 94) dX4_statement_64 (by decide) (fun _ => ?_) (fun q => absurd rfl q)
      exact f1 _ _ _ _ _ _ (Or.inl (Nat.not_le.mp (fun q => Bool.noConfusion (hkn.mpr q))))
    | true =>
      have k4 := hkn.mp rfl
      refine e_if_eq (pc := 64) (tgt := 94) dX4_statement_64 (by decide) (fun q => absurd q (by decide)) (fun _ => ?_)
      have k80 : VV MX4_statement sz (StmP h2 R len f i s W F hfb) h2 80 [some (.ref R), some (.int (bI (decide (tK f len i = 4)))), some (.int (bI (decide (tK f len i = 6)))), some (.int (bI (decide (tK f len i = 5)))), some (.int (bI (decide (tK f len i = 7)))), some (.int (bI true)), none] [.int (bI (decide (s = 0))), .int (bI (decide (tK f len i = 4)))] := by
        by_cases e : (tK f len i = 4 ↔ s = 0)
        · have e' : bI (decide (tK f len i = 4)) = bI (decide (s = 0)) := by rw [decide_eq_decide.mpr e]
          refine e_icmp_ne (pc := 80) (tgt := 94) dX4_statement_80 (by decide) (fun q => absurd e' q) (fun _ => ?_)
          refine e_iload_n (pc := 83) dX4_statement_83 rfl rfl ?_
          by_cases k6 : tK f len i = 6
          · cases hq : hfb with
            | true =>
              rw [hq] at c hT
              refine e_if_eq (pc := 84) (tgt := 101) dX4_statement_84 (by decide) (fun q => absurd ((bI_0 _).mp q) (by rw [decide_eq_true k6]; decide)) (fun _ => ?_)
              refine e_aload_n (pc := 87) dX4_statement_87 rfl rfl ?_
              refine e_get (pc := 88) fl_X4_40 dX4_statement_88 (by repeat (first | assumption | exact hset_eq _ _ _ | (apply WAt.hd; assumption) | rw [hset_ne _ _ (by omega)])) (by rfl) ?_
              refine e_if_ne (pc := 91) (tgt := 101) dX4_statement_91 (by decide) (fun _ => ?_) (fun q => absurd q (by decide))
              exact l_stm_d hT hW (fun _ => hF hq) (by unfold badK; rintro (q | q | q) <;> first | omega | exact q e | exact Bool.noConfusion q.2) hs40
            | false =>
              rw [hq] at c hT f1
              refine e_if_eq (pc := 84) (tgt := 101) dX4_statement_84 (by decide) (fun q => absurd ((bI_0 _).mp q) (by rw [decide_eq_true k6]; decide)) (fun _ => ?_)
              refine e_aload_n (pc := 87) dX4_statement_87 rfl rfl ?_
              refine e_get (pc := 88) fl_X4_40 dX4_statement_88 (by repeat (first | assumption | exact hset_eq _ _ _ | (apply WAt.hd; assumption) | rw [hset_ne _ _ (by omega)])) (by rfl) ?_
              refine e_if_ne (pc := 91) (tgt := 101) dX4_statement_91 (by decide) (fun q => absurd rfl q) (fun _ => ?_)
              exact f1 _ _ _ _ _ _ (Or.inr (Or.inr ⟨k6, rfl⟩))
          · refine e_if_eq (pc := 84) (tgt := 101) dX4_statement_84 (by decide) (fun _ => ?_) (fun q => absurd ((bI_0 _).mpr (decide_eq_false k6)) q)
            exact l_stm_d hT hW hF (by unfold badK; rintro (q | q | q) <;> first | omega | exact q e | exact k6 q.1) hs40
        · have e' : bI (decide (tK f len i = 4)) ≠ bI (decide (s = 0)) := fun q => by
            by_cases a : tK f len i = 4
            · by_cases b : s = 0
              · exact e ⟨fun _ => b, fun _ => a⟩
              · rw [decide_eq_true a, decide_eq_false b] at q; exact absurd q (by decide)
            · by_cases b : s = 0
              · rw [decide_eq_false a, decide_eq_true b] at q; exact absurd q (by decide)
              · exact e ⟨fun z => absurd z a, fun z => absurd z b⟩
          refine e_icmp_ne (pc := 80) (tgt := 94) dX4_statement_80 (by decide) (fun _ => ?_) (fun q => absurd q e')
          exact f1 _ _ _ _ _ _ (Or.inr (Or.inl e))
      refine e_iload_n (pc := 67) dX4_statement_67 rfl rfl ?_
      refine e_aload_n (pc := 68) dX4_statement_68 rfl rfl ?_
      refine e_get (pc := 69) fl_X4_37 dX4_statement_69 (by repeat (first | assumption | exact hset_eq _ _ _ | (apply WAt.hd; assumption) | rw [hset_ne _ _ (by omega)])) (by rfl) ?_
      by_cases s0 : s = 0
      · refine n_if_ne (pc := 72) (tgt := 79) dX4_statement_72 (by decide) (by omega) (fun q => absurd s0 q) (fun _ => ?_)
        refine n_iconst (pc := 75) 1 dX4_statement_75 (by decide) ?_
        refine e_goto (pc := 76) (tgt := 80) dX4_statement_76 (by decide) ?_
        have q := k80
        rw [decide_eq_true s0] at q
        exact q
      · refine n_if_ne (pc := 72) (tgt := 79) dX4_statement_72 (by decide) (by omega) (fun _ => ?_) (fun q => absurd q s0)
        refine n_iconst (pc := 79) 0 dX4_statement_79 (by decide) ?_
        have q := k80
        rw [decide_eq_false s0] at q
        exact q
  have k55 : 4 ≤ tK f len i → VV MX4_statement sz (StmP h2 R len f i s W F hfb) h2 55 [some (.ref R), some (.int (bI (decide (tK f len i = 4)))), some (.int (bI (decide (tK f len i = 6)))), some (.int (bI (decide (tK f len i = 5)))), some (.int (bI (decide (tK f len i = 7)))), none, none] [] := fun q => by
    refine n_iconst (pc := 55) 1 dX4_statement_55 (by decide) ?_
    refine e_goto (pc := 56) (tgt := 60) dX4_statement_56 (by decide) ?_
    exact k60 true ⟨fun _ => q, fun _ => rfl⟩
  refine e_iload_n (pc := 29) dX4_statement_29 rfl rfl ?_
  refine e_if_ne (pc := 30) (tgt := 55) dX4_statement_30 (by decide) (fun q => k55 ?_) (fun q1 => ?_)
  · have : tK f len i = 4 := Decidable.byContradiction (fun z => q ((bI_0 _).mpr (decide_eq_false z)))
    omega
  have n4 : tK f len i ≠ 4 := fun z => by rw [decide_eq_true (show tK f len i = wK 0 from z)] at q1; exact absurd q1 (by decide)
  refine e_iload_n (pc := 33) dX4_statement_33 rfl rfl ?_
  refine e_if_ne (pc := 34) (tgt := 55) dX4_statement_34 (by decide) (fun q => k55 ?_) (fun q2 => ?_)
  · have : tK f len i = 6 := Decidable.byContradiction (fun z => q ((bI_0 _).mpr (decide_eq_false z)))
    omega
  have n6 : tK f len i ≠ 6 := fun z => by rw [decide_eq_true (show tK f len i = wK 1 from z)] at q2; exact absurd q2 (by decide)
  refine e_iload_n (pc := 37) dX4_statement_37 rfl rfl ?_
  refine e_if_ne (pc := 38) (tgt := 55) dX4_statement_38 (by decide) (fun q => k55 ?_) (fun q3 => ?_)
  · have : tK f len i = 5 := Decidable.byContradiction (fun z => q ((bI_0 _).mpr (decide_eq_false z)))
    omega
  have n5 : tK f len i ≠ 5 := fun z => by rw [decide_eq_true (show tK f len i = wK 2 from z)] at q3; exact absurd q3 (by decide)
  refine e_iload (pc := 41) dX4_statement_41 rfl ?_
  refine e_if_ne (pc := 43) (tgt := 55) dX4_statement_43 (by decide) (fun q => k55 ?_) (fun q4 => ?_)
  · have : tK f len i = 7 := Decidable.byContradiction (fun z => q ((bI_0 _).mpr (decide_eq_false z)))
    omega
  have n7 : tK f len i ≠ 7 := fun z => by rw [decide_eq_true (show tK f len i = wK 3 from z)] at q4; exact absurd q4 (by decide)
  refine e_aload_n (pc := 46) dX4_statement_46 rfl rfl ?_
  refine n_ldcV (i := 4) (tx := "turn") (pc := 47) (by decide) dX4_statement_47 (fun G => c_X4_isWord (i := 4) (by decide) tb te.2.1 te.2.2.1 c5 c) bX4_isWord q_i_X4_isWord q_s_X4_isWord q_m_X4_78 dX4_statement_49 (by assumption) rfl rfl (by exact Nat.le_of_ble_eq_true rfl) ⟨by decide, by decide⟩ ⟨rfl, rfl, Nat.zero_le _, Nat.zero_le _⟩ (fun z h3 hp => ?_)
  obtain ⟨hz, rfl⟩ := hp
  rw [key 4 z (by decide) hz]
  refine e_if_eq (pc := 52) (tgt := 59) dX4_statement_52 (by decide) (fun q => ?_) (fun q => k55 ?_)
  · refine n_iconst (pc := 59) 0 dX4_statement_59 (by decide) ?_
    refine k60 false ⟨fun z => Bool.noConfusion z, fun z => ?_⟩
    have n8 : tK f len i ≠ 8 := fun z => by rw [decide_eq_true (show tK f len i = wK 4 from z)] at q; exact absurd q (by decide)
    omega
  · have : tK f len i = 8 := Decidable.byContradiction (fun z => q ((bI_0 _).mpr (decide_eq_false z)))
    omega
end ST2
end R6
