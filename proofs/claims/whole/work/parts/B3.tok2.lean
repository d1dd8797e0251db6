/-! ===== the reference: the next token ===== -/
section NX
variable {H : AH} {m p n q len sz : Nat} {s : Ms} {f : Nat → Nat}
abbrev oM (m p n q : Nat) (s : Ms) : AE := ob 10 (mfs m p n q s)
theorem TpM.hm {x : AE} (q : TpM H m f len) : TpM (hset H m x) m f len := q.keep (hset_ne _ _ (by omega))
theorem l_nx_b {t b v : Nat} {Pr : AH → Prop} (hT : TpM H m f len) (hl : s.2.1 = len) :
    ∀ (k i : Nat), k = len - i → i ≤ len → VV MX11_next0 sz Pr (hset H m (oM m p n q (s.tk (run f len blkB i) t b v))) 39 [some (.ref m), none] [] → VV MX11_next0 sz Pr (hset H m (oM m p n q (s.tk i t b v))) 0 [some (.ref m), none] [] := by
  obtain ⟨l6, g, g1, g2⟩ := id hT
  intro k
  induction k with
  | zero =>
    intro i e1 e2 kk
    have e' : i = len := by omega
    have hM : MH (hset H m (oM m p n q (s.tk i t b v))) m p n q (s.tk i t b v) := hset_eq _ _ _
    rw [run_end (by omega)] at kk
    refine e_aload_n (pc := 0) dX11_next0_0 rfl rfl ?_
    refine e_aload_n (pc := 1) dX11_next0_1 rfl rfl ?_
    refine e_get (pc := 2) fl_X11_160 dX11_next0_2 (by repeat (first | assumption | exact hset_eq _ _ _ | (apply Lay.hd; assumption) | rw [hset_ne _ _ (by omega)])) (by rfl) ?_
    refine n_VP (pc := 5) (c_X11_see hM hT.hm hl (show i < 2 ^ 31 by omega)) bX11_see q_i_X11_see q_s_X11_see q_m_X11_188 dX11_next0_5 rfl rfl (by repeat (first | assumption | exact hset_eq _ _ _ | (apply Lay.hd; assumption) | rw [hset_ne _ _ (by omega)])) rfl rfl (by exact Nat.le_of_ble_eq_true rfl) ⟨by decide, by decide⟩ ⟨rfl, rfl, Nat.zero_le _, Nat.zero_le _⟩ ?_
    rw [seeV_ge (by omega)]
    refine n_bipush (pc := 8) 32 dX11_next0_8 (by decide) ?_
    refine e_icmp_eq (pc := 10) (tgt := 26) dX11_next0_10 (by decide) (fun q => absurd q (by decide)) (fun _ => ?_)
    refine e_aload_n (pc := 13) dX11_next0_13 rfl rfl ?_
    refine e_aload_n (pc := 14) dX11_next0_14 rfl rfl ?_
    refine e_get (pc := 15) fl_X11_160 dX11_next0_15 (by repeat (first | assumption | exact hset_eq _ _ _ | (apply Lay.hd; assumption) | rw [hset_ne _ _ (by omega)])) (by rfl) ?_
    refine n_VP (pc := 18) (c_X11_see hM hT.hm hl (show i < 2 ^ 31 by omega)) bX11_see q_i_X11_see q_s_X11_see q_m_X11_188 dX11_next0_18 rfl rfl (by repeat (first | assumption | exact hset_eq _ _ _ | (apply Lay.hd; assumption) | rw [hset_ne _ _ (by omega)])) rfl rfl (by exact Nat.le_of_ble_eq_true rfl) ⟨by decide, by decide⟩ ⟨rfl, rfl, Nat.zero_le _, Nat.zero_le _⟩ ?_
    rw [seeV_ge (by omega)]
    refine n_bipush (pc := 21) 10 dX11_next0_21 (by decide) ?_
    refine e_icmp_ne (pc := 23) (tgt := 39) dX11_next0_23 (by decide) (fun _ => ?_) (fun q => absurd q (by decide))
    exact kk
  | succ k ih =>
    intro i e1 e2 kk
    have hi : i < len := by omega
    obtain ⟨-, z⟩ := g2 i hi
    have hM : MH (hset H m (oM m p n q (s.tk i t b v))) m p n q (s.tk i t b v) := hset_eq _ _ _
    have go : blkB (f i) = true → VV MX11_next0 sz Pr (hset H m (oM m p n q (s.tk i t b v))) 26 [some (.ref m), none] [] := fun hb => by
      rw [run_go hi hb] at kk
      refine e_aload_n (pc := 26) dX11_next0_26 rfl rfl ?_
      refine e_dup (pc := 27) dX11_next0_27 rfl ?_
      refine e_get (pc := 28) fl_X11_160 dX11_next0_28 (by repeat (first | assumption | exact hset_eq _ _ _ | (apply Lay.hd; assumption) | rw [hset_ne _ _ (by omega)])) (by rfl) ?_
      refine n_iconst (pc := 31) 1 dX11_next0_31 (by decide) ?_
      refine n_iadd (pc := 32) dX11_next0_32 ?_
      refine e_put (pc := 33) pl_X11_160 dX11_next0_33 (by repeat (first | assumption | exact hset_eq _ _ _ | (apply Lay.hd; assumption) | rw [hset_ne _ _ (by omega)])) (by rfl) (by rfl) (by exact Nat.le_of_ble_eq_true rfl) ?_
      refine e_heap (hset_hset H m _ _) ?_
      refine e_goto (pc := 36) (tgt := 0) dX11_next0_36 (by decide) ?_
      exact ih (i + 1) (by omega) (by omega) kk
    refine e_aload_n (pc := 0) dX11_next0_0 rfl rfl ?_
    refine e_aload_n (pc := 1) dX11_next0_1 rfl rfl ?_
    refine e_get (pc := 2) fl_X11_160 dX11_next0_2 (by repeat (first | assumption | exact hset_eq _ _ _ | (apply Lay.hd; assumption) | rw [hset_ne _ _ (by omega)])) (by rfl) ?_
    refine n_VP (pc := 5) (c_X11_see hM hT.hm hl (show i < 2 ^ 31 by omega)) bX11_see q_i_X11_see q_s_X11_see q_m_X11_188 dX11_next0_5 rfl rfl (by repeat (first | assumption | exact hset_eq _ _ _ | (apply Lay.hd; assumption) | rw [hset_ne _ _ (by omega)])) rfl rfl (by exact Nat.le_of_ble_eq_true rfl) ⟨by decide, by decide⟩ ⟨rfl, rfl, Nat.zero_le _, Nat.zero_le _⟩ ?_
    rw [seeV_lt hi]
    refine n_bipush (pc := 8) 32 dX11_next0_8 (by decide) ?_
    refine n_icmp_eq (pc := 10) (tgt := 26) dX11_next0_10 (by decide) (by omega) (by omega) (fun c => ?_) (fun c => ?_)
    · exact go (decide_eq_true (Or.inl c))
    · refine e_aload_n (pc := 13) dX11_next0_13 rfl rfl ?_
      refine e_aload_n (pc := 14) dX11_next0_14 rfl rfl ?_
      refine e_get (pc := 15) fl_X11_160 dX11_next0_15 (by repeat (first | assumption | exact hset_eq _ _ _ | (apply Lay.hd; assumption) | rw [hset_ne _ _ (by omega)])) (by rfl) ?_
      refine n_VP (pc := 18) (c_X11_see hM hT.hm hl (show i < 2 ^ 31 by omega)) bX11_see q_i_X11_see q_s_X11_see q_m_X11_188 dX11_next0_18 rfl rfl (by repeat (first | assumption | exact hset_eq _ _ _ | (apply Lay.hd; assumption) | rw [hset_ne _ _ (by omega)])) rfl rfl (by exact Nat.le_of_ble_eq_true rfl) ⟨by decide, by decide⟩ ⟨rfl, rfl, Nat.zero_le _, Nat.zero_le _⟩ ?_
      rw [seeV_lt hi]
      refine n_bipush (pc := 21) 10 dX11_next0_21 (by decide) ?_
      refine n_icmp_ne (pc := 23) (tgt := 39) dX11_next0_23 (by decide) (by omega) (by omega) (fun c2 => ?_) (fun c2 => ?_)
      · rw [run_no (decide_eq_false (fun z => z.elim c c2))] at kk
        exact kk
      · exact go (decide_eq_true (Or.inr c2))
theorem l_nx_l {t b v : Nat} {x1 : Option Value} {Pr : AH → Prop} (hT : TpM H m f len) (hl : s.2.1 = len) :
    ∀ (k i : Nat), k = len - i → i ≤ len → VV MX11_next0 sz Pr (hset H m (oM m p n q (s.tk (run f len letB i) t b v))) 103 [some (.ref m), x1] [] → VV MX11_next0 sz Pr (hset H m (oM m p n q (s.tk i t b v))) 76 [some (.ref m), x1] [] := by
  obtain ⟨l6, g, g1, g2⟩ := id hT
  intro k
  induction k with
  | zero =>
    intro i e1 e2 kk
    have hM : MH (hset H m (oM m p n q (s.tk i t b v))) m p n q (s.tk i t b v) := hset_eq _ _ _
    rw [run_end (by omega)] at kk
    refine e_aload_n (pc := 76) dX11_next0_76 rfl rfl ?_
    refine e_aload_n (pc := 77) dX11_next0_77 rfl rfl ?_
    refine e_get (pc := 78) fl_X11_160 dX11_next0_78 (by repeat (first | assumption | exact hset_eq _ _ _ | (apply Lay.hd; assumption) | rw [hset_ne _ _ (by omega)])) (by rfl) ?_
    refine n_VP (pc := 81) (c_X11_see hM hT.hm hl (show i < 2 ^ 31 by omega)) bX11_see q_i_X11_see q_s_X11_see q_m_X11_188 dX11_next0_81 rfl rfl (by repeat (first | assumption | exact hset_eq _ _ _ | (apply Lay.hd; assumption) | rw [hset_ne _ _ (by omega)])) rfl rfl (by exact Nat.le_of_ble_eq_true rfl) ⟨by decide, by decide⟩ ⟨rfl, rfl, Nat.zero_le _, Nat.zero_le _⟩ ?_
    rw [seeV_ge (by omega)]
    refine n_SP (pc := 84) (c_X11_isLetter (-1)) bX11_isLetter q_st_X11_isLetter q_m_X11_195 dX11_next0_84 rfl rfl (by exact Nat.le_of_ble_eq_true rfl) ⟨by decide, by decide⟩ ⟨rfl, rfl, Nat.zero_le _, Nat.zero_le _⟩ ?_
    rw [letV_1]
    refine n_bif_eq (pc := 87) (tgt := 103) dX11_next0_87 (by decide) (fun c => ?_) (fun c => ?_)
    · exact kk
    · cases c
  | succ k ih =>
    intro i e1 e2 kk
    have hi : i < len := by omega
    obtain ⟨-, z⟩ := g2 i hi
    have hM : MH (hset H m (oM m p n q (s.tk i t b v))) m p n q (s.tk i t b v) := hset_eq _ _ _
    refine e_aload_n (pc := 76) dX11_next0_76 rfl rfl ?_
    refine e_aload_n (pc := 77) dX11_next0_77 rfl rfl ?_
    refine e_get (pc := 78) fl_X11_160 dX11_next0_78 (by repeat (first | assumption | exact hset_eq _ _ _ | (apply Lay.hd; assumption) | rw [hset_ne _ _ (by omega)])) (by rfl) ?_
    refine n_VP (pc := 81) (c_X11_see hM hT.hm hl (show i < 2 ^ 31 by omega)) bX11_see q_i_X11_see q_s_X11_see q_m_X11_188 dX11_next0_81 rfl rfl (by repeat (first | assumption | exact hset_eq _ _ _ | (apply Lay.hd; assumption) | rw [hset_ne _ _ (by omega)])) rfl rfl (by exact Nat.le_of_ble_eq_true rfl) ⟨by decide, by decide⟩ ⟨rfl, rfl, Nat.zero_le _, Nat.zero_le _⟩ ?_
    rw [seeV_lt hi]
    refine n_SP (pc := 84) (c_X11_isLetter (nI (f i))) bX11_isLetter q_st_X11_isLetter q_m_X11_195 dX11_next0_84 rfl rfl (by exact Nat.le_of_ble_eq_true rfl) ⟨by decide, by decide⟩ ⟨rfl, rfl, Nat.zero_le _, Nat.zero_le _⟩ ?_
    rw [letV_nat (by omega)]
    refine n_bif_eq (pc := 87) (tgt := 103) dX11_next0_87 (by decide) (fun c => ?_) (fun c => ?_)
    · rw [run_no c] at kk
      exact kk
    · rw [run_go hi c] at kk
      refine e_aload_n (pc := 90) dX11_next0_90 rfl rfl ?_
      refine e_dup (pc := 91) dX11_next0_91 rfl ?_
      refine e_get (pc := 92) fl_X11_160 dX11_next0_92 (by repeat (first | assumption | exact hset_eq _ _ _ | (apply Lay.hd; assumption) | rw [hset_ne _ _ (by omega)])) (by rfl) ?_
      refine n_iconst (pc := 95) 1 dX11_next0_95 (by decide) ?_
      refine n_iadd (pc := 96) dX11_next0_96 ?_
      refine e_put (pc := 97) pl_X11_160 dX11_next0_97 (by repeat (first | assumption | exact hset_eq _ _ _ | (apply Lay.hd; assumption) | rw [hset_ne _ _ (by omega)])) (by rfl) (by rfl) (by exact Nat.le_of_ble_eq_true rfl) ?_
      refine e_heap (hset_hset H m _ _) ?_
      refine e_goto (pc := 100) (tgt := 76) dX11_next0_100 (by decide) ?_
      exact ih (i + 1) (by omega) (by omega) kk
theorem l_nx_d {t a : Nat} {x1 : Option Value} {Pr : AH → Prop} (hT : TpM H m f len) (hl : s.2.1 = len) (kk : VV MX11_next0 sz Pr (hset H m (oM m p n q (s.tk (run f len digB a) t a (dv f a (min 4 (run f len digB a - a)))))) 189 [some (.ref m), x1] []) :
    ∀ (k i : Nat), k = len - i → a ≤ i → i ≤ len → run f len digB i = run f len digB a → VV MX11_next0 sz Pr (hset H m (oM m p n q (s.tk i t a (dv f a (min 4 (i - a)))))) 126 [some (.ref m), x1] [] := by
  obtain ⟨l6, g, g1, g2⟩ := id hT
  intro k
  induction k with
  | zero =>
    intro i e1 e0 e2 er
    have hM : MH (hset H m (oM m p n q (s.tk i t a (dv f a (min 4 (i - a)))))) m p n q (s.tk i t a (dv f a (min 4 (i - a)))) := hset_eq _ _ _
    rw [run_end (by omega)] at er
    rw [← er] at kk
    refine e_aload_n (pc := 126) dX11_next0_126 rfl rfl ?_
    refine e_aload_n (pc := 127) dX11_next0_127 rfl rfl ?_
    refine e_get (pc := 128) fl_X11_160 dX11_next0_128 (by repeat (first | assumption | exact hset_eq _ _ _ | (apply Lay.hd; assumption) | rw [hset_ne _ _ (by omega)])) (by rfl) ?_
    refine n_VP (pc := 131) (c_X11_see hM hT.hm hl (show i < 2 ^ 31 by omega)) bX11_see q_i_X11_see q_s_X11_see q_m_X11_188 dX11_next0_131 rfl rfl (by repeat (first | assumption | exact hset_eq _ _ _ | (apply Lay.hd; assumption) | rw [hset_ne _ _ (by omega)])) rfl rfl (by exact Nat.le_of_ble_eq_true rfl) ⟨by decide, by decide⟩ ⟨rfl, rfl, Nat.zero_le _, Nat.zero_le _⟩ ?_
    rw [seeV_ge (by omega)]
    refine n_SP (pc := 134) (c_X11_isDigit (-1)) bX11_isDigit q_st_X11_isDigit q_m_X11_201 dX11_next0_134 rfl rfl (by exact Nat.le_of_ble_eq_true rfl) ⟨by decide, by decide⟩ ⟨rfl, rfl, Nat.zero_le _, Nat.zero_le _⟩ ?_
    rw [digV_1]
    refine n_bif_eq (pc := 137) (tgt := 189) dX11_next0_137 (by decide) (fun c => ?_) (fun c => ?_)
    · exact kk
    · cases c
  | succ k ih =>
    intro i e1 e0 e2 er
    have hi : i < len := by omega
    obtain ⟨-, z⟩ := g2 i hi
    have hM : MH (hset H m (oM m p n q (s.tk i t a (dv f a (min 4 (i - a)))))) m p n q (s.tk i t a (dv f a (min 4 (i - a)))) := hset_eq _ _ _
    refine e_aload_n (pc := 126) dX11_next0_126 rfl rfl ?_
    refine e_aload_n (pc := 127) dX11_next0_127 rfl rfl ?_
    refine e_get (pc := 128) fl_X11_160 dX11_next0_128 (by repeat (first | assumption | exact hset_eq _ _ _ | (apply Lay.hd; assumption) | rw [hset_ne _ _ (by omega)])) (by rfl) ?_
    refine n_VP (pc := 131) (c_X11_see hM hT.hm hl (show i < 2 ^ 31 by omega)) bX11_see q_i_X11_see q_s_X11_see q_m_X11_188 dX11_next0_131 rfl rfl (by repeat (first | assumption | exact hset_eq _ _ _ | (apply Lay.hd; assumption) | rw [hset_ne _ _ (by omega)])) rfl rfl (by exact Nat.le_of_ble_eq_true rfl) ⟨by decide, by decide⟩ ⟨rfl, rfl, Nat.zero_le _, Nat.zero_le _⟩ ?_
    rw [seeV_lt hi]
    refine n_SP (pc := 134) (c_X11_isDigit (nI (f i))) bX11_isDigit q_st_X11_isDigit q_m_X11_201 dX11_next0_134 rfl rfl (by exact Nat.le_of_ble_eq_true rfl) ⟨by decide, by decide⟩ ⟨rfl, rfl, Nat.zero_le _, Nat.zero_le _⟩ ?_
    rw [digV_nat (by omega)]
    refine n_bif_eq (pc := 137) (tgt := 189) dX11_next0_137 (by decide) (fun c => ?_) (fun c => ?_)
    · rw [run_no c] at er
      rw [← er] at kk
      exact kk
    · have hd : 48 ≤ f i ∧ f i ≤ 57 := of_decide_eq_true c
      rw [run_go hi c] at er
      have nx := ih (i + 1) (by omega) (by omega) (by omega) er
      refine e_aload_n (pc := 140) dX11_next0_140 rfl rfl ?_
      refine e_get (pc := 141) fl_X11_160 dX11_next0_141 (by repeat (first | assumption | exact hset_eq _ _ _ | (apply Lay.hd; assumption) | rw [hset_ne _ _ (by omega)])) (show _ = some (.int (nI i)) from rfl) ?_
      refine e_aload_n (pc := 144) dX11_next0_144 rfl rfl ?_
      refine e_get (pc := 145) fl_X11_163 dX11_next0_145 (by repeat (first | assumption | exact hset_eq _ _ _ | (apply Lay.hd; assumption) | rw [hset_ne _ _ (by omega)])) (show _ = some (.int (nI a)) from rfl) ?_
      refine n_iconst (pc := 148) 4 dX11_next0_148 (by decide) ?_
      refine n_iadd (pc := 149) dX11_next0_149 ?_
      refine n_icmp_ge (pc := 150) (tgt := 176) dX11_next0_150 (by decide) (by omega) (by omega) (fun c4 => ?_) (fun c4 => ?_)
      · rw [show min 4 (i + 1 - a) = min 4 (i - a) by omega] at nx
        refine e_aload_n (pc := 176) dX11_next0_176 rfl rfl ?_
        refine e_dup (pc := 177) dX11_next0_177 rfl ?_
        refine e_get (pc := 178) fl_X11_160 dX11_next0_178 (by repeat (first | assumption | exact hset_eq _ _ _ | (apply Lay.hd; assumption) | rw [hset_ne _ _ (by omega)])) (by rfl) ?_
        refine n_iconst (pc := 181) 1 dX11_next0_181 (by decide) ?_
        refine n_iadd (pc := 182) dX11_next0_182 ?_
        refine e_put (pc := 183) pl_X11_160 dX11_next0_183 (by repeat (first | assumption | exact hset_eq _ _ _ | (apply Lay.hd; assumption) | rw [hset_ne _ _ (by omega)])) (by rfl) (by rfl) (by exact Nat.le_of_ble_eq_true rfl) ?_
        refine e_heap (hset_hset H m _ _) ?_
        refine e_goto (pc := 186) (tgt := 126) dX11_next0_186 (by decide) ?_
        exact nx
      · rw [show min 4 (i + 1 - a) = (i - a) + 1 by omega] at nx
        rw [show min 4 (i - a) = i - a by omega] at hM ⊢
        have ev : dv f a ((i - a) + 1) = 10 * dv f a (i - a) + f i - 48 := by
          show 10 * dv f a (i - a) + (f (a + (i - a)) - 48) = _
          rw [show a + (i - a) = i by omega]
          omega
        rw [ev] at nx
        refine e_aload_n (pc := 153) dX11_next0_153 rfl rfl ?_
        refine n_bipush (pc := 154) 10 dX11_next0_154 (by decide) ?_
        refine e_aload_n (pc := 156) dX11_next0_156 rfl rfl ?_
        refine e_get (pc := 157) fl_X11_204 dX11_next0_157 (by repeat (first | assumption | exact hset_eq _ _ _ | (apply Lay.hd; assumption) | rw [hset_ne _ _ (by omega)])) (by rfl) ?_
        refine n_imul (pc := 160) dX11_next0_160 ?_
        refine e_aload_n (pc := 161) dX11_next0_161 rfl rfl ?_
        refine e_aload_n (pc := 162) dX11_next0_162 rfl rfl ?_
        refine e_get (pc := 163) fl_X11_160 dX11_next0_163 (by repeat (first | assumption | exact hset_eq _ _ _ | (apply Lay.hd; assumption) | rw [hset_ne _ _ (by omega)])) (by rfl) ?_
        refine n_VP (pc := 166) (c_X11_see hM hT.hm hl (show i < 2 ^ 31 by omega)) bX11_see q_i_X11_see q_s_X11_see q_m_X11_188 dX11_next0_166 rfl rfl (by repeat (first | assumption | exact hset_eq _ _ _ | (apply Lay.hd; assumption) | rw [hset_ne _ _ (by omega)])) rfl rfl (by exact Nat.le_of_ble_eq_true rfl) ⟨by decide, by decide⟩ ⟨rfl, rfl, Nat.zero_le _, Nat.zero_le _⟩ ?_
        rw [seeV_lt hi]
        refine n_iadd (pc := 169) dX11_next0_169 ?_
        refine n_bipush (pc := 170) 48 dX11_next0_170 (by decide) ?_
        refine n_isub (pc := 172) dX11_next0_172 (by omega) ?_
        refine e_put (pc := 173) pl_X11_204 dX11_next0_173 (by repeat (first | assumption | exact hset_eq _ _ _ | (apply Lay.hd; assumption) | rw [hset_ne _ _ (by omega)])) (by rfl) (by rfl) (by exact Nat.le_of_ble_eq_true rfl) ?_
        refine e_heap (hset_hset H m _ _) ?_
        refine e_aload_n (pc := 176) dX11_next0_176 rfl rfl ?_
        refine e_dup (pc := 177) dX11_next0_177 rfl ?_
        refine e_get (pc := 178) fl_X11_160 dX11_next0_178 (by repeat (first | assumption | exact hset_eq _ _ _ | (apply Lay.hd; assumption) | rw [hset_ne _ _ (by omega)])) (by rfl) ?_
        refine n_iconst (pc := 181) 1 dX11_next0_181 (by decide) ?_
        refine n_iadd (pc := 182) dX11_next0_182 ?_
        refine e_put (pc := 183) pl_X11_160 dX11_next0_183 (by repeat (first | assumption | exact hset_eq _ _ _ | (apply Lay.hd; assumption) | rw [hset_ne _ _ (by omega)])) (by rfl) (by rfl) (by exact Nat.le_of_ble_eq_true rfl) ?_
        refine e_heap (hset_hset H m _ _) ?_
        refine e_goto (pc := 186) (tgt := 126) dX11_next0_186 (by decide) ?_
        exact nx
theorem c_X11_next0 {h : AH} {e : Nat} (hM : MH h m p n q s) (hT : TpM h m f len) (hl : s.2.1 = len) (hat : s.2.2.1 = e) (he : e ≤ len) : CV yX11_next0 MX11_next0 [.ref m] h (fun h' => ∃ v, h' = hset h m (oM m p n q (s.tk (tE f len e) (tK f len e) (tS f len e) v)) ∧ (tC f len e = 2 → v = tV f len e)) := by
  obtain ⟨l6, g, g1, g2⟩ := id hT
  have tb := tE_b (f := f) he
  refine CV.ofV (by decide) rfl rfl (by simp [Value.category]) (by exact Nat.le_of_ble_eq_true rfl) (fun sz => ?_)
  refine e_heap (hset_self (show h m = some (oM m p n q s) from hM)).symm ?_
  subst hat
  refine l_nx_b (t := s.2.2.2.1) (b := s.2.2.2.2.1) (v := s.2.2.2.2.2.1) hT hl (len - s.2.2.1) s.2.2.1 rfl he ?_
  show VV MX11_next0 sz _ (hset h m (oM m p n q (s.tk (tS f len s.2.2.1) s.2.2.2.1 s.2.2.2.2.1 s.2.2.2.2.2.1))) 39 [some (.ref m), none] []
  generalize hE : tE f len s.2.2.1 = E at *
  generalize hK : tK f len s.2.2.1 = K at *
  have hS2 : tS f len s.2.2.1 = tS f len s.2.2.1 := rfl
  generalize hS : tS f len s.2.2.1 = a at *
  unfold tE at hE
  unfold tK at hK
  rw [hS] at hE hK
  refine e_aload_n (pc := 39) dX11_next0_39 rfl rfl ?_
  refine e_aload_n (pc := 40) dX11_next0_40 rfl rfl ?_
  refine e_get (pc := 41) fl_X11_160 dX11_next0_41 (by repeat (first | assumption | exact hset_eq _ _ _ | (apply Lay.hd; assumption) | rw [hset_ne _ _ (by omega)])) (by rfl) ?_
  refine e_put (pc := 44) pl_X11_163 dX11_next0_44 (by repeat (first | assumption | exact hset_eq _ _ _ | (apply Lay.hd; assumption) | rw [hset_ne _ _ (by omega)])) (by rfl) (by rfl) (by exact Nat.le_of_ble_eq_true rfl) ?_
  refine e_heap (hset_hset h m _ _) ?_
  have hM1 : MH (hset h m (oM m p n q (s.tk a s.2.2.2.1 a s.2.2.2.2.2.1))) m p n q (s.tk a s.2.2.2.1 a s.2.2.2.2.2.1) := hset_eq _ _ _
  refine e_aload_n (pc := 47) dX11_next0_47 rfl rfl ?_
  refine e_aload_n (pc := 48) dX11_next0_48 rfl rfl ?_
  refine e_get (pc := 49) fl_X11_160 dX11_next0_49 (by repeat (first | assumption | exact hset_eq _ _ _ | (apply Lay.hd; assumption) | rw [hset_ne _ _ (by omega)])) (by rfl) ?_
  refine n_VP (pc := 52) (c_X11_see hM1 hT.hm hl (show a < 2 ^ 31 by omega)) bX11_see q_i_X11_see q_s_X11_see q_m_X11_188 dX11_next0_52 rfl rfl (by repeat (first | assumption | exact hset_eq _ _ _ | (apply Lay.hd; assumption) | rw [hset_ne _ _ (by omega)])) rfl rfl (by exact Nat.le_of_ble_eq_true rfl) ⟨by decide, by decide⟩ ⟨rfl, rfl, Nat.zero_le _, Nat.zero_le _⟩ ?_
  refine e_istore_n (pc := 55) dX11_next0_55 rfl (by decide) ?_
  refine e_iload_n (pc := 56) dX11_next0_56 rfl rfl ?_
  refine e_iconst (pc := 57) (v := -1) dX11_next0_57 (by decide) ?_
  by_cases ha : len ≤ a
  · have c0 : tC f len s.2.2.1 = 0 := by unfold tC; rw [hS, if_pos ha]
    rw [seeV_ge ha]
    refine e_icmp_ne (pc := 58) (tgt := 69) dX11_next0_58 (by decide) (fun q => absurd rfl q) (fun _ => ?_)
    refine e_aload_n (pc := 61) dX11_next0_61 rfl rfl ?_
    refine n_iconst (pc := 62) 0 dX11_next0_62 (by decide) ?_
    refine e_put (pc := 63) pl_X11_192 dX11_next0_63 (by repeat (first | assumption | exact hset_eq _ _ _ | (apply Lay.hd; assumption) | rw [hset_ne _ _ (by omega)])) (by rfl) (by rfl) (by exact Nat.le_of_ble_eq_true rfl) ?_
    refine e_heap (hset_hset h m _ _) ?_
    refine e_goto (pc := 66) (tgt := 239) dX11_next0_66 (by decide) ?_
    rw [if_pos ha] at hE
    rw [c0, if_neg (by decide), if_neg (by decide)] at hK
    subst hE
    subst hK
    exact n_vret (pc := 239) dX11_next0_239 rfl ⟨_, rfl, fun q => by rw [c0] at q; cases q⟩
  · have hi : a < len := by omega
    obtain ⟨-, z⟩ := g2 a hi
    rw [seeV_lt hi]
    rw [if_neg ha] at hE
    refine e_icmp_ne (pc := 58) (tgt := 69) dX11_next0_58 (by decide) (fun _ => ?_) (fun q => absurd q (nI_ne (by omega)))
    refine e_iload_n (pc := 69) dX11_next0_69 rfl rfl ?_
    refine n_SP (pc := 70) (c_X11_isLetter (nI (f a))) bX11_isLetter q_st_X11_isLetter q_m_X11_195 dX11_next0_70 rfl rfl (by exact Nat.le_of_ble_eq_true rfl) ⟨by decide, by decide⟩ ⟨rfl, rfl, Nat.zero_le _, Nat.zero_le _⟩ ?_
    rw [letV_nat (by omega)]
    refine n_bif_eq (pc := 73) (tgt := 114) dX11_next0_73 (by decide) (fun cl => ?_) (fun cl => ?_)
    rotate_left
    · rw [if_pos cl] at hE
      have c0 : tC f len s.2.2.1 = 1 := by unfold tC; rw [hS, if_neg ha, if_pos cl]
      rw [if_pos c0] at hK
      have rb := run_b (f := f) (P := letB) (show a ≤ len by omega)
      refine l_nx_l (s := s) (p := p) (n := n) (q := q) (t := s.2.2.2.1) (b := a) (v := s.2.2.2.2.2.1) (x1 := some (.int (nI (f a)))) hT hl (len - a) a rfl (by omega) ?_
      rw [hE] at rb ⊢
      have hM2 : MH (hset h m (oM m p n q (s.tk E s.2.2.2.1 a s.2.2.2.2.2.1))) m p n q (s.tk E s.2.2.2.1 a s.2.2.2.2.2.1) := hset_eq _ _ _
      refine e_aload_n (pc := 103) dX11_next0_103 rfl rfl ?_
      refine e_aload_n (pc := 104) dX11_next0_104 rfl rfl ?_
      refine n_VP (pc := 105) (c_X11_word (e := E) hM2 hT.hm rfl rb.1 rb.2) bX11_word q_i_X11_word q_s_X11_word q_m_X11_198 dX11_next0_105 rfl rfl (by repeat (first | assumption | exact hset_eq _ _ _ | (apply Lay.hd; assumption) | rw [hset_ne _ _ (by omega)])) rfl rfl (by exact Nat.le_of_ble_eq_true rfl) ⟨by decide, by decide⟩ ⟨rfl, rfl, Nat.zero_le _, Nat.zero_le _⟩ ?_
      refine e_put (pc := 108) pl_X11_192 dX11_next0_108 (by repeat (first | assumption | exact hset_eq _ _ _ | (apply Lay.hd; assumption) | rw [hset_ne _ _ (by omega)])) (by rfl) (by rfl) (by exact Nat.le_of_ble_eq_true rfl) ?_
      refine e_heap (hset_hset h m _ _) ?_
      refine e_goto (pc := 111) (tgt := 239) dX11_next0_111 (by decide) ?_
      have eK : wdV f a E = K := by
        rw [← hK]
        unfold wdV
        have : tE f len s.2.2.1 = E := by unfold tE; rw [hS, if_neg ha, if_pos cl]; exact hE
        rw [this]
      rw [show (s.tk E s.2.2.2.1 a s.2.2.2.2.2.1).2.2.2.2.1 = a from rfl, eK]
      exact n_vret (pc := 239) dX11_next0_239 rfl ⟨_, rfl, fun q => by rw [c0] at q; cases q⟩
    · have cl' : ¬ letB (f a) = true := by rw [cl]; decide
      rw [if_neg cl'] at hE
      refine e_iload_n (pc := 114) dX11_next0_114 rfl rfl ?_
      refine n_SP (pc := 115) (c_X11_isDigit (nI (f a))) bX11_isDigit q_st_X11_isDigit q_m_X11_201 dX11_next0_115 rfl rfl (by exact Nat.le_of_ble_eq_true rfl) ⟨by decide, by decide⟩ ⟨rfl, rfl, Nat.zero_le _, Nat.zero_le _⟩ ?_
      rw [digV_nat (by omega)]
      refine n_bif_eq (pc := 118) (tgt := 214) dX11_next0_118 (by decide) (fun cd => ?_) (fun cd => ?_)
      rotate_left
      · rw [if_pos cd] at hE
        have rb := run_b (f := f) (P := digB) (show a ≤ len by omega)
        have c0 : tC f len s.2.2.1 = if run f len digB a - a ≤ 4 then 2 else 4 := by unfold tC; rw [hS, if_neg ha, if_neg cl', if_pos cd]
        have kv : K = if run f len digB a - a ≤ 4 then 2 else 1 := by
          rw [← hK]
          by_cases c4 : run f len digB a - a ≤ 4
          · rw [if_pos c4] at c0 ⊢
            rw [c0, if_neg (by decide), if_neg (by decide)]
          · rw [if_neg c4] at c0 ⊢
            rw [c0, if_neg (by decide), if_pos rfl]
        have vv : tV f len s.2.2.1 = dv f a (min 4 (run f len digB a - a)) := by unfold tV; rw [hS]
        refine e_aload_n (pc := 121) dX11_next0_121 rfl rfl ?_
        refine n_iconst (pc := 122) 0 dX11_next0_122 (by decide) ?_
        refine e_put (pc := 123) pl_X11_204 dX11_next0_123 (by repeat (first | assumption | exact hset_eq _ _ _ | (apply Lay.hd; assumption) | rw [hset_ne _ _ (by omega)])) (by rfl) (by rfl) (by exact Nat.le_of_ble_eq_true rfl) ?_
        refine e_heap (hset_hset h m _ _) ?_
        have st := l_nx_d (H := h) (m := m) (p := p) (n := n) (q := q) (s := s) (f := f) (len := len) (sz := sz) (t := s.2.2.2.1) (a := a) (x1 := some (.int (nI (f a)))) (Pr := fun h' => ∃ v, h' = hset h m (oM m p n q (s.tk E K a v)) ∧ (tC f len s.2.2.1 = 2 → v = tV f len s.2.2.1)) hT hl ?_ (len - a) a rfl (Nat.le_refl _) (by omega) rfl
        · rw [show min 4 (a - a) = 0 by omega] at st
          exact st
        · have ra : a ≤ run f len digB a := rb.1
          refine e_aload_n (pc := 189) dX11_next0_189 rfl rfl ?_
          refine e_aload_n (pc := 190) dX11_next0_190 rfl rfl ?_
          refine e_get (pc := 191) fl_X11_160 dX11_next0_191 (by repeat (first | assumption | exact hset_eq _ _ _ | (apply Lay.hd; assumption) | rw [hset_ne _ _ (by omega)])) (show _ = some (.int (nI (run f len digB a))) from rfl) ?_
          refine e_aload_n (pc := 194) dX11_next0_194 rfl rfl ?_
          refine e_get (pc := 195) fl_X11_163 dX11_next0_195 (by repeat (first | assumption | exact hset_eq _ _ _ | (apply Lay.hd; assumption) | rw [hset_ne _ _ (by omega)])) (show _ = some (.int (nI a)) from rfl) ?_
          refine n_isub (pc := 198) dX11_next0_198 (by omega) ?_
          refine n_iconst (pc := 199) 5 dX11_next0_199 (by decide) ?_
          refine n_icmp_ge (pc := 200) (tgt := 207) dX11_next0_200 (by decide) (by omega) (by omega) (fun c5 => ?_) (fun c5 => ?_)
          · rw [if_neg (by omega)] at kv
            refine n_iconst (pc := 207) 1 dX11_next0_207 (by decide) ?_
            refine e_put (pc := 208) pl_X11_192 dX11_next0_208 (by repeat (first | assumption | exact hset_eq _ _ _ | (apply Lay.hd; assumption) | rw [hset_ne _ _ (by omega)])) (by rfl) (by rfl) (by exact Nat.le_of_ble_eq_true rfl) ?_
            refine e_heap (hset_hset h m _ _) ?_
            refine e_goto (pc := 211) (tgt := 239) dX11_next0_211 (by decide) ?_
            refine n_vret (pc := 239) dX11_next0_239 rfl ⟨_, ?_, fun _ => vv.symm⟩
            rw [kv, ← hE]
            rfl
          · rw [if_pos (by omega)] at kv
            refine n_iconst (pc := 203) 2 dX11_next0_203 (by decide) ?_
            refine e_goto (pc := 204) (tgt := 208) dX11_next0_204 (by decide) ?_
            refine e_put (pc := 208) pl_X11_192 dX11_next0_208 (by repeat (first | assumption | exact hset_eq _ _ _ | (apply Lay.hd; assumption) | rw [hset_ne _ _ (by omega)])) (by rfl) (by rfl) (by exact Nat.le_of_ble_eq_true rfl) ?_
            refine e_heap (hset_hset h m _ _) ?_
            refine e_goto (pc := 211) (tgt := 239) dX11_next0_211 (by decide) ?_
            refine n_vret (pc := 239) dX11_next0_239 rfl ⟨_, ?_, fun _ => vv.symm⟩
            rw [kv, ← hE]
            rfl
      · have cd' : ¬ digB (f a) = true := by rw [cd]; decide
        rw [if_neg cd'] at hE
        subst hE
        refine e_aload_n (pc := 214) dX11_next0_214 rfl rfl ?_
        refine e_dup (pc := 215) dX11_next0_215 rfl ?_
        refine e_get (pc := 216) fl_X11_160 dX11_next0_216 (by repeat (first | assumption | exact hset_eq _ _ _ | (apply Lay.hd; assumption) | rw [hset_ne _ _ (by omega)])) (by rfl) ?_
        refine n_iconst (pc := 219) 1 dX11_next0_219 (by decide) ?_
        refine n_iadd (pc := 220) dX11_next0_220 ?_
        refine e_put (pc := 221) pl_X11_160 dX11_next0_221 (by repeat (first | assumption | exact hset_eq _ _ _ | (apply Lay.hd; assumption) | rw [hset_ne _ _ (by omega)])) (by rfl) (by rfl) (by exact Nat.le_of_ble_eq_true rfl) ?_
        refine e_heap (hset_hset h m _ _) ?_
        refine e_aload_n (pc := 224) dX11_next0_224 rfl rfl ?_
        refine e_iload_n (pc := 225) dX11_next0_225 rfl rfl ?_
        refine n_bipush (pc := 226) 59 dX11_next0_226 (by decide) ?_
        refine n_icmp_ne (pc := 228) (tgt := 235) dX11_next0_228 (by decide) (by omega) (by omega) (fun c59 => ?_) (fun c59 => ?_)
        · have c0 : tC f len s.2.2.1 = 4 := by unfold tC; rw [hS, if_neg ha, if_neg cl', if_neg cd', if_neg c59]
          rw [c0, if_neg (by decide), if_pos rfl] at hK
          subst hK
          refine n_iconst (pc := 235) 1 dX11_next0_235 (by decide) ?_
          refine e_put (pc := 236) pl_X11_192 dX11_next0_236 (by repeat (first | assumption | exact hset_eq _ _ _ | (apply Lay.hd; assumption) | rw [hset_ne _ _ (by omega)])) (by rfl) (by rfl) (by exact Nat.le_of_ble_eq_true rfl) ?_
          refine e_heap (hset_hset h m _ _) ?_
          exact n_vret (pc := 239) dX11_next0_239 rfl ⟨_, rfl, fun q => by rw [c0] at q; cases q⟩
        · have c0 : tC f len s.2.2.1 = 3 := by unfold tC; rw [hS, if_neg ha, if_neg cl', if_neg cd', if_pos c59]
          rw [c0, if_neg (by decide), if_neg (by decide)] at hK
          subst hK
          refine n_iconst (pc := 231) 3 dX11_next0_231 (by decide) ?_
          refine e_goto (pc := 232) (tgt := 236) dX11_next0_232 (by decide) ?_
          refine e_put (pc := 236) pl_X11_192 dX11_next0_236 (by repeat (first | assumption | exact hset_eq _ _ _ | (apply Lay.hd; assumption) | rw [hset_ne _ _ (by omega)])) (by rfl) (by rfl) (by exact Nat.le_of_ble_eq_true rfl) ?_
          refine e_heap (hset_hset h m _ _) ?_
          exact n_vret (pc := 239) dX11_next0_239 rfl ⟨_, rfl, fun q => by rw [c0] at q; cases q⟩
end NX
