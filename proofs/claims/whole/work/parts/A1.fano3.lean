/-! ===== the reference: the fano question ===== -/
section MFB
variable {h : AH} {m : Nat} {x y : Sx} {ik : Bool} {len : Nat} {f : Nat → Nat} {ft fp : Int32}
theorem c_X11_fano (hX : MAt h m x y ik len f ft fp) (hx : SxOk x) (w a b c d : Int32) : CI yX11_fano MX11_fano [.ref m, .int w, .int a, .int b, .int c, .int d] h (fun z h' => Q_fano x w a b c d z ∧ MAt h' m x y ik len f ft fp ∧ Er m (m + 107) h h') := by
  obtain ⟨⟨p, n, q, s, hM, hs⟩, hR, ⟨g, hw, hg⟩, -⟩ := id hX
  refine CI.ofV (by decide) rfl rfl (by simp [Value.category]) (by exact Nat.le_of_ble_eq_true rfl) (fun sz => ?_)
  refine e_iload_n (pc := 0) dX11_fano_0 rfl rfl ?_
  refine n_SP (pc := 1) (c_X11_isWorld w) bX11_isWorld q_st_X11_isWorld q_m_X11_143 dX11_fano_1 rfl rfl (by exact Nat.le_of_ble_eq_true rfl) ⟨by decide, by decide⟩ ⟨rfl, rfl, Nat.zero_le _, Nat.zero_le _⟩ ?_
  refine n_bif_ne (pc := 4) (tgt := 9) dX11_fano_4 (by decide) (fun cw => ?_) (fun cw => ?_)
  rotate_left
  · refine e_iconst (pc := 7) (v := -1) dX11_fano_7 (by decide) ?_
    exact n_iret (pc := 8) dX11_fano_8 rfl ⟨qF (by rw [cw]; rfl) rfl, hX, Er.rf _ _ _⟩
  obtain ⟨k, hk, rfl⟩ := okI_of (by decide) cw
  have wk := hx.1 k (by omega)
  obtain ⟨b1, b2, b3, b4, b5⟩ := wk.b
  have qq : (x.ws k).1 ^ (x.ws k).2.1 * (x.ws k).1 ^ (x.ws k).2.1 ≤ 243 * 243 := Nat.mul_le_mul b5 b5
  have hl : lastP (x.ws k) = (x.ws k).1 ^ (x.ws k).2.1 * (x.ws k).1 ^ (x.ws k).2.1 + (x.ws k).1 ^ (x.ws k).2.1 := rfl
  refine e_aload_n (pc := 9) dX11_fano_9 rfl rfl ?_
  refine e_iload_n (pc := 10) dX11_fano_10 rfl rfl ?_
  refine n_Vv (pc := 11) (c_X11_laysOut hM hR hw (hg.1 k hk) wk hk) bX11_laysOut q_i_X11_laysOut q_s_X11_laysOut q_m_X11_147 dX11_fano_11 rfl rfl (by repeat (first | assumption | exact hset_eq _ _ _ | (apply Lay.hd; assumption) | rw [hset_ne _ _ (by omega)])) rfl rfl (by exact Nat.le_of_ble_eq_true rfl) ⟨by decide, by decide⟩ ⟨rfl, rfl, Nat.zero_le _, Nat.zero_le _⟩ (fun h2 hp => ?_)
  obtain ⟨l2, -⟩ := id hp
  obtain ⟨hX2, q2⟩ := hX.laid (p := p) (n := n) (q := q) hs hp
  have fin : ∀ z h3, Lay h3 m (x.ws k) s → FmC m h2 h3 → (Div (x.ws k) → Fano (x.ws k) a b c d z) → (¬ Div (x.ws k) → z = -1) → Q_fano x (nI k) a b c d z ∧ MAt h3 m x y ik len f ft fp ∧ Er m (m + 107) h h3 := fun z h3 l3 f3 k1 k2 => by
    refine ⟨?_, hX2.re l3.1 hs l3.2.2 f3, (q2.tr f3).er⟩
    unfold Q_fano
    rw [wld_nI hk, ok6 hk, Bool.true_and]
    by_cases hD : Div (x.ws k)
    · rw [if_pos (bl_t hD)]; exact k1 hD
    · rw [if_neg (by rw [bl_f hD]; decide)]; exact k2 hD
  have no : (okI a (lastP (x.ws k) + 1) && okI b (lastP (x.ws k) + 1) && okI c (lastP (x.ws k) + 1) && okI d (lastP (x.ws k) + 1)) = false → ∀ (sz : Nat) (l : List (Option Value)), VI MX11_fano sz (fun z h' => Q_fano x (nI k) a b c d z ∧ MAt h' m x y ik len f ft fp ∧ Er m (m + 107) h h') h2 72 l [] := fun hq sz l => by
    refine e_iconst (pc := 72) (v := -1) dX11_fano_72 (by decide) ?_
    exact n_iret (pc := 73) dX11_fano_73 rfl (fin _ _ l2 (FmC.rf _ _) (fun _ => Or.inl ⟨hq, rfl⟩) (fun _ => rfl))
  refine e_aload_n (pc := 14) dX11_fano_14 rfl rfl ?_
  refine e_get (pc := 15) fl_X11_112 dX11_fano_15 (by repeat (first | assumption | exact hset_eq _ _ _ | (apply Lay.hd; assumption) | rw [hset_ne _ _ (by omega)])) (by rfl) ?_
  refine e_aload_n (pc := 18) dX11_fano_18 rfl rfl ?_
  refine e_get (pc := 19) fl_X11_112 dX11_fano_19 (by repeat (first | assumption | exact hset_eq _ _ _ | (apply Lay.hd; assumption) | rw [hset_ne _ _ (by omega)])) (by rfl) ?_
  refine n_imul (pc := 22) dX11_fano_22 ?_
  refine e_aload_n (pc := 23) dX11_fano_23 rfl rfl ?_
  refine e_get (pc := 24) fl_X11_112 dX11_fano_24 (by repeat (first | assumption | exact hset_eq _ _ _ | (apply Lay.hd; assumption) | rw [hset_ne _ _ (by omega)])) (by rfl) ?_
  refine n_iadd (pc := 27) dX11_fano_27 ?_
  refine e_istore (pc := 28) dX11_fano_28 (by decide) ?_
  rw [← hl]
  refine e_iload_n (pc := 30) dX11_fano_30 rfl rfl ?_
  refine n_iconst (pc := 31) 0 dX11_fano_31 (by decide) ?_
  refine e_iload (pc := 32) dX11_fano_32 rfl ?_
  refine n_SP (pc := 34) (c_X11_isIn a (nI 0) (nI (lastP (x.ws k)))) bX11_isIn q_st_X11_isIn q_m_X11_98 dX11_fano_34 rfl rfl (by exact Nat.le_of_ble_eq_true rfl) ⟨by decide, by decide⟩ ⟨rfl, rfl, Nat.zero_le _, Nat.zero_le _⟩ ?_
  rw [inB_ok (by omega)]
  refine n_bif_eq (pc := 37) (tgt := 72) dX11_fano_37 (by decide) (fun ca => ?_) (fun ca => ?_)
  · exact no (by rw [ca]; rfl) sz _
  refine e_iload_n (pc := 40) dX11_fano_40 rfl rfl ?_
  refine n_iconst (pc := 41) 0 dX11_fano_41 (by decide) ?_
  refine e_iload (pc := 42) dX11_fano_42 rfl ?_
  refine n_SP (pc := 44) (c_X11_isIn b (nI 0) (nI (lastP (x.ws k)))) bX11_isIn q_st_X11_isIn q_m_X11_98 dX11_fano_44 rfl rfl (by exact Nat.le_of_ble_eq_true rfl) ⟨by decide, by decide⟩ ⟨rfl, rfl, Nat.zero_le _, Nat.zero_le _⟩ ?_
  rw [inB_ok (by omega)]
  refine n_bif_eq (pc := 47) (tgt := 72) dX11_fano_47 (by decide) (fun cb => ?_) (fun cb => ?_)
  · exact no (by rw [cb, Bool.and_false]; rfl) sz _
  refine e_iload (pc := 50) dX11_fano_50 rfl ?_
  refine n_iconst (pc := 52) 0 dX11_fano_52 (by decide) ?_
  refine e_iload (pc := 53) dX11_fano_53 rfl ?_
  refine n_SP (pc := 55) (c_X11_isIn c (nI 0) (nI (lastP (x.ws k)))) bX11_isIn q_st_X11_isIn q_m_X11_98 dX11_fano_55 rfl rfl (by exact Nat.le_of_ble_eq_true rfl) ⟨by decide, by decide⟩ ⟨rfl, rfl, Nat.zero_le _, Nat.zero_le _⟩ ?_
  rw [inB_ok (by omega)]
  refine n_bif_eq (pc := 58) (tgt := 72) dX11_fano_58 (by decide) (fun cc => ?_) (fun cc => ?_)
  · exact no (by rw [cc, Bool.and_false]; rfl) sz _
  refine e_iload (pc := 61) dX11_fano_61 rfl ?_
  refine n_iconst (pc := 63) 0 dX11_fano_63 (by decide) ?_
  refine e_iload (pc := 64) dX11_fano_64 rfl ?_
  refine n_SP (pc := 66) (c_X11_isIn d (nI 0) (nI (lastP (x.ws k)))) bX11_isIn q_st_X11_isIn q_m_X11_98 dX11_fano_66 rfl rfl (by exact Nat.le_of_ble_eq_true rfl) ⟨by decide, by decide⟩ ⟨rfl, rfl, Nat.zero_le _, Nat.zero_le _⟩ ?_
  rw [inB_ok (by omega)]
  refine n_bif_ne (pc := 69) (tgt := 74) dX11_fano_69 (by decide) (fun cd => ?_) (fun cd => no (by rw [cd, Bool.and_false]) sz _)
  obtain ⟨a', ha, rfl⟩ := okI_of (by omega) ca
  obtain ⟨b', hb, rfl⟩ := okI_of (by omega) cb
  obtain ⟨c', hc, rfl⟩ := okI_of (by omega) cc
  obtain ⟨d', hd, rfl⟩ := okI_of (by omega) cd
  have same : ∀ h3, Lay h3 m (x.ws k) s → FmC m h2 h3 → (¬ Quad (x.ws k) a' b' c' d' ∨ ¬ Div (x.ws k)) → ∀ (l : List (Option Value)), VI MX11_fano sz (fun z h' => Q_fano x (nI k) (nI a') (nI b') (nI c') (nI d') z ∧ MAt h' m x y ik len f ft fp ∧ Er m (m + 107) h h') h3 118 l [] := fun h3 l3 f3 nq l => by
    refine e_iconst (pc := 118) (v := -1) dX11_fano_118 (by decide) ?_
    exact n_iret (pc := 119) dX11_fano_119 rfl (fin _ _ l3 f3 (fun hD => Or.inr ⟨a', b', c', d', rfl, rfl, rfl, rfl, by omega, by omega, by omega, by omega, Or.inl ⟨nq.resolve_right (fun z => z hD), rfl⟩⟩) (fun _ => rfl))
  refine e_iload_n (pc := 74) dX11_fano_74 rfl rfl ?_
  refine e_iload_n (pc := 75) dX11_fano_75 rfl rfl ?_
  refine n_icmp_eq (pc := 76) (tgt := 118) dX11_fano_76 (by decide) (by omega) (by omega) (fun n1 => ?_) (fun n1 => ?_)
  · exact same h2 l2 (FmC.rf _ _) (Or.inl (fun q => q.1.1 n1)) _
  refine e_iload_n (pc := 79) dX11_fano_79 rfl rfl ?_
  refine e_iload (pc := 80) dX11_fano_80 rfl ?_
  refine n_icmp_eq (pc := 82) (tgt := 118) dX11_fano_82 (by decide) (by omega) (by omega) (fun n2 => ?_) (fun n2 => ?_)
  · exact same h2 l2 (FmC.rf _ _) (Or.inl (fun q => q.1.2.1 n2)) _
  refine e_iload_n (pc := 85) dX11_fano_85 rfl rfl ?_
  refine e_iload (pc := 86) dX11_fano_86 rfl ?_
  refine n_icmp_eq (pc := 88) (tgt := 118) dX11_fano_88 (by decide) (by omega) (by omega) (fun n3 => ?_) (fun n3 => ?_)
  · exact same h2 l2 (FmC.rf _ _) (Or.inl (fun q => q.2.1.2.1 n3)) _
  refine e_iload_n (pc := 91) dX11_fano_91 rfl rfl ?_
  refine e_iload (pc := 92) dX11_fano_92 rfl ?_
  refine n_icmp_eq (pc := 94) (tgt := 118) dX11_fano_94 (by decide) (by omega) (by omega) (fun n4 => ?_) (fun n4 => ?_)
  · exact same h2 l2 (FmC.rf _ _) (Or.inl (fun q => q.1.2.2.1 n4)) _
  refine e_iload_n (pc := 97) dX11_fano_97 rfl rfl ?_
  refine e_iload (pc := 98) dX11_fano_98 rfl ?_
  refine n_icmp_eq (pc := 100) (tgt := 118) dX11_fano_100 (by decide) (by omega) (by omega) (fun n5 => ?_) (fun n5 => ?_)
  · exact same h2 l2 (FmC.rf _ _) (Or.inl (fun q => q.2.1.2.2.1 n5)) _
  refine e_iload (pc := 103) dX11_fano_103 rfl ?_
  refine e_iload (pc := 105) dX11_fano_105 rfl ?_
  refine n_icmp_eq (pc := 107) (tgt := 118) dX11_fano_107 (by decide) (by omega) (by omega) (fun n6 => ?_) (fun n6 => ?_)
  · exact same h2 l2 (FmC.rf _ _) (Or.inl (fun q => q.2.2.1.2.2.1 n6)) _
  refine e_aload_n (pc := 110) dX11_fano_110 rfl rfl ?_
  refine n_V (pc := 111) (c_X11_firstFail l2 wk) bX11_firstFail q_i_X11_firstFail q_s_X11_firstFail q_m_X11_275 dX11_fano_111 rfl rfl (by repeat (first | assumption | exact hset_eq _ _ _ | (apply Lay.hd; assumption) | rw [hset_ne _ _ (by omega)])) rfl rfl (by exact Nat.le_of_ble_eq_true rfl) ⟨by decide, by decide⟩ ⟨rfl, rfl, Nat.zero_le _, Nat.zero_le _⟩ (fun z h3 hp3 => ?_)
  obtain ⟨p1, l3, f3⟩ := hp3
  refine e_iconst (pc := 114) (v := -1) dX11_fano_114 (by decide) ?_
  refine e_icmp_eq (pc := 115) (tgt := 120) dX11_fano_115 (by decide) (fun c5 => ?_) (fun c5 => ?_)
  · have hD : Div (x.ws k) := (p1.div wk).mp c5
    refine l_fano l3 wk hD (show a' ≤ lastP (x.ws k) by omega) (show b' ≤ lastP (x.ws k) by omega) (show c' ≤ lastP (x.ws k) by omega) (show d' ≤ lastP (x.ws k) by omega) n1 n2 n3 n4 n5 n6 (fun z h' r1 r2 r3 => fin z h' r2 (f3.qf.tr r3.ff.qf) (fun _ => Or.inr ⟨a', b', c', d', rfl, rfl, rfl, rfl, by omega, by omega, by omega, by omega, r1⟩) (fun z => absurd hD z))
  · have hD : ¬ Div (x.ws k) := fun z => c5 ((p1.div wk).mpr z)
    exact same h3 l3 f3.qf (Or.inr hD) _
end MFB
