/-! ===== the reference: the tape, the image ===== -/
theorem c255 : ∀ i, i < 32 → 8 ≤ i → (255#32).getLsbD i = false := by decide
theorem shr_b (v : BitVec 32) (s : Nat) (hs : s ≤ 24) : v.sshiftRight s &&& 255#32 = (v >>> s) &&& 255#32 := by
  apply BitVec.eq_of_getLsbD_eq
  intro i hi
  rw [BitVec.getLsbD_and, BitVec.getLsbD_and]
  by_cases c : i < 8
  · rw [BitVec.getLsbD_sshiftRight, BitVec.getLsbD_ushiftRight, if_pos (by omega), decide_eq_false (by omega)]; rfl
  · rw [c255 i hi (by omega), Bool.and_false, Bool.and_false]
theorem shr_i (a : Int32) (k : Nat) (hk : k < 4) : (a >>> (nI (24 - 8 * k) &&& 31)) &&& 255 = byA a k := by
  unfold byA
  apply Int32.toBitVec_inj.1
  have e : k = 0 ∨ k = 1 ∨ k = 2 ∨ k = 3 := by omega
  rcases e with rfl | rfl | rfl | rfl
  · exact shr_b a.toBitVec 24 (by decide)
  · exact shr_b a.toBitVec 16 (by decide)
  · exact shr_b a.toBitVec 8 (by decide)
  · exact shr_b a.toBitVec 0 (by decide)
/-- the number that a byte is of -/
def fdV (a b c d e : Int32) (k : Nat) : Int32 := if k < 4 then a else if k < 8 then b else if k < 12 then c else if k < 16 then d else e
theorem tap20_at (f : Nat → Nat) (len : Nat) (a b c d e : Int32) (t : Nat) (ht : t < len + 20) : tap20 f len a b c d e t = if t < len then f t else byN (fdV a b c d e (t - len)) ((t - len) % 4) := by
  unfold tap20 tap4 fdV
  by_cases c0 : t < len
  · rw [if_neg (by omega), if_neg (by omega), if_neg (by omega), if_neg (by omega), if_neg (by omega), if_pos c0]
  · rw [if_neg c0]
    by_cases c1 : t - len < 4
    · rw [if_neg (by omega), if_neg (by omega), if_neg (by omega), if_neg (by omega), if_pos (by omega), if_pos c1]
      congr 1; omega
    · rw [if_neg c1]
      by_cases c2 : t - len < 8
      · rw [if_neg (by omega), if_neg (by omega), if_neg (by omega), if_pos (by omega), if_pos c2]
        congr 1; omega
      · rw [if_neg c2]
        by_cases c3 : t - len < 12
        · rw [if_neg (by omega), if_neg (by omega), if_pos (by omega), if_pos c3]
          congr 1; omega
        · rw [if_neg c3]
          by_cases c4 : t - len < 16
          · rw [if_neg (by omega), if_pos (by omega), if_pos c4]
            congr 1; omega
          · rw [if_neg c4, if_pos (by omega)]
            congr 1; omega
section M8
variable {h : AH} {m : Nat} {x y : Sx} {ik : Bool} {len : Nat} {f : Nat → Nat} {ft fp : Int32}
theorem l_fd_v {sz k : Nat} {a b c d e : Int32} {l7 : Option Value} {Pr : Int32 → AH → Prop} (hk : k < 20)
    (kk : VI MX11_feed sz Pr h 71 [some (.ref m), some (.int a), some (.int b), some (.int c), some (.int d), some (.int e), some (.int (nI k)), l7] [.int (fdV a b c d e k)]) : VI MX11_feed sz Pr h 25 [some (.ref m), some (.int a), some (.int b), some (.int c), some (.int d), some (.int e), some (.int (nI k)), l7] [] := by
  unfold fdV at kk
  refine e_iload (pc := 25) dX11_feed_25 rfl ?_
  refine n_iconst (pc := 27) 4 dX11_feed_27 (by decide) ?_
  refine n_icmp_ge (pc := 28) (tgt := 35) dX11_feed_28 (by decide) (by omega) (by omega) (fun c1 => ?_) (fun c1 => ?_)
  · rw [if_neg (by omega)] at kk
    refine e_iload (pc := 35) dX11_feed_35 rfl ?_
    refine n_bipush (pc := 37) 8 dX11_feed_37 (by decide) ?_
    refine n_icmp_ge (pc := 39) (tgt := 46) dX11_feed_39 (by decide) (by omega) (by omega) (fun c2 => ?_) (fun c2 => ?_)
    · rw [if_neg (by omega)] at kk
      refine e_iload (pc := 46) dX11_feed_46 rfl ?_
      refine n_bipush (pc := 48) 12 dX11_feed_48 (by decide) ?_
      refine n_icmp_ge (pc := 50) (tgt := 57) dX11_feed_50 (by decide) (by omega) (by omega) (fun c3 => ?_) (fun c3 => ?_)
      · rw [if_neg (by omega)] at kk
        refine e_iload (pc := 57) dX11_feed_57 rfl ?_
        refine n_bipush (pc := 59) 16 dX11_feed_59 (by decide) ?_
        refine n_icmp_ge (pc := 61) (tgt := 69) dX11_feed_61 (by decide) (by omega) (by omega) (fun c4 => ?_) (fun c4 => ?_)
        · rw [if_neg (by omega)] at kk
          refine e_iload (pc := 69) dX11_feed_69 rfl ?_
          exact kk
        · rw [if_pos (by omega)] at kk
          refine e_iload (pc := 64) dX11_feed_64 rfl ?_
          refine e_goto (pc := 66) (tgt := 71) dX11_feed_66 (by decide) ?_
          exact kk
      · rw [if_pos (by omega)] at kk
        refine e_iload_n (pc := 53) dX11_feed_53 rfl rfl ?_
        refine e_goto (pc := 54) (tgt := 71) dX11_feed_54 (by decide) ?_
        exact kk
    · rw [if_pos (by omega)] at kk
      refine e_iload_n (pc := 42) dX11_feed_42 rfl rfl ?_
      refine e_goto (pc := 43) (tgt := 71) dX11_feed_43 (by decide) ?_
      exact kk
  · rw [if_pos (by omega)] at kk
    refine e_iload_n (pc := 31) dX11_feed_31 rfl rfl ?_
    refine e_goto (pc := 32) (tgt := 71) dX11_feed_32 (by decide) ?_
    exact kk
theorem l_feed {sz p n q len : Nat} {t1 : Int32} {t3 : Nat × Nat × Nat × Nat × Nat × Nat × Int32 × Int32 × Int32 × Nat × Int32} {a b c d e : Int32} (hl : len + 20 ≤ 600) :
    ∀ (t k : Nat), t = 20 - k → k ≤ 20 → ∀ H g l7, MH H m p n q (t1, len + k, t3) → H (m + 9) = some (aI 600 g) → (∀ b, b ≠ m → b ≠ m + 9 → H b = h b) → (∀ j, j < len → g j = nI (f j)) → (∀ j, j < k → g (len + j) = nI (byN (fdV a b c d e j) (j % 4))) →
      VI MX11_feed sz (fun z h' => z = nI (len + 20) ∧ MH h' m p n q (t1, len + 20, t3) ∧ (∀ b, b ≠ m → b ≠ m + 9 → h' b = h b) ∧ ∃ g, h' (m + 9) = some (aI 600 g) ∧ (∀ j, j < len → g j = nI (f j)) ∧ ∀ j, j < 20 → g (len + j) = nI (byN (fdV a b c d e j) (j % 4))) H 18 [some (.ref m), some (.int a), some (.int b), some (.int c), some (.int d), some (.int e), some (.int (nI k)), l7] [] := by
  intro t
  induction t with
  | zero =>
    intro k e1 e2 H g l7 hM h9 he g1 g2
    have e' : k = 20 := by omega
    subst e'
    refine e_iload (pc := 18) dX11_feed_18 rfl ?_
    refine n_bipush (pc := 20) 20 dX11_feed_20 (by decide) ?_
    refine n_icmp_ge (pc := 22) (tgt := 115) dX11_feed_22 (by decide) (by omega) (by omega) (fun hb_ => ?_) (fun c => absurd c (by omega))
    refine e_aload_n (pc := 115) dX11_feed_115 rfl rfl ?_
    refine e_get (pc := 116) fl_X11_157 dX11_feed_116 (by repeat (first | assumption | exact hset_eq _ _ _ | (apply Lay.hd; assumption) | rw [hset_ne _ _ (by omega)])) (by rfl) ?_
    exact n_iret (pc := 119) dX11_feed_119 rfl ⟨rfl, hM, he, g, h9, g1, g2⟩
  | succ t ih =>
    intro k e1 e2 H g l7 hM h9 he g1 g2
    refine e_iload (pc := 18) dX11_feed_18 rfl ?_
    refine n_bipush (pc := 20) 20 dX11_feed_20 (by decide) ?_
    refine n_icmp_ge (pc := 22) (tgt := 115) dX11_feed_22 (by decide) (by omega) (by omega) (fun c => absurd c (by omega)) (fun hb_ => ?_)
    refine l_fd_v (by omega) ?_
    refine e_istore (pc := 71) dX11_feed_71 (by decide) ?_
    refine e_aload_n (pc := 73) dX11_feed_73 rfl rfl ?_
    refine e_get (pc := 74) fl_X11_34 dX11_feed_74 (by repeat (first | assumption | exact hset_eq _ _ _ | (apply Lay.hd; assumption) | rw [hset_ne _ _ (by omega)])) (by rfl) ?_
    refine e_aload_n (pc := 77) dX11_feed_77 rfl rfl ?_
    refine e_get (pc := 78) fl_X11_157 dX11_feed_78 (by repeat (first | assumption | exact hset_eq _ _ _ | (apply Lay.hd; assumption) | rw [hset_ne _ _ (by omega)])) (by rfl) ?_
    refine e_iload (pc := 81) dX11_feed_81 rfl ?_
    refine n_bipush (pc := 83) 24 dX11_feed_83 (by decide) ?_
    refine n_bipush (pc := 85) 8 dX11_feed_85 (by decide) ?_
    refine e_iload (pc := 87) dX11_feed_87 rfl ?_
    refine n_iconst (pc := 89) 4 dX11_feed_89 (by decide) ?_
    refine n_irem (pc := 90) dX11_feed_90 (by omega) (by omega) (by omega) ?_
    refine n_imul (pc := 91) dX11_feed_91 ?_
    refine n_isub (pc := 92) dX11_feed_92 (by omega) ?_
    refine e_ishr (pc := 93) dX11_feed_93 ?_
    refine n_sipush (pc := 94) 255 dX11_feed_94 (by decide) ?_
    refine e_iand (pc := 97) dX11_feed_97 ?_
    refine e_top (shr_i (fdV a b c d e k) (k % 4) (by omega)) ?_
    rw [(byA_ok (fdV a b c d e k) (k % 4)).1]
    refine e_iastN (pc := 98) (len + k) dX11_feed_98 (by repeat (first | assumption | exact hset_eq _ _ _ | (apply Lay.hd; assumption) | rw [hset_ne _ _ (by omega)])) (by rfl) (by omega) (by first | decide | omega) ?_
    have hM1 : h m = h m := rfl
    have hM2 : MH (hset H (m + 9) (aI 600 (upd g (len + k) (nI (byN (fdV a b c d e k) (k % 4)))))) m p n q (t1, len + k, t3) := (hset_ne _ _ (by omega)).trans hM
    refine e_aload_n (pc := 99) dX11_feed_99 rfl rfl ?_
    refine e_dup (pc := 100) dX11_feed_100 rfl ?_
    refine e_get (pc := 101) fl_X11_157 dX11_feed_101 (by repeat (first | assumption | exact hset_eq _ _ _ | (apply Lay.hd; assumption) | rw [hset_ne _ _ (by omega)])) (by rfl) ?_
    refine n_iconst (pc := 104) 1 dX11_feed_104 (by decide) ?_
    refine n_iadd (pc := 105) dX11_feed_105 ?_
    refine e_put (pc := 106) pl_X11_157 dX11_feed_106 (by repeat (first | assumption | exact hset_eq _ _ _ | (apply Lay.hd; assumption) | rw [hset_ne _ _ (by omega)])) (by rfl) (by rfl) (by exact Nat.le_of_ble_eq_true rfl) ?_
    refine n_inc (pc := 109) dX11_feed_109 rfl (by decide) ?_
    refine e_goto (pc := 112) (tgt := 18) dX11_feed_112 (by decide) ?_
    refine ih (k + 1) (by omega) (by omega) _ _ _ (hset_eq _ _ _) ((hset_ne _ _ (by omega)).trans (hset_eq _ _ _)) (fun b q1 q2 => ((hset_ne _ _ q1).trans (hset_ne _ _ q2)).trans (he b q1 q2)) (fun j hj => ?_) (fun j hj => ?_)
    · rw [pk_un (by omega)]; exact g1 j hj
    · by_cases c0 : j = k
      · subst c0; rw [pk_us]
      · rw [pk_un (by omega)]; exact g2 j (by omega)
theorem c_X11_feed (hX : MAt h m x y ik len f ft fp) (a b c d e : Int32) : CI yX11_feed MX11_feed [.ref m, .int a, .int b, .int c, .int d, .int e] h (fun z h' => ((len + 20 ≤ 600 ∧ z = nI (len + 20) ∧ MAt h' m x y ik (len + 20) (tap20 f len a b c d e) ft fp) ∨ (¬ len + 20 ≤ 600 ∧ z = -1 ∧ MAt h' m x y ik len f ft fp)) ∧ Er m (m + 107) h h') := by
  obtain ⟨⟨p, n0, q, s, hM, s1, s2, s3, s4, s5⟩, hR, ⟨g, a1, a2⟩, ⟨g2, a3, a4⟩, a5, g3, a6, a7⟩ := id hX
  obtain ⟨t1, t2⟩ := s
  obtain ⟨t2, t3⟩ := t2
  have s2 : t2 = len := s2
  subst s2
  refine CI.ofV (by decide) rfl rfl (by simp [Value.category]) (by exact Nat.le_of_ble_eq_true rfl) (fun sz => ?_)
  refine e_aload_n (pc := 0) dX11_feed_0 rfl rfl ?_
  refine e_get (pc := 1) fl_X11_157 dX11_feed_1 (by repeat (first | assumption | exact hset_eq _ _ _ | (apply Lay.hd; assumption) | rw [hset_ne _ _ (by omega)])) (by rfl) ?_
  refine n_bipush (pc := 4) 20 dX11_feed_4 (by decide) ?_
  refine n_iadd (pc := 6) dX11_feed_6 ?_
  refine n_sipush (pc := 7) 600 dX11_feed_7 (by decide) ?_
  refine n_icmp_le (pc := 10) (tgt := 15) dX11_feed_10 (by decide) (by omega) (by omega) (fun c0 => ?_) (fun c0 => ?_)
  · refine n_iconst (pc := 15) 0 dX11_feed_15 (by decide) ?_
    refine e_istore (pc := 16) dX11_feed_16 (by decide) ?_
    refine V.post ?_ (l_feed (f := f) (h := h) c0 20 0 rfl (Nat.zero_le _) h g3 none hM a6 (fun _ _ _ => rfl) a7 (fun j hj => absurd hj (Nat.not_lt_zero j)))
    intro r h' z qq
    obtain ⟨e1, z', e2, rfl, e3, e4, g4, e5, e6, e7⟩ := qq
    refine ⟨e1, _, e2, Or.inl ⟨c0, rfl, ⟨p, n0, q, (t1, t2 + 20, t3), e3, s1, rfl, s3, s4, s5⟩, ?_, ⟨g, (e4 _ (by omega) (by omega)).trans a1, a2⟩, ⟨g2, (e4 _ (by omega) (by omega)).trans a3, a4⟩, c0, g4, e5, fun k hk => ?_⟩, fun b hb => e4 b (by omega) (by omega)⟩
    · refine hR.keep (fun k hk => ?_) (fun a ha => e4 a (by omega) (by omega))
      by_cases k9 : k = 9
      · subst k9; exact Or.inr ⟨g4, e5⟩
      · exact Or.inl (e4 _ (by have := hk.1; omega) (by omega))
    · rw [tap20_at _ _ _ _ _ _ _ _ hk]
      by_cases c1 : k < t2
      · rw [if_pos c1]; exact e6 k c1
      · rw [if_neg c1]
        have := e7 (k - t2) (by omega)
        rw [show t2 + (k - t2) = k by omega] at this
        exact this
  · refine e_iconst (pc := 13) (v := -1) dX11_feed_13 (by decide) ?_
    exact n_iret (pc := 14) dX11_feed_14 rfl ⟨Or.inr ⟨by omega, rfl, hX⟩, Er.rf _ _ _⟩
theorem l_im_t {sz p n q : Nat} {s : Ms} {g : Nat → Int32} (hM : MH h m p n q s) (hw : h (m + 1) = some (aI 6070 g)) :
    ∀ (t k : Nat), t = 6070 - k → k ≤ 6070 → ∀ g1, (∀ j, j < k → g1 j = g j) → VI MX11_image sz (fun z h' => z = 1 ∧ ∃ g2, h' = hset (hset h (m + 2) (aI 6070 g2)) m (ob 10 (mfs m p n q (1, s.2))) ∧ ∀ j, j < 6070 → g2 j = g j) (hset h (m + 2) (aI 6070 g1)) 15 [some (.ref m), some (.int (bI true)), some (.int (nI k))] [] := by
  intro t
  induction t with
  | zero =>
    intro k e1 e2 g1 h1
    have e' : k = 6070 := by omega
    subst e'
    have hM1 : MH (hset h (m + 2) (aI 6070 g1)) m p n q s := (hset_ne _ _ (by omega)).trans hM
    refine e_iload_n (pc := 15) dX11_image_15 rfl rfl ?_
    refine n_sipush (pc := 16) 6070 dX11_image_16 (by decide) ?_
    refine n_icmp_ge (pc := 19) (tgt := 59) dX11_image_19 (by decide) (by omega) (by omega) (fun hb_ => ?_) (fun c => absurd c (by omega))
    refine e_aload_n (pc := 59) dX11_image_59 rfl rfl ?_
    refine n_iconst (pc := 60) 1 dX11_image_60 (by decide) ?_
    refine e_put (pc := 61) pl_X11_377 dX11_image_61 (by repeat (first | assumption | exact hset_eq _ _ _ | (apply Lay.hd; assumption) | rw [hset_ne _ _ (by omega)])) (by rfl) (by rfl) (by exact Nat.le_of_ble_eq_true rfl) ?_
    refine n_iconst (pc := 64) 1 dX11_image_64 (by decide) ?_
    exact n_zret (pc := 65) dX11_image_65 rfl rfl ⟨rfl, g1, rfl, h1⟩
  | succ t ih =>
    intro k e1 e2 g1 h1
    have hM1 : MH (hset h (m + 2) (aI 6070 g1)) m p n q s := (hset_ne _ _ (by omega)).trans hM
    refine e_iload_n (pc := 15) dX11_image_15 rfl rfl ?_
    refine n_sipush (pc := 16) 6070 dX11_image_16 (by decide) ?_
    refine n_icmp_ge (pc := 19) (tgt := 59) dX11_image_19 (by decide) (by omega) (by omega) (fun c => absurd c (by omega)) (fun hb_ => ?_)
    refine e_iload_n (pc := 22) dX11_image_22 rfl rfl ?_
    refine n_bif_eq (pc := 23) (tgt := 41) dX11_image_23 (by decide) (fun c => by cases c) (fun _ => ?_)
    refine e_aload_n (pc := 26) dX11_image_26 rfl rfl ?_
    refine e_get (pc := 27) fl_X11_13 dX11_image_27 (by repeat (first | assumption | exact hset_eq _ _ _ | (apply Lay.hd; assumption) | rw [hset_ne _ _ (by omega)])) (by rfl) ?_
    refine e_iload_n (pc := 30) dX11_image_30 rfl rfl ?_
    refine e_aload_n (pc := 31) dX11_image_31 rfl rfl ?_
    refine e_get (pc := 32) fl_X11_7 dX11_image_32 (by repeat (first | assumption | exact hset_eq _ _ _ | (apply Lay.hd; assumption) | rw [hset_ne _ _ (by omega)])) (by rfl) ?_
    refine e_iload_n (pc := 35) dX11_image_35 rfl rfl ?_
    refine e_ialdN (pc := 36) k dX11_image_36 (by repeat (first | assumption | exact hset_eq _ _ _ | (apply Lay.hd; assumption) | rw [hset_ne _ _ (by omega)])) (by rfl) (by omega) (by first | decide | omega) ?_
    refine e_iastN (pc := 37) k dX11_image_37 (by repeat (first | assumption | exact hset_eq _ _ _ | (apply Lay.hd; assumption) | rw [hset_ne _ _ (by omega)])) (by rfl) (by omega) (by first | decide | omega) ?_
    refine e_heap (hset_hset h (m + 2) _ _) ?_
    refine e_goto (pc := 38) (tgt := 53) dX11_image_38 (by decide) ?_
    refine n_inc (pc := 53) dX11_image_53 rfl (by decide) ?_
    refine e_goto (pc := 56) (tgt := 15) dX11_image_56 (by decide) ?_
    refine ih (k + 1) (by omega) (by omega) _ (fun j hj => ?_)
    by_cases e : j = k
    · subst e; rw [pk_us]
    · rw [pk_un e]; exact h1 j (by omega)
theorem l_im_f {sz p n q : Nat} {s : Ms} {g : Nat → Int32} (hM : MH h m p n q s) (hw : h (m + 2) = some (aI 6070 g)) :
    ∀ (t k : Nat), t = 6070 - k → k ≤ 6070 → ∀ g1, (∀ j, j < k → g1 j = g j) → VI MX11_image sz (fun z h' => z = 1 ∧ ∃ g2, h' = hset (hset h (m + 1) (aI 6070 g2)) m (ob 10 (mfs m p n q (1, s.2))) ∧ ∀ j, j < 6070 → g2 j = g j) (hset h (m + 1) (aI 6070 g1)) 15 [some (.ref m), some (.int (bI false)), some (.int (nI k))] [] := by
  intro t
  induction t with
  | zero =>
    intro k e1 e2 g1 h1
    have e' : k = 6070 := by omega
    subst e'
    have hM1 : MH (hset h (m + 1) (aI 6070 g1)) m p n q s := (hset_ne _ _ (by omega)).trans hM
    refine e_iload_n (pc := 15) dX11_image_15 rfl rfl ?_
    refine n_sipush (pc := 16) 6070 dX11_image_16 (by decide) ?_
    refine n_icmp_ge (pc := 19) (tgt := 59) dX11_image_19 (by decide) (by omega) (by omega) (fun hb_ => ?_) (fun c => absurd c (by omega))
    refine e_aload_n (pc := 59) dX11_image_59 rfl rfl ?_
    refine n_iconst (pc := 60) 1 dX11_image_60 (by decide) ?_
    refine e_put (pc := 61) pl_X11_377 dX11_image_61 (by repeat (first | assumption | exact hset_eq _ _ _ | (apply Lay.hd; assumption) | rw [hset_ne _ _ (by omega)])) (by rfl) (by rfl) (by exact Nat.le_of_ble_eq_true rfl) ?_
    refine n_iconst (pc := 64) 1 dX11_image_64 (by decide) ?_
    exact n_zret (pc := 65) dX11_image_65 rfl rfl ⟨rfl, g1, rfl, h1⟩
  | succ t ih =>
    intro k e1 e2 g1 h1
    have hM1 : MH (hset h (m + 1) (aI 6070 g1)) m p n q s := (hset_ne _ _ (by omega)).trans hM
    refine e_iload_n (pc := 15) dX11_image_15 rfl rfl ?_
    refine n_sipush (pc := 16) 6070 dX11_image_16 (by decide) ?_
    refine n_icmp_ge (pc := 19) (tgt := 59) dX11_image_19 (by decide) (by omega) (by omega) (fun c => absurd c (by omega)) (fun hb_ => ?_)
    refine e_iload_n (pc := 22) dX11_image_22 rfl rfl ?_
    refine n_bif_eq (pc := 23) (tgt := 41) dX11_image_23 (by decide) (fun _ => ?_) (fun c => by cases c)
    refine e_aload_n (pc := 41) dX11_image_41 rfl rfl ?_
    refine e_get (pc := 42) fl_X11_7 dX11_image_42 (by repeat (first | assumption | exact hset_eq _ _ _ | (apply Lay.hd; assumption) | rw [hset_ne _ _ (by omega)])) (by rfl) ?_
    refine e_iload_n (pc := 45) dX11_image_45 rfl rfl ?_
    refine e_aload_n (pc := 46) dX11_image_46 rfl rfl ?_
    refine e_get (pc := 47) fl_X11_13 dX11_image_47 (by repeat (first | assumption | exact hset_eq _ _ _ | (apply Lay.hd; assumption) | rw [hset_ne _ _ (by omega)])) (by rfl) ?_
    refine e_iload_n (pc := 50) dX11_image_50 rfl rfl ?_
    refine e_ialdN (pc := 51) k dX11_image_51 (by repeat (first | assumption | exact hset_eq _ _ _ | (apply Lay.hd; assumption) | rw [hset_ne _ _ (by omega)])) (by rfl) (by omega) (by first | decide | omega) ?_
    refine e_iastN (pc := 52) k dX11_image_52 (by repeat (first | assumption | exact hset_eq _ _ _ | (apply Lay.hd; assumption) | rw [hset_ne _ _ (by omega)])) (by rfl) (by omega) (by first | decide | omega) ?_
    refine e_heap (hset_hset h (m + 1) _ _) ?_
    refine n_inc (pc := 53) dX11_image_53 rfl (by decide) ?_
    refine e_goto (pc := 56) (tgt := 15) dX11_image_56 (by decide) ?_
    refine ih (k + 1) (by omega) (by omega) _ (fun j hj => ?_)
    by_cases e : j = k
    · subst e; rw [pk_us]
    · rw [pk_un e]; exact h1 j (by omega)
theorem c_X11_image (hX : MAt h m x y ik len f ft fp) (hx : SxOk x) (hy : SxOk y) (b : Bool) : CI yX11_image MX11_image [.ref m, .int (bI b)] h (fun z h' => ((b = true ∧ z = nI 1 ∧ MAt h' m x x true len f ft fp) ∨ (b = false ∧ ik = false ∧ z = nI 0 ∧ MAt h' m x y ik len f ft fp) ∨ (b = false ∧ ik = true ∧ z = nI 1 ∧ MAt h' m y y ik len f ft fp)) ∧ Er m (m + 107) h h') := by
  obtain ⟨⟨p, n0, q, s, hM, s1, s2, s3, s4, s5⟩, hR, ⟨g, a1, a2⟩, ⟨g2, a3, a4⟩, a5, g3, a6, a7⟩ := id hX
  refine CI.ofV (by decide) rfl rfl (by simp [Value.category]) (by exact Nat.le_of_ble_eq_true rfl) (fun sz => ?_)
  refine e_iload_n (pc := 0) dX11_image_0 rfl rfl ?_
  cases b with
  | true =>
    refine n_bif_ne (pc := 1) (tgt := 13) dX11_image_1 (by decide) (fun _ => ?_) (fun c => by cases c)
    refine n_iconst (pc := 13) 0 dX11_image_13 (by decide) ?_
    refine e_istore_n (pc := 14) dX11_image_14 rfl (by decide) ?_
    refine e_heap (hset_self a3).symm ?_
    refine V.post ?_ (l_im_t hM a1 6070 0 rfl (Nat.zero_le _) g2 (fun j hj => absurd hj (Nat.not_lt_zero j)))
    intro r h' z qq
    obtain ⟨e1, z', e2, rfl, g4, rfl, e3⟩ := qq
    exact ⟨e1, _, e2, Or.inl ⟨rfl, rfl, ⟨p, n0, q, (1, s.2), hset_eq _ _ _, rfl, s2, s3, s4, s5⟩, (hR.set (isR_d 2 (by decide)) rfl).hd, ⟨g, ((hset_ne _ _ (by omega)).trans (hset_ne _ _ (by omega))).trans a1, a2⟩, ⟨g4, (hset_ne _ _ (by omega)).trans (hset_eq _ _ _), fun _ => a2.cg hx e3⟩, a5, g3, ((hset_ne _ _ (by omega)).trans (hset_ne _ _ (by omega))).trans a6, a7⟩, ((Er.rf _ _ h).set (by omega)).set (by omega)⟩
  | false =>
    refine n_bif_ne (pc := 1) (tgt := 13) dX11_image_1 (by decide) (fun c => by cases c) (fun _ => ?_)
    refine e_aload_n (pc := 4) dX11_image_4 rfl rfl ?_
    refine e_get (pc := 5) fl_X11_377 dX11_image_5 (by repeat (first | assumption | exact hset_eq _ _ _ | (apply Lay.hd; assumption) | rw [hset_ne _ _ (by omega)])) (by rfl) ?_
    refine e_top s1 ?_
    cases hk : ik with
    | false =>
      refine n_bif_ne (pc := 8) (tgt := 13) dX11_image_8 (by decide) (fun c => by cases c) (fun _ => ?_)
      refine n_iconst (pc := 11) 0 dX11_image_11 (by decide) ?_
      subst hk
      exact n_zret (pc := 12) dX11_image_12 rfl rfl ⟨Or.inr (Or.inl ⟨rfl, rfl, rfl, hX⟩), Er.rf _ _ _⟩
    | true =>
      refine n_bif_ne (pc := 8) (tgt := 13) dX11_image_8 (by decide) (fun _ => ?_) (fun c => by cases c)
      refine n_iconst (pc := 13) 0 dX11_image_13 (by decide) ?_
      refine e_istore_n (pc := 14) dX11_image_14 rfl (by decide) ?_
      refine e_heap (hset_self a1).symm ?_
      refine V.post ?_ (l_im_f hM a3 6070 0 rfl (Nat.zero_le _) g (fun j hj => absurd hj (Nat.not_lt_zero j)))
      intro r h' z qq
      obtain ⟨e1, z', e2, rfl, g4, rfl, e3⟩ := qq
      subst hk
      exact ⟨e1, _, e2, Or.inr (Or.inr ⟨rfl, rfl, rfl, ⟨p, n0, q, (1, s.2), hset_eq _ _ _, rfl, s2, s3, s4, s5⟩, (hR.set (isR_d 1 (by decide)) rfl).hd, ⟨g4, (hset_ne _ _ (by omega)).trans (hset_eq _ _ _), (a4 rfl).cg hy e3⟩, ⟨g2, ((hset_ne _ _ (by omega)).trans (hset_ne _ _ (by omega))).trans a3, fun _ => a4 rfl⟩, a5, g3, ((hset_ne _ _ (by omega)).trans (hset_ne _ _ (by omega))).trans a6, a7⟩), ((Er.rf _ _ h).set (by omega)).set (by omega)⟩
end M8
