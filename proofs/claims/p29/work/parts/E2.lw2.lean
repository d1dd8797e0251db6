/-! ===== the law's world: copied, turned ===== -/
theorem Cb.set {h : AH} {a i j k v : Nat} {c : Nat → Nat} {g : Nat → Int32} (hC : Cb h a c) (hi : i < 5) (hj : j < 5) (hk : k < 5) (hg : h (a + 2 + 6 * i + j) = some (aI 5 g)) : Cb (hset h (a + 2 + 6 * i + j) (aI 5 (upd g k (nI v)))) a (fun s => if s = 25 * i + 5 * j + k then v else c s) := by
  obtain ⟨g', g1, g2⟩ := hC.2.2 i hi j hj
  have e : g' = g := by
    have := g1.symm.trans hg
    simpa using this
  subst e
  refine hC.put hi hj (fun k' hk' => ?_) (fun t ht => if_neg (by omega))
  unfold upd
  by_cases e : k' = k
  · rw [if_pos e, if_pos (by omega)]
  · rw [if_neg e, if_neg (by omega)]
    exact g2 k' hk'
theorem Cb.congr {h : AH} {a : Nat} {c c2 : Nat → Nat} (hC : Cb h a c) (e : ∀ t, t < 125 → c t = c2 t) : Cb h a c2 :=
  ⟨hC.1, hC.2.1, fun i hi j hj => by
    obtain ⟨g, g1, g2⟩ := hC.2.2 i hi j hj
    exact ⟨g, g1, fun k hk => by rw [g2 k hk, e _ (by omega)]⟩⟩
theorem nw_X11_8 : NW RX11 8 10 5 [.int 0, .int 0, .int 0, .null, .null] := ⟨RX11, TX11, tyX11, rfl, uX11, tyX11_ok, q_cl_X11_8, q_ib_X11, q_in_X11, by decide⟩
/-- the world that is being made at zq, its digits so far; the rest as it was -/
def CpI (h h2 : AH) (zq : Nat) (W : Wd) (c : Nat → Nat) : Prop := LW h2 zq (W.1, W.2.1, c) .null ∧ ∀ q, q < zq → h2 q = h q
def cut (c c0 : Nat → Nat) (t s : Nat) : Nat := if s < t then c s else c0 s
theorem CpI.step {h h2 : AH} {zq i j k v : Nat} {W : Wd} {c c0 : Nat → Nat} {g : Nat → Int32} (hI : CpI h h2 zq W (cut c c0 (25 * i + 5 * j + k))) (hi : i < 5) (hj : j < 5) (hk : k < 5) (hv : v = c (25 * i + 5 * j + k)) (hg : h2 (zq + 1 + 2 + 6 * i + j) = some (aI 5 g)) : CpI h (hset h2 (zq + 1 + 2 + 6 * i + j) (aI 5 (upd g k (nI v)))) zq W (cut c c0 (25 * i + 5 * j + (k + 1))) := by
  obtain ⟨⟨l1, l2⟩, l3⟩ := hI
  refine ⟨⟨by rw [hset_ne _ _ (by omega)]; exact l1, (l2.set hi hj hk hg).congr (fun t _ => ?_)⟩, fun q hq => by rw [hset_ne _ _ (by omega)]; exact l3 q hq⟩
  show (if t = 25 * i + 5 * j + k then v else cut c c0 (25 * i + 5 * j + k) t) = cut c c0 (25 * i + 5 * j + (k + 1)) t
  unfold cut
  by_cases e : t = 25 * i + 5 * j + k
  · rw [if_pos e, if_pos (by omega), hv, e]
  · rw [if_neg e]
    by_cases e2 : t < 25 * i + 5 * j + k
    · rw [if_pos e2, if_pos (by omega)]
    · rw [if_neg e2, if_neg (by omega)]
section LB
variable {ro : RT} {h : AH} {w zq : Nat} {W : Wd} {tb : Value} {Post : Option Value → AH → Nat → Prop}
theorem l_cp_k {i j : Nat} (hW : LW h w W tb) (hw : w + 31 < zq) (hi : i < 5) (hj : j < 5) (kk : ∀ h2, CpI h h2 zq W (cut W.2.2 (fun _ => 0) (25 * i + 5 * (j + 1))) → VS ro MX11_copy Post (zq + 32, 32, 160) h2 71 [some (.ref w), some (.ref zq), some (.int (nI i)), some (.int (nI j)), some (.int (nI 5))] []) :
    ∀ (m k : Nat), m = 5 - k → k ≤ 5 → ∀ h2, CpI h h2 zq W (cut W.2.2 (fun _ => 0) (25 * i + 5 * j + k)) → VS ro MX11_copy Post (zq + 32, 32, 160) h2 37 [some (.ref w), some (.ref zq), some (.int (nI i)), some (.int (nI j)), some (.int (nI k))] [] := by
  intro m
  induction m with
  | zero =>
    intro k e1 e2 h2 hI
    have : k = 5 := by omega
    subst this
    refine ze_iload (pc := 37) dX11_copy_37 rfl ?_
    refine zn_iconst (pc := 39) 5 dX11_copy_39 (by decide) ?_
    refine zn_icmp_ge (pc := 40) (tgt := 71) dX11_copy_40 (by decide) (by omega) (by omega) (fun c => ?_) (fun c => absurd c (by omega))
    exact kk h2 hI
  | succ m ih =>
    intro k e1 e2 h2 hI
    obtain ⟨⟨d1, d2, d3, d4⟩, d5⟩ := id hI
    obtain ⟨s1, s2, s3, s4⟩ := hW.kept (h2 := h2) (fun q q1 q2 => d5 q (by omega))
    obtain ⟨g, g1, g2⟩ := d4 i hi j hj
    obtain ⟨f, f1, f2⟩ := s4 i hi j hj
    have dr := d3 i hi
    have sr := s3 i hi
    refine ze_iload (pc := 37) dX11_copy_37 rfl ?_
    refine zn_iconst (pc := 39) 5 dX11_copy_39 (by decide) ?_
    refine zn_icmp_ge (pc := 40) (tgt := 71) dX11_copy_40 (by decide) (by omega) (by omega) (fun c => absurd c (by omega)) (fun c => ?_)
    refine ze_aload_n (pc := 43) dX11_copy_43 rfl rfl ?_
    refine ze_get (pc := 44) fl_X11_21 dX11_copy_44 (by repeat (first | assumption | exact hset_eq _ _ _ | rw [hset_ne _ _ (by omega)])) (by rfl) ?_
    refine ze_iload_n (pc := 47) dX11_copy_47 rfl rfl ?_
    refine ze_aldC (pc := 48) _ dX11_copy_48 (by repeat (first | assumption | exact hset_eq _ _ _ | rw [hset_ne _ _ (by omega)])) (by rfl) (by omega) (by first | decide | omega) (by exact if_pos (by omega)) ?_
    refine ze_iload_n (pc := 49) dX11_copy_49 rfl rfl ?_
    refine ze_aldGS (pc := 50) _ dX11_copy_50 (by repeat (first | assumption | exact hset_eq _ _ _ | rw [hset_ne _ _ (by omega)])) (by rfl) (by omega) (by first | decide | omega) (by exact if_pos (by omega)) ?_
    refine ze_iload (pc := 51) dX11_copy_51 rfl ?_
    refine ze_aload_n (pc := 53) dX11_copy_53 rfl rfl ?_
    refine ze_get (pc := 54) fl_X11_21 dX11_copy_54 (by repeat (first | assumption | exact hset_eq _ _ _ | rw [hset_ne _ _ (by omega)])) (by rfl) ?_
    refine ze_iload_n (pc := 57) dX11_copy_57 rfl rfl ?_
    refine ze_aldC (pc := 58) _ dX11_copy_58 (by repeat (first | assumption | exact hset_eq _ _ _ | rw [hset_ne _ _ (by omega)])) (by rfl) (by omega) (by first | decide | omega) (by exact if_pos (by omega)) ?_
    refine ze_iload_n (pc := 59) dX11_copy_59 rfl rfl ?_
    refine ze_aldGS (pc := 60) _ dX11_copy_60 (by repeat (first | assumption | exact hset_eq _ _ _ | rw [hset_ne _ _ (by omega)])) (by rfl) (by omega) (by first | decide | omega) (by exact if_pos (by omega)) ?_
    refine ze_iload (pc := 61) dX11_copy_61 rfl ?_
    refine ze_ialdN (pc := 63) (k) dX11_copy_63 (by repeat (first | assumption | exact hset_eq _ _ _ | rw [hset_ne _ _ (by omega)])) (by rfl) (by omega) (by first | decide | omega) ?_
    refine ze_top (f2 k (by omega)) ?_
    refine ze_iastN (pc := 64) (k) dX11_copy_64 (by repeat (first | assumption | exact hset_eq _ _ _ | rw [hset_ne _ _ (by omega)])) (by rfl) (by omega) (by first | decide | omega) ?_
    refine zn_inc (pc := 65) dX11_copy_65 rfl (by decide) ?_
    refine ze_goto (pc := 68) (tgt := 37) dX11_copy_68 (by decide) ?_
    exact ih (k + 1) (by omega) (by omega) _ (hI.step hi hj (by omega) rfl g1)
theorem l_cp_j {i : Nat} (hW : LW h w W tb) (hw : w + 31 < zq) (hi : i < 5) (kk : ∀ h2, CpI h h2 zq W (cut W.2.2 (fun _ => 0) (25 * (i + 1))) → VS ro MX11_copy Post (zq + 32, 32, 160) h2 77 [some (.ref w), some (.ref zq), some (.int (nI i)), none, none] []) :
    ∀ (m j : Nat), m = 5 - j → j ≤ 5 → ∀ h2, CpI h h2 zq W (cut W.2.2 (fun _ => 0) (25 * i + 5 * j)) → VS ro MX11_copy Post (zq + 32, 32, 160) h2 29 [some (.ref w), some (.ref zq), some (.int (nI i)), some (.int (nI j)), none] [] := by
  intro m
  induction m with
  | zero =>
    intro j e1 e2 h2 hI
    have : j = 5 := by omega
    subst this
    refine ze_iload_n (pc := 29) dX11_copy_29 rfl rfl ?_
    refine zn_iconst (pc := 30) 5 dX11_copy_30 (by decide) ?_
    refine zn_icmp_ge (pc := 31) (tgt := 77) dX11_copy_31 (by decide) (by omega) (by omega) (fun c => ?_) (fun c => absurd c (by omega))
    refine VS.mask [true, true, true, false, false] ?_
    exact kk h2 hI
  | succ m ih =>
    intro j e1 e2 h2 hI
    refine ze_iload_n (pc := 29) dX11_copy_29 rfl rfl ?_
    refine zn_iconst (pc := 30) 5 dX11_copy_30 (by decide) ?_
    refine zn_icmp_ge (pc := 31) (tgt := 77) dX11_copy_31 (by decide) (by omega) (by omega) (fun c => absurd c (by omega)) (fun c => ?_)
    refine zn_iconst (pc := 34) 0 dX11_copy_34 (by decide) ?_
    refine ze_istore (pc := 35) dX11_copy_35 (by decide) ?_
    refine l_cp_k hW hw hi (by omega) (fun h3 hI3 => ?_) 5 0 (by omega) (by omega) h2 hI
    refine zn_inc (pc := 71) dX11_copy_71 rfl (by decide) ?_
    refine ze_goto (pc := 74) (tgt := 29) dX11_copy_74 (by decide) ?_
    refine VS.mask [true, true, true, true, false] ?_
    exact ih (j + 1) (by omega) (by omega) h3 hI3
theorem l_cp_i (hW : LW h w W tb) (hw : w + 31 < zq) (kk : ∀ h2, CpI h h2 zq W (cut W.2.2 (fun _ => 0) 125) → Post (some (.ref zq)) h2 (zq + 32)) :
    ∀ (m i : Nat), m = 5 - i → i ≤ 5 → ∀ h2, CpI h h2 zq W (cut W.2.2 (fun _ => 0) (25 * i)) → VS ro MX11_copy Post (zq + 32, 32, 160) h2 22 [some (.ref w), some (.ref zq), some (.int (nI i)), none, none] [] := by
  intro m
  induction m with
  | zero =>
    intro i e1 e2 h2 hI
    have : i = 5 := by omega
    subst this
    refine ze_iload_n (pc := 22) dX11_copy_22 rfl rfl ?_
    refine zn_iconst (pc := 23) 5 dX11_copy_23 (by decide) ?_
    refine zn_icmp_ge (pc := 24) (tgt := 83) dX11_copy_24 (by decide) (by omega) (by omega) (fun c => ?_) (fun c => absurd c (by omega))
    refine ze_aload_n (pc := 83) dX11_copy_83 rfl rfl ?_
    exact ze_aretR dX11_copy_84 (Or.inl ⟨_, rfl⟩) ⟨by exact Nat.le_of_ble_eq_true rfl, by exact Nat.le_of_ble_eq_true rfl⟩ (kk h2 hI)
  | succ m ih =>
    intro i e1 e2 h2 hI
    refine ze_iload_n (pc := 22) dX11_copy_22 rfl rfl ?_
    refine zn_iconst (pc := 23) 5 dX11_copy_23 (by decide) ?_
    refine zn_icmp_ge (pc := 24) (tgt := 83) dX11_copy_24 (by decide) (by omega) (by omega) (fun c => absurd c (by omega)) (fun c => ?_)
    refine zn_iconst (pc := 27) 0 dX11_copy_27 (by decide) ?_
    refine ze_istore_n (pc := 28) dX11_copy_28 rfl (by decide) ?_
    refine l_cp_j hW hw (by omega) (fun h3 hI3 => ?_) 5 0 (by omega) (by omega) h2 hI
    refine zn_inc (pc := 77) dX11_copy_77 rfl (by decide) ?_
    refine ze_goto (pc := 80) (tgt := 22) dX11_copy_80 (by decide) ?_
    exact ih (i + 1) (by omega) (by omega) h3 hI3
theorem c_X11_copy (hW : LW h w W tb) (hw : w + 31 < zq) (hp : 2 ≤ W.1 ∧ W.1 ≤ 5) (hn : W.2.1 ≤ 5) : CnS ro yX11_copy MX11_copy [.ref w] zq h (fun r h' z => r = some (.ref zq) ∧ z = zq + 32 ∧ LW h' zq W .null ∧ ∀ q, q < zq → h' q = h q) := by
  refine CnS.ofVS (by decide) rfl (fun q => by cases q) (by simp [Value.category]) (by exact Nat.le_of_ble_eq_true rfl) ?_
  refine ze_new (pc := 0) nw_X11_8 dX11_copy_0 ⟨by exact Nat.le_of_ble_eq_true rfl, by exact Nat.le_of_ble_eq_true rfl⟩ ?_
  dsimp only
  refine ze_dup (pc := 3) dX11_copy_3 rfl ?_
  refine ze_callI (pc := 4) (c_X11_init (w := zq) (hset_eq _ _ _)) bX11_init rfl rfl q_i_X11_init q_m_X11_24 dX11_copy_4 rfl rfl (by exact Nat.le_of_ble_eq_true rfl) ⟨by decide, by decide⟩ ⟨by exact Nat.le_of_ble_eq_true rfl, by exact Nat.le_of_ble_eq_true rfl⟩ (fun r h2 z hp' => ?_)
  obtain ⟨rfl, rfl, hL, hf⟩ := hp'
  have hW2 := hW.kept (h2 := h2) (fun q q1 q2 => by rw [hf q (by omega), hset_ne _ _ (by omega)])
  obtain ⟨s1, -⟩ := id hW2
  obtain ⟨l1, l2⟩ := hL
  refine ze_astore_n (pc := 7) dX11_copy_7 rfl (by decide) ?_
  refine ze_aload_n (pc := 8) dX11_copy_8 rfl rfl ?_
  refine ze_aload_n (pc := 9) dX11_copy_9 rfl rfl ?_
  refine ze_get (pc := 10) fl_X11_7 dX11_copy_10 (by repeat (first | assumption | exact hset_eq _ _ _ | rw [hset_ne _ _ (by omega)])) (by rfl) ?_
  refine ze_aload_n (pc := 13) dX11_copy_13 rfl rfl ?_
  refine ze_get (pc := 14) fl_X11_13 dX11_copy_14 (by repeat (first | assumption | exact hset_eq _ _ _ | rw [hset_ne _ _ (by omega)])) (by rfl) ?_
  refine zn_Vv (pc := 17) (c_X11_sizes l1 hp hn) bX11_sizes q_i_X11_sizes q_s_X11_sizes q_m_X11_25 dX11_copy_17 rfl rfl (by repeat (first | assumption | exact hset_eq _ _ _ | rw [hset_ne _ _ (by omega)])) rfl rfl (by exact Nat.le_of_ble_eq_true rfl) ⟨by decide, by decide⟩ ⟨rfl, rfl, by first | exact Nat.zero_le _ | exact Nat.le_of_ble_eq_true rfl, by first | exact Nat.zero_le _ | exact Nat.le_of_ble_eq_true rfl⟩ (fun h3 hp' => ?_)
  subst hp'
  refine zn_iconst (pc := 20) 0 dX11_copy_20 (by decide) ?_
  refine ze_istore_n (pc := 21) dX11_copy_21 rfl (by decide) ?_
  refine VS.widen (c2 := 32) (s2 := 160) (by exact Nat.le_of_ble_eq_true rfl) (by exact Nat.le_of_ble_eq_true rfl) ?_
  refine l_cp_i hW hw (fun h4 hI => ⟨rfl, rfl, ⟨hI.1.1, hI.1.2.congr (fun t ht => if_pos ht)⟩, hI.2⟩) 5 0 (by omega) (by omega) _ ⟨⟨hset_eq _ _ _, (l2.kept (fun q q1 q2 => hset_ne _ _ (by omega))).congr (fun t _ => by show 0 = cut W.2.2 (fun _ => 0) (25 * 0) t; unfold cut; rw [if_neg (by omega)])⟩, fun q hq => by rw [hset_ne _ _ (by omega), hf q hq, hset_ne _ _ (by omega)]⟩
-- turned
theorem tix_c {how i j k : Nat} (hi : i < 5) (hj : j < 5) (hk : k < 5) : tix how i j k < 125 := by
  unfold tix
  split <;> omega
theorem l_tv {how i j k leaf : Nat} {h2 : AH} (hW : LW h2 w W tb) (hi : i < 5) (hj : j < 5) (hk : k < 5) (hh : how < 6)
    (kk : VS ro MX11_turned Post (zq + 32, 32, 160) h2 152 [some (.ref w), some (.int (nI how)), some (.ref zq), some (.int (nI i)), some (.int (nI j)), some (.int (nI k))] [.int (nI (W.2.2 (tix how i j k))), .int (nI k), .ref leaf]) :
    VS ro MX11_turned Post (zq + 32, 32, 160) h2 41 [some (.ref w), some (.int (nI how)), some (.ref zq), some (.int (nI i)), some (.int (nI j)), some (.int (nI k))] [.int (nI k), .ref leaf] := by
  obtain ⟨s1, s2, s3, s4⟩ := hW
  have e : how = 0 ∨ how = 1 ∨ how = 2 ∨ how = 3 ∨ how = 4 ∨ how = 5 := by omega
  have ri := s3 i hi
  have rj := s3 j hj
  have rk := s3 k hk
  rcases e with rfl | rfl | rfl | rfl | rfl | rfl
  · obtain ⟨f, f1, f2⟩ := s4 i hi j hj
    refine ze_iload_n (pc := 41) dX11_turned_41 rfl rfl ?_
    refine zn_if_ne (pc := 42) (tgt := 60) dX11_turned_42 (by decide) (by omega) (fun c => absurd c (by omega)) (fun c => ?_)
    refine ze_aload_n (pc := 45) dX11_turned_45 rfl rfl ?_
    refine ze_get (pc := 46) fl_X11_21 dX11_turned_46 (by repeat (first | assumption | exact hset_eq _ _ _ | rw [hset_ne _ _ (by omega)])) (by rfl) ?_
    refine ze_iload_n (pc := 49) dX11_turned_49 rfl rfl ?_
    refine ze_aldC (pc := 50) _ dX11_turned_50 (by repeat (first | assumption | exact hset_eq _ _ _ | rw [hset_ne _ _ (by omega)])) (by rfl) (by omega) (by first | decide | omega) (by exact if_pos (by omega)) ?_
    refine ze_iload (pc := 51) dX11_turned_51 rfl ?_
    refine ze_aldGS (pc := 53) _ dX11_turned_53 (by repeat (first | assumption | exact hset_eq _ _ _ | rw [hset_ne _ _ (by omega)])) (by rfl) (by omega) (by first | decide | omega) (by exact if_pos (by omega)) ?_
    refine ze_iload (pc := 54) dX11_turned_54 rfl ?_
    refine ze_ialdN (pc := 56) (k) dX11_turned_56 (by repeat (first | assumption | exact hset_eq _ _ _ | rw [hset_ne _ _ (by omega)])) (by rfl) (by omega) (by first | decide | omega) ?_
    refine ze_goto (pc := 57) (tgt := 152) dX11_turned_57 (by decide) ?_
    exact ze_top (f2 k hk) kk
  · obtain ⟨f, f1, f2⟩ := s4 j hj i hi
    refine ze_iload_n (pc := 41) dX11_turned_41 rfl rfl ?_
    refine zn_if_ne (pc := 42) (tgt := 60) dX11_turned_42 (by decide) (by omega) (fun c => ?_) (fun c => absurd c (by omega))
    refine ze_iload_n (pc := 60) dX11_turned_60 rfl rfl ?_
    refine zn_iconst (pc := 61) 1 dX11_turned_61 (by decide) ?_
    refine zn_icmp_ne (pc := 62) (tgt := 80) dX11_turned_62 (by decide) (by omega) (by omega) (fun c => absurd c (by omega)) (fun c => ?_)
    refine ze_aload_n (pc := 65) dX11_turned_65 rfl rfl ?_
    refine ze_get (pc := 66) fl_X11_21 dX11_turned_66 (by repeat (first | assumption | exact hset_eq _ _ _ | rw [hset_ne _ _ (by omega)])) (by rfl) ?_
    refine ze_iload (pc := 69) dX11_turned_69 rfl ?_
    refine ze_aldC (pc := 71) _ dX11_turned_71 (by repeat (first | assumption | exact hset_eq _ _ _ | rw [hset_ne _ _ (by omega)])) (by rfl) (by omega) (by first | decide | omega) (by exact if_pos (by omega)) ?_
    refine ze_iload_n (pc := 72) dX11_turned_72 rfl rfl ?_
    refine ze_aldGS (pc := 73) _ dX11_turned_73 (by repeat (first | assumption | exact hset_eq _ _ _ | rw [hset_ne _ _ (by omega)])) (by rfl) (by omega) (by first | decide | omega) (by exact if_pos (by omega)) ?_
    refine ze_iload (pc := 74) dX11_turned_74 rfl ?_
    refine ze_ialdN (pc := 76) (k) dX11_turned_76 (by repeat (first | assumption | exact hset_eq _ _ _ | rw [hset_ne _ _ (by omega)])) (by rfl) (by omega) (by first | decide | omega) ?_
    refine ze_goto (pc := 77) (tgt := 152) dX11_turned_77 (by decide) ?_
    exact ze_top (f2 k hk) kk
  · obtain ⟨f, f1, f2⟩ := s4 k hk j hj
    refine ze_iload_n (pc := 41) dX11_turned_41 rfl rfl ?_
    refine zn_if_ne (pc := 42) (tgt := 60) dX11_turned_42 (by decide) (by omega) (fun c => ?_) (fun c => absurd c (by omega))
    refine ze_iload_n (pc := 60) dX11_turned_60 rfl rfl ?_
    refine zn_iconst (pc := 61) 1 dX11_turned_61 (by decide) ?_
    refine zn_icmp_ne (pc := 62) (tgt := 80) dX11_turned_62 (by decide) (by omega) (by omega) (fun c => ?_) (fun c => absurd c (by omega))
    refine ze_iload_n (pc := 80) dX11_turned_80 rfl rfl ?_
    refine zn_iconst (pc := 81) 2 dX11_turned_81 (by decide) ?_
    refine zn_icmp_ne (pc := 82) (tgt := 100) dX11_turned_82 (by decide) (by omega) (by omega) (fun c => absurd c (by omega)) (fun c => ?_)
    refine ze_aload_n (pc := 85) dX11_turned_85 rfl rfl ?_
    refine ze_get (pc := 86) fl_X11_21 dX11_turned_86 (by repeat (first | assumption | exact hset_eq _ _ _ | rw [hset_ne _ _ (by omega)])) (by rfl) ?_
    refine ze_iload (pc := 89) dX11_turned_89 rfl ?_
    refine ze_aldC (pc := 91) _ dX11_turned_91 (by repeat (first | assumption | exact hset_eq _ _ _ | rw [hset_ne _ _ (by omega)])) (by rfl) (by omega) (by first | decide | omega) (by exact if_pos (by omega)) ?_
    refine ze_iload (pc := 92) dX11_turned_92 rfl ?_
    refine ze_aldGS (pc := 94) _ dX11_turned_94 (by repeat (first | assumption | exact hset_eq _ _ _ | rw [hset_ne _ _ (by omega)])) (by rfl) (by omega) (by first | decide | omega) (by exact if_pos (by omega)) ?_
    refine ze_iload_n (pc := 95) dX11_turned_95 rfl rfl ?_
    refine ze_ialdN (pc := 96) (i) dX11_turned_96 (by repeat (first | assumption | exact hset_eq _ _ _ | rw [hset_ne _ _ (by omega)])) (by rfl) (by omega) (by first | decide | omega) ?_
    refine ze_goto (pc := 97) (tgt := 152) dX11_turned_97 (by decide) ?_
    exact ze_top (f2 i hi) kk
  · obtain ⟨f, f1, f2⟩ := s4 i hi k hk
    refine ze_iload_n (pc := 41) dX11_turned_41 rfl rfl ?_
    refine zn_if_ne (pc := 42) (tgt := 60) dX11_turned_42 (by decide) (by omega) (fun c => ?_) (fun c => absurd c (by omega))
    refine ze_iload_n (pc := 60) dX11_turned_60 rfl rfl ?_
    refine zn_iconst (pc := 61) 1 dX11_turned_61 (by decide) ?_
    refine zn_icmp_ne (pc := 62) (tgt := 80) dX11_turned_62 (by decide) (by omega) (by omega) (fun c => ?_) (fun c => absurd c (by omega))
    refine ze_iload_n (pc := 80) dX11_turned_80 rfl rfl ?_
    refine zn_iconst (pc := 81) 2 dX11_turned_81 (by decide) ?_
    refine zn_icmp_ne (pc := 82) (tgt := 100) dX11_turned_82 (by decide) (by omega) (by omega) (fun c => ?_) (fun c => absurd c (by omega))
    refine ze_iload_n (pc := 100) dX11_turned_100 rfl rfl ?_
    refine zn_iconst (pc := 101) 3 dX11_turned_101 (by decide) ?_
    refine zn_icmp_ne (pc := 102) (tgt := 120) dX11_turned_102 (by decide) (by omega) (by omega) (fun c => absurd c (by omega)) (fun c => ?_)
    refine ze_aload_n (pc := 105) dX11_turned_105 rfl rfl ?_
    refine ze_get (pc := 106) fl_X11_21 dX11_turned_106 (by repeat (first | assumption | exact hset_eq _ _ _ | rw [hset_ne _ _ (by omega)])) (by rfl) ?_
    refine ze_iload_n (pc := 109) dX11_turned_109 rfl rfl ?_
    refine ze_aldC (pc := 110) _ dX11_turned_110 (by repeat (first | assumption | exact hset_eq _ _ _ | rw [hset_ne _ _ (by omega)])) (by rfl) (by omega) (by first | decide | omega) (by exact if_pos (by omega)) ?_
    refine ze_iload (pc := 111) dX11_turned_111 rfl ?_
    refine ze_aldGS (pc := 113) _ dX11_turned_113 (by repeat (first | assumption | exact hset_eq _ _ _ | rw [hset_ne _ _ (by omega)])) (by rfl) (by omega) (by first | decide | omega) (by exact if_pos (by omega)) ?_
    refine ze_iload (pc := 114) dX11_turned_114 rfl ?_
    refine ze_ialdN (pc := 116) (j) dX11_turned_116 (by repeat (first | assumption | exact hset_eq _ _ _ | rw [hset_ne _ _ (by omega)])) (by rfl) (by omega) (by first | decide | omega) ?_
    refine ze_goto (pc := 117) (tgt := 152) dX11_turned_117 (by decide) ?_
    exact ze_top (f2 j hj) kk
  · obtain ⟨f, f1, f2⟩ := s4 k hk i hi
    refine ze_iload_n (pc := 41) dX11_turned_41 rfl rfl ?_
    refine zn_if_ne (pc := 42) (tgt := 60) dX11_turned_42 (by decide) (by omega) (fun c => ?_) (fun c => absurd c (by omega))
    refine ze_iload_n (pc := 60) dX11_turned_60 rfl rfl ?_
    refine zn_iconst (pc := 61) 1 dX11_turned_61 (by decide) ?_
    refine zn_icmp_ne (pc := 62) (tgt := 80) dX11_turned_62 (by decide) (by omega) (by omega) (fun c => ?_) (fun c => absurd c (by omega))
    refine ze_iload_n (pc := 80) dX11_turned_80 rfl rfl ?_
    refine zn_iconst (pc := 81) 2 dX11_turned_81 (by decide) ?_
    refine zn_icmp_ne (pc := 82) (tgt := 100) dX11_turned_82 (by decide) (by omega) (by omega) (fun c => ?_) (fun c => absurd c (by omega))
    refine ze_iload_n (pc := 100) dX11_turned_100 rfl rfl ?_
    refine zn_iconst (pc := 101) 3 dX11_turned_101 (by decide) ?_
    refine zn_icmp_ne (pc := 102) (tgt := 120) dX11_turned_102 (by decide) (by omega) (by omega) (fun c => ?_) (fun c => absurd c (by omega))
    refine ze_iload_n (pc := 120) dX11_turned_120 rfl rfl ?_
    refine zn_iconst (pc := 121) 4 dX11_turned_121 (by decide) ?_
    refine zn_icmp_ne (pc := 122) (tgt := 140) dX11_turned_122 (by decide) (by omega) (by omega) (fun c => absurd c (by omega)) (fun c => ?_)
    refine ze_aload_n (pc := 125) dX11_turned_125 rfl rfl ?_
    refine ze_get (pc := 126) fl_X11_21 dX11_turned_126 (by repeat (first | assumption | exact hset_eq _ _ _ | rw [hset_ne _ _ (by omega)])) (by rfl) ?_
    refine ze_iload (pc := 129) dX11_turned_129 rfl ?_
    refine ze_aldC (pc := 131) _ dX11_turned_131 (by repeat (first | assumption | exact hset_eq _ _ _ | rw [hset_ne _ _ (by omega)])) (by rfl) (by omega) (by first | decide | omega) (by exact if_pos (by omega)) ?_
    refine ze_iload_n (pc := 132) dX11_turned_132 rfl rfl ?_
    refine ze_aldGS (pc := 133) _ dX11_turned_133 (by repeat (first | assumption | exact hset_eq _ _ _ | rw [hset_ne _ _ (by omega)])) (by rfl) (by omega) (by first | decide | omega) (by exact if_pos (by omega)) ?_
    refine ze_iload (pc := 134) dX11_turned_134 rfl ?_
    refine ze_ialdN (pc := 136) (j) dX11_turned_136 (by repeat (first | assumption | exact hset_eq _ _ _ | rw [hset_ne _ _ (by omega)])) (by rfl) (by omega) (by first | decide | omega) ?_
    refine ze_goto (pc := 137) (tgt := 152) dX11_turned_137 (by decide) ?_
    exact ze_top (f2 j hj) kk
  · obtain ⟨f, f1, f2⟩ := s4 j hj k hk
    refine ze_iload_n (pc := 41) dX11_turned_41 rfl rfl ?_
    refine zn_if_ne (pc := 42) (tgt := 60) dX11_turned_42 (by decide) (by omega) (fun c => ?_) (fun c => absurd c (by omega))
    refine ze_iload_n (pc := 60) dX11_turned_60 rfl rfl ?_
    refine zn_iconst (pc := 61) 1 dX11_turned_61 (by decide) ?_
    refine zn_icmp_ne (pc := 62) (tgt := 80) dX11_turned_62 (by decide) (by omega) (by omega) (fun c => ?_) (fun c => absurd c (by omega))
    refine ze_iload_n (pc := 80) dX11_turned_80 rfl rfl ?_
    refine zn_iconst (pc := 81) 2 dX11_turned_81 (by decide) ?_
    refine zn_icmp_ne (pc := 82) (tgt := 100) dX11_turned_82 (by decide) (by omega) (by omega) (fun c => ?_) (fun c => absurd c (by omega))
    refine ze_iload_n (pc := 100) dX11_turned_100 rfl rfl ?_
    refine zn_iconst (pc := 101) 3 dX11_turned_101 (by decide) ?_
    refine zn_icmp_ne (pc := 102) (tgt := 120) dX11_turned_102 (by decide) (by omega) (by omega) (fun c => ?_) (fun c => absurd c (by omega))
    refine ze_iload_n (pc := 120) dX11_turned_120 rfl rfl ?_
    refine zn_iconst (pc := 121) 4 dX11_turned_121 (by decide) ?_
    refine zn_icmp_ne (pc := 122) (tgt := 140) dX11_turned_122 (by decide) (by omega) (by omega) (fun c => ?_) (fun c => absurd c (by omega))
    refine ze_aload_n (pc := 140) dX11_turned_140 rfl rfl ?_
    refine ze_get (pc := 141) fl_X11_21 dX11_turned_141 (by repeat (first | assumption | exact hset_eq _ _ _ | rw [hset_ne _ _ (by omega)])) (by rfl) ?_
    refine ze_iload (pc := 144) dX11_turned_144 rfl ?_
    refine ze_aldC (pc := 146) _ dX11_turned_146 (by repeat (first | assumption | exact hset_eq _ _ _ | rw [hset_ne _ _ (by omega)])) (by rfl) (by omega) (by first | decide | omega) (by exact if_pos (by omega)) ?_
    refine ze_iload (pc := 147) dX11_turned_147 rfl ?_
    refine ze_aldGS (pc := 149) _ dX11_turned_149 (by repeat (first | assumption | exact hset_eq _ _ _ | rw [hset_ne _ _ (by omega)])) (by rfl) (by omega) (by first | decide | omega) (by exact if_pos (by omega)) ?_
    refine ze_iload_n (pc := 150) dX11_turned_150 rfl rfl ?_
    refine ze_ialdN (pc := 151) (i) dX11_turned_151 (by repeat (first | assumption | exact hset_eq _ _ _ | rw [hset_ne _ _ (by omega)])) (by rfl) (by omega) (by first | decide | omega) ?_
    exact ze_top (f2 i hi) kk
def tcv (W : Wd) (how s : Nat) : Nat := W.2.2 (tix how (s / 25) (s / 5 % 5) (s % 5))
theorem l_tu_k {how i j : Nat} (hW : LW h w W tb) (hw : w + 31 < zq) (hh : how < 6) (hi : i < 5) (hj : j < 5) (kk : ∀ h2, CpI h h2 zq W (cut (tcv W how) W.2.2 (25 * i + 5 * (j + 1))) → VS ro MX11_turned Post (zq + 32, 32, 160) h2 159 [some (.ref w), some (.int (nI how)), some (.ref zq), some (.int (nI i)), some (.int (nI j)), none] []) :
    ∀ (m k : Nat), m = 5 - k → k ≤ 5 → ∀ h2, CpI h h2 zq W (cut (tcv W how) W.2.2 (25 * i + 5 * j + k)) → VS ro MX11_turned Post (zq + 32, 32, 160) h2 24 [some (.ref w), some (.int (nI how)), some (.ref zq), some (.int (nI i)), some (.int (nI j)), some (.int (nI k))] [] := by
  intro m
  induction m with
  | zero =>
    intro k e1 e2 h2 hI
    have : k = 5 := by omega
    subst this
    refine ze_iload (pc := 24) dX11_turned_24 rfl ?_
    refine zn_iconst (pc := 26) 5 dX11_turned_26 (by decide) ?_
    refine zn_icmp_ge (pc := 27) (tgt := 159) dX11_turned_27 (by decide) (by omega) (by omega) (fun c => ?_) (fun c => absurd c (by omega))
    refine VS.mask [true, true, true, true, true, false] ?_
    exact kk h2 hI
  | succ m ih =>
    intro k e1 e2 h2 hI
    obtain ⟨⟨d1, d2, d3, d4⟩, d5⟩ := id hI
    obtain ⟨g, g1, g2⟩ := d4 i hi j hj
    have dr := d3 i hi
    have hW2 := hW.kept (h2 := h2) (fun q q1 q2 => d5 q (by omega))
    refine ze_iload (pc := 24) dX11_turned_24 rfl ?_
    refine zn_iconst (pc := 26) 5 dX11_turned_26 (by decide) ?_
    refine zn_icmp_ge (pc := 27) (tgt := 159) dX11_turned_27 (by decide) (by omega) (by omega) (fun c => absurd c (by omega)) (fun c => ?_)
    refine ze_aload_n (pc := 30) dX11_turned_30 rfl rfl ?_
    refine ze_get (pc := 31) fl_X11_21 dX11_turned_31 (by repeat (first | assumption | exact hset_eq _ _ _ | rw [hset_ne _ _ (by omega)])) (by rfl) ?_
    refine ze_iload_n (pc := 34) dX11_turned_34 rfl rfl ?_
    refine ze_aldC (pc := 35) _ dX11_turned_35 (by repeat (first | assumption | exact hset_eq _ _ _ | rw [hset_ne _ _ (by omega)])) (by rfl) (by omega) (by first | decide | omega) (by exact if_pos (by omega)) ?_
    refine ze_iload (pc := 36) dX11_turned_36 rfl ?_
    refine ze_aldGS (pc := 38) _ dX11_turned_38 (by repeat (first | assumption | exact hset_eq _ _ _ | rw [hset_ne _ _ (by omega)])) (by rfl) (by omega) (by first | decide | omega) (by exact if_pos (by omega)) ?_
    refine ze_iload (pc := 39) dX11_turned_39 rfl ?_
    refine l_tv hW2 hi hj (by omega) hh ?_
    refine ze_iastN (pc := 152) (k) dX11_turned_152 (by repeat (first | assumption | exact hset_eq _ _ _ | rw [hset_ne _ _ (by omega)])) (by rfl) (by omega) (by first | decide | omega) ?_
    refine zn_inc (pc := 153) dX11_turned_153 rfl (by decide) ?_
    refine ze_goto (pc := 156) (tgt := 24) dX11_turned_156 (by decide) ?_
    refine ih (k + 1) (by omega) (by omega) _ (hI.step hi hj (by omega) ?_ g1)
    unfold tcv
    rw [show (25 * i + 5 * j + k) / 25 = i by omega, show (25 * i + 5 * j + k) / 5 % 5 = j by omega, show (25 * i + 5 * j + k) % 5 = k by omega]
theorem l_tu_j {how i : Nat} (hW : LW h w W tb) (hw : w + 31 < zq) (hh : how < 6) (hi : i < 5) (kk : ∀ h2, CpI h h2 zq W (cut (tcv W how) W.2.2 (25 * (i + 1))) → VS ro MX11_turned Post (zq + 32, 32, 160) h2 165 [some (.ref w), some (.int (nI how)), some (.ref zq), some (.int (nI i)), none, none] []) :
    ∀ (m j : Nat), m = 5 - j → j ≤ 5 → ∀ h2, CpI h h2 zq W (cut (tcv W how) W.2.2 (25 * i + 5 * j)) → VS ro MX11_turned Post (zq + 32, 32, 160) h2 15 [some (.ref w), some (.int (nI how)), some (.ref zq), some (.int (nI i)), some (.int (nI j)), none] [] := by
  intro m
  induction m with
  | zero =>
    intro j e1 e2 h2 hI
    have : j = 5 := by omega
    subst this
    refine ze_iload (pc := 15) dX11_turned_15 rfl ?_
    refine zn_iconst (pc := 17) 5 dX11_turned_17 (by decide) ?_
    refine zn_icmp_ge (pc := 18) (tgt := 165) dX11_turned_18 (by decide) (by omega) (by omega) (fun c => ?_) (fun c => absurd c (by omega))
    refine VS.mask [true, true, true, true, false, false] ?_
    exact kk h2 hI
  | succ m ih =>
    intro j e1 e2 h2 hI
    refine ze_iload (pc := 15) dX11_turned_15 rfl ?_
    refine zn_iconst (pc := 17) 5 dX11_turned_17 (by decide) ?_
    refine zn_icmp_ge (pc := 18) (tgt := 165) dX11_turned_18 (by decide) (by omega) (by omega) (fun c => absurd c (by omega)) (fun c => ?_)
    refine zn_iconst (pc := 21) 0 dX11_turned_21 (by decide) ?_
    refine ze_istore (pc := 22) dX11_turned_22 (by decide) ?_
    refine l_tu_k hW hw hh hi (by omega) (fun h3 hI3 => ?_) 5 0 (by omega) (by omega) h2 hI
    refine zn_inc (pc := 159) dX11_turned_159 rfl (by decide) ?_
    refine ze_goto (pc := 162) (tgt := 15) dX11_turned_162 (by decide) ?_
    exact ih (j + 1) (by omega) (by omega) h3 hI3
theorem l_tu_i {how : Nat} (hW : LW h w W tb) (hw : w + 31 < zq) (hh : how < 6) (kk : ∀ h2, CpI h h2 zq W (cut (tcv W how) W.2.2 125) → Post (some (.ref zq)) h2 (zq + 32)) :
    ∀ (m i : Nat), m = 5 - i → i ≤ 5 → ∀ h2, CpI h h2 zq W (cut (tcv W how) W.2.2 (25 * i)) → VS ro MX11_turned Post (zq + 32, 32, 160) h2 7 [some (.ref w), some (.int (nI how)), some (.ref zq), some (.int (nI i)), none, none] [] := by
  intro m
  induction m with
  | zero =>
    intro i e1 e2 h2 hI
    have : i = 5 := by omega
    subst this
    refine ze_iload_n (pc := 7) dX11_turned_7 rfl rfl ?_
    refine zn_iconst (pc := 8) 5 dX11_turned_8 (by decide) ?_
    refine zn_icmp_ge (pc := 9) (tgt := 171) dX11_turned_9 (by decide) (by omega) (by omega) (fun c => ?_) (fun c => absurd c (by omega))
    refine ze_aload_n (pc := 171) dX11_turned_171 rfl rfl ?_
    exact ze_aretR dX11_turned_172 (Or.inl ⟨_, rfl⟩) ⟨by exact Nat.le_of_ble_eq_true rfl, by exact Nat.le_of_ble_eq_true rfl⟩ (kk h2 hI)
  | succ m ih =>
    intro i e1 e2 h2 hI
    refine ze_iload_n (pc := 7) dX11_turned_7 rfl rfl ?_
    refine zn_iconst (pc := 8) 5 dX11_turned_8 (by decide) ?_
    refine zn_icmp_ge (pc := 9) (tgt := 171) dX11_turned_9 (by decide) (by omega) (by omega) (fun c => absurd c (by omega)) (fun c => ?_)
    refine zn_iconst (pc := 12) 0 dX11_turned_12 (by decide) ?_
    refine ze_istore (pc := 13) dX11_turned_13 (by decide) ?_
    refine l_tu_j hW hw hh (by omega) (fun h3 hI3 => ?_) 5 0 (by omega) (by omega) h2 hI
    refine zn_inc (pc := 165) dX11_turned_165 rfl (by decide) ?_
    refine ze_goto (pc := 168) (tgt := 7) dX11_turned_168 (by decide) ?_
    exact ih (i + 1) (by omega) (by omega) h3 hI3
theorem inC_ix {n a b c : Nat} (ha : a < 5) (hb : b < 5) (hc : c < 5) (z : inC n (25 * a + 5 * b + c)) : a < n ∧ b < n ∧ c < n := by
  obtain ⟨z1, z2, z3, z4⟩ := z
  exact ⟨by omega, by omega, by omega⟩
theorem tcv_turn {how t : Nat} (hk : Wok W) (hh : how < 6) (ht : t < 125) : tcv W how t = (wturn W how).2.2 t := by
  show _ = if inC W.2.1 t ∧ t < 125 then W.2.2 (tix how (t / 25) (t / 5 % 5) (t % 5)) else 0
  by_cases c : inC W.2.1 t
  · rw [if_pos ⟨c, ht⟩]; rfl
  · rw [if_neg (fun z => c z.1)]
    refine (hk.2.2.2.2 _).2 (fun z => c ?_)
    have b := hk.b
    have e : how = 0 ∨ how = 1 ∨ how = 2 ∨ how = 3 ∨ how = 4 ∨ how = 5 := by omega
    rcases e with rfl | rfl | rfl | rfl | rfl | rfl <;> (obtain ⟨q1, q2, q3⟩ := inC_ix (by omega) (by omega) (by omega) z; exact ⟨ht, by omega, by omega, by omega⟩)
theorem c_X11_turned {how : Nat} (hW : LW h w W tb) (hk : Wok W) (hw : w + 31 < zq) (hh : how < 6) : CnS ro yX11_turned MX11_turned [.ref w, .int (nI how)] zq h (fun r h' z => r = some (.ref zq) ∧ z = zq + 32 ∧ LW h' zq (wturn W how) .null ∧ ∀ q, q < zq → h' q = h q) := by
  have b := hk.b
  obtain ⟨w1, -⟩ := id hW
  refine CnS.ofVS (by decide) rfl (fun q => by cases q) (by simp [Value.category]) (by exact Nat.le_of_ble_eq_true rfl) ?_
  refine ze_aload_n (pc := 0) dX11_turned_0 rfl rfl ?_
  refine ze_callV (pc := 1) (c_X11_copy (zq := zq) hW hw ⟨b.1, b.2.1⟩ b.2.2.2.1) bX11_copy q_i_X11_copy q_s_X11_copy q_m_X11_41 dX11_turned_1 rfl rfl (by repeat (first | assumption | exact hset_eq _ _ _ | rw [hset_ne _ _ (by omega)])) rfl rfl (by exact Nat.le_of_ble_eq_true rfl) ⟨by decide, by decide⟩ ⟨by exact Nat.le_of_ble_eq_true rfl, by exact Nat.le_of_ble_eq_true rfl⟩ (fun r h2 z hp' => ?_)
  obtain ⟨rfl, rfl, hL, hf⟩ := hp'
  refine ze_astore_n (pc := 4) dX11_turned_4 rfl (by decide) ?_
  refine zn_iconst (pc := 5) 0 dX11_turned_5 (by decide) ?_
  refine ze_istore_n (pc := 6) dX11_turned_6 rfl (by decide) ?_
  refine VS.widen (c2 := 32) (s2 := 160) (by exact Nat.le_of_ble_eq_true rfl) (by exact Nat.le_of_ble_eq_true rfl) ?_
  refine l_tu_i hW hw hh (fun h4 hI => ⟨rfl, rfl, ⟨hI.1.1, hI.1.2.congr (fun t ht => (if_pos ht).trans (tcv_turn hk hh ht))⟩, hI.2⟩) 5 0 (by omega) (by omega) _ ⟨⟨hL.1, hL.2.congr (fun t _ => by show W.2.2 t = cut (tcv W how) W.2.2 (25 * 0) t; unfold cut; rw [if_neg (by omega)])⟩, hf⟩
end LB
