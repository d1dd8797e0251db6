/-! ===== the reference: a world laid out; what stays ===== -/
section BIF
variable {M : MI} {Post : Option Value → AH → Nat → Prop} {al : Nat × Nat × Nat} {h : AH} {pc : Nat} {ls : List (Option Value)} {st : List Value}
theorem n_bif_eq {b : Bool} {off : Int} {tgt : Nat} (hd : decode (MI.cc M) pc = .ok (.ifCond .eq off, 3)) (ht : (pc : Int) + off = (tgt : Int)) (kt : b = false → V M Post al h tgt ls st) (kf : b = true → V M Post al h (pc + 3) ls st) : V M Post al h pc ls (.int (bI b) :: st) := by
  cases b with
  | false => exact e_if_eq hd ht (fun _ => kt rfl) (fun q => absurd rfl q)
  | true => exact e_if_eq hd ht (fun q => absurd q (by decide)) (fun _ => kf rfl)
theorem n_bif_ne {b : Bool} {off : Int} {tgt : Nat} (hd : decode (MI.cc M) pc = .ok (.ifCond .ne off, 3)) (ht : (pc : Int) + off = (tgt : Int)) (kt : b = true → V M Post al h tgt ls st) (kf : b = false → V M Post al h (pc + 3) ls st) : V M Post al h pc ls (.int (bI b) :: st) := by
  cases b with
  | false => exact e_if_ne hd ht (fun q => absurd rfl q) (fun _ => kf rfl)
  | true => exact e_if_ne hd ht (fun _ => kt rfl) (fun q => absurd q (by decide))
end BIF
/-- digits and the matrix have changed -/
def FmA (m : Nat) (h h' : AH) : Prop := ∀ b, (b < m + 4 ∨ (m + 7 ≤ b ∧ b < m + 11) ∨ m + 17 ≤ b) → h' b = h b
/-- what stands behind the cube has changed, the tape has not -/
def FmB (m : Nat) (h h' : AH) : Prop := ∀ b, (b < m + 4 ∨ m + 107 ≤ b ∨ b = m + 9) → h' b = h b
/-- all that stays between calls is as it was -/
def FmC (m : Nat) (h h' : AH) : Prop := ∀ b, (b < m ∨ m + 107 ≤ b ∨ b = m + 1 ∨ b = m + 2 ∨ b = m + 9) → h' b = h b
theorem FmA.rf (m : Nat) (h : AH) : FmA m h h := fun _ _ => rfl
theorem FmB.rf (m : Nat) (h : AH) : FmB m h h := fun _ _ => rfl
theorem FmC.rf (m : Nat) (h : AH) : FmC m h h := fun _ _ => rfl
theorem FmA.tr {m : Nat} {h h1 h2 : AH} (a : FmA m h h1) (b : FmA m h1 h2) : FmA m h h2 := fun q x => (b q x).trans (a q x)
theorem FmB.tr {m : Nat} {h h1 h2 : AH} (a : FmB m h h1) (b : FmB m h1 h2) : FmB m h h2 := fun q x => (b q x).trans (a q x)
theorem FmC.tr {m : Nat} {h h1 h2 : AH} (a : FmC m h h1) (b : FmC m h1 h2) : FmC m h h2 := fun q x => (b q x).trans (a q x)
theorem FdM.ff {m : Nat} {h h1 : AH} (a : FdM m h h1) : FmA m h h1 := fun b x => a b (by omega) (by omega) (by omega)
theorem FmA.fq {m : Nat} {h h1 : AH} (a : FmA m h h1) : FmB m h h1 := fun b x => a b (by omega)
theorem FmB.qf {m : Nat} {h h1 : AH} (a : FmB m h h1) : FmC m h h1 := fun b x => a b (by omega)
theorem FmA.qf {m : Nat} {h h1 : AH} (a : FmA m h h1) : FmC m h h1 := a.fq.qf
theorem FmC.set {m k : Nat} {h h1 : AH} {x : AE} (a : FmC m h h1) (hk : k < 107 ∧ k ≠ 1 ∧ k ≠ 2 ∧ k ≠ 9) : FmC m h (hset h1 (m + k) x) := fun b q => by
  rw [hset_ne _ _ (by omega)]
  exact a b q
theorem FmB.set {m k : Nat} {h h1 : AH} {x : AE} (a : FmB m h h1) (hk : 4 ≤ k ∧ k < 107 ∧ k ≠ 9) : FmB m h (hset h1 (m + k) x) := fun b q => by
  rw [hset_ne _ _ (by omega)]
  exact a b q
theorem Lay.fq {h h2 : AH} {m : Nat} {W : Wd} {s : Ms} (l : Lay h m W s) (e : FmB m h h2) (r : MRo h2 m) : Lay h2 m W s := ⟨(e _ (by omega)).trans l.1, l.2.1.keep (e _ (by omega)), r⟩
theorem Lay.hd {h : AH} {m : Nat} {W : Wd} {s : Ms} (l : Lay h m W s) : h m = some (ob 10 (mfs m W.1 W.2.1 (W.1 ^ W.2.1) s)) := l.1
/-- what of its numbers stays between calls -/
def Pst (s : Ms) (ik : Bool) (len : Nat) (ft fp : Int32) : Prop := s.1 = bI ik ∧ s.2.1 = len ∧ s.2.2.2.2.2.2.2.2.1 = ft ∧ s.2.2.2.2.2.2.2.2.2.1 = fp ∧ s.2.2.2.2.2.2.2.2.2.2.2.2 = -1
/-- the reference's object at m -/
def MAt (h : AH) (m : Nat) (x y : Sx) (ik : Bool) (len : Nat) (f : Nat → Nat) (ft fp : Int32) : Prop :=
  (∃ p n q s, MH h m p n q s ∧ Pst s ik len ft fp) ∧ MRo h m ∧ (∃ g, h (m + 1) = some (aI 6070 g) ∧ WR g x) ∧ (∃ g, h (m + 2) = some (aI 6070 g) ∧ (ik = true → WR g y)) ∧ len ≤ 600 ∧ ∃ g, h (m + 9) = some (aI 600 g) ∧ ∀ k, k < len → g k = nI (f k)
section MT
variable {h : AH} {m : Nat} {x y : Sx} {ik : Bool} {len : Nat} {f : Nat → Nat} {ft fp : Int32}
theorem MAt.re {h2 : AH} {p n q : Nat} {s : Ms} (hX : MAt h m x y ik len f ft fp) (hM : MH h2 m p n q s) (hs : Pst s ik len ft fp) (hR : MRo h2 m) (e : FmC m h h2) : MAt h2 m x y ik len f ft fp := by
  obtain ⟨-, -, ⟨g, a1, a2⟩, ⟨g2, a3, a4⟩, a5, g3, a6, a7⟩ := hX
  exact ⟨⟨p, n, q, s, hM, hs⟩, hR, ⟨g, (e _ (by omega)).trans a1, a2⟩, ⟨g2, (e _ (by omega)).trans a3, a4⟩, a5, g3, (e _ (by omega)).trans a6, a7⟩
theorem FmC.er {h2 : AH} (e : FmC m h h2) : Er m (m + 107) h h2 := fun a q => e a (by omega)
/-- a question has been answered -/
theorem MAt.done {h2 : AH} {W : Wd} {s : Ms} (hX : MAt h m x y ik len f ft fp) (l : Lay h2 m W s) (hs : Pst s ik len ft fp) (e : FmC m h h2) : MAt h2 m x y ik len f ft fp ∧ Er m (m + 107) h h2 := ⟨hX.re l.1 hs l.2.2 e, e.er⟩
theorem inB_m {v : Int32} {k : Nat} (h1 : 1 ≤ k) (h2 : k < 2 ^ 30) : inB v (nI 0) (nI (k - 1)) = okI v k := by rw [inB_ok (by omega), show k - 1 + 1 = k by omega]
theorem l_lays {sz a p n q : Nat} {s : Ms} {W : Wd} {g : Nat → Int32} (hM : MH h m p n q s) (hw : h (m + 1) = some (aI 6070 g)) (hW : ∀ c, c < 125 → g (130 * a + 2 + c) = nI (W.2.2 c)) (ha : a < 6) :
    ∀ (t k : Nat), t = 125 - k → k ≤ 125 → ∀ g1, (∀ j, j < k → g1 j = nI (W.2.2 j)) → VV MX11_laysOut sz (fun h' => ∃ g2, h' = hset h (m + 3) (aI 125 g2) ∧ ∀ j, j < 125 → g2 j = nI (W.2.2 j)) (hset h (m + 3) (aI 125 g1)) 49 [some (.ref m), some (.int (nI a)), some (.int (nI k))] [] := by
  intro t
  induction t with
  | zero =>
    intro k e1 e2 g1 h1
    have e' : k = 125 := by omega
    subst e'
    refine e_iload_n (pc := 49) dX11_laysOut_49 rfl rfl ?_
    refine n_bipush (pc := 50) 125 dX11_laysOut_50 (by decide) ?_
    refine n_icmp_ge (pc := 52) (tgt := 81) dX11_laysOut_52 (by decide) (by omega) (by omega) (fun hb_ => ?_) (fun c => absurd c (by omega))
    exact n_vret (pc := 81) dX11_laysOut_81 rfl ⟨g1, rfl, h1⟩
  | succ t ih =>
    intro k e1 e2 g1 h1
    have hM1 : MH (hset h (m + 3) (aI 125 g1)) m p n q s := (hset_ne _ _ (by omega)).trans hM
    have z := hW k (by omega)
    refine e_iload_n (pc := 49) dX11_laysOut_49 rfl rfl ?_
    refine n_bipush (pc := 50) 125 dX11_laysOut_50 (by decide) ?_
    refine n_icmp_ge (pc := 52) (tgt := 81) dX11_laysOut_52 (by decide) (by omega) (by omega) (fun c => absurd c (by omega)) (fun hb_ => ?_)
    refine e_aload_n (pc := 55) dX11_laysOut_55 rfl rfl ?_
    refine e_get (pc := 56) fl_X11_16 dX11_laysOut_56 (by repeat (first | assumption | exact hset_eq _ _ _ | (apply Lay.hd; assumption) | rw [hset_ne _ _ (by omega)])) (by rfl) ?_
    refine e_iload_n (pc := 59) dX11_laysOut_59 rfl rfl ?_
    refine e_aload_n (pc := 60) dX11_laysOut_60 rfl rfl ?_
    refine e_get (pc := 61) fl_X11_7 dX11_laysOut_61 (by repeat (first | assumption | exact hset_eq _ _ _ | (apply Lay.hd; assumption) | rw [hset_ne _ _ (by omega)])) (by rfl) ?_
    refine n_sipush (pc := 64) 130 dX11_laysOut_64 (by decide) ?_
    refine e_iload_n (pc := 67) dX11_laysOut_67 rfl rfl ?_
    refine n_imul (pc := 68) dX11_laysOut_68 ?_
    refine n_iconst (pc := 69) 2 dX11_laysOut_69 (by decide) ?_
    refine n_iadd (pc := 70) dX11_laysOut_70 ?_
    refine e_iload_n (pc := 71) dX11_laysOut_71 rfl rfl ?_
    refine n_iadd (pc := 72) dX11_laysOut_72 ?_
    refine e_ialdN (pc := 73) (130 * a + 2 + k) dX11_laysOut_73 (by repeat (first | assumption | exact hset_eq _ _ _ | (apply Lay.hd; assumption) | rw [hset_ne _ _ (by omega)])) (by rfl) (by omega) (by first | decide | omega) ?_
    rw [z]
    refine e_iastN (pc := 74) k dX11_laysOut_74 (by repeat (first | assumption | exact hset_eq _ _ _ | (apply Lay.hd; assumption) | rw [hset_ne _ _ (by omega)])) (by rfl) (by omega) (by first | decide | omega) ?_
    refine e_heap (hset_hset h (m + 3) _ _) ?_
    refine n_inc (pc := 75) dX11_laysOut_75 rfl (by decide) ?_
    refine e_goto (pc := 78) (tgt := 49) dX11_laysOut_78 (by decide) ?_
    refine ih (k + 1) (by omega) (by omega) _ (fun j hj => ?_)
    by_cases e : j = k
    · subst e; rw [pk_us]
    · rw [pk_un e]; exact h1 j (by omega)
theorem c_X11_laysOut {a p n q : Nat} {s : Ms} {W : Wd} {g : Nat → Int32} (hM : MH h m p n q s) (hR : MRo h m) (hw : h (m + 1) = some (aI 6070 g)) (hW : WdR g (130 * a) W) (hk : Wok W) (ha : a < 6) : CV yX11_laysOut MX11_laysOut [.ref m, .int (nI a)] h (fun h' => Lay h' m W s ∧ ∀ b, b ≠ m → b ≠ m + 3 → h' b = h b) := by
  obtain ⟨b1, b2, b3, b4, b5⟩ := hk.b
  obtain ⟨w1, w2, w3⟩ := hW
  obtain ⟨g0, hc⟩ := hR.row (k := 3) (isR_d _ (by decide))
  refine CV.ofV (by decide) rfl rfl (by simp [Value.category]) (by exact Nat.le_of_ble_eq_true rfl) (fun sz => ?_)
  refine e_aload_n (pc := 0) dX11_laysOut_0 rfl rfl ?_
  refine e_aload_n (pc := 1) dX11_laysOut_1 rfl rfl ?_
  refine e_get (pc := 2) fl_X11_7 dX11_laysOut_2 (by repeat (first | assumption | exact hset_eq _ _ _ | (apply Lay.hd; assumption) | rw [hset_ne _ _ (by omega)])) (by rfl) ?_
  refine n_sipush (pc := 5) 130 dX11_laysOut_5 (by decide) ?_
  refine e_iload_n (pc := 8) dX11_laysOut_8 rfl rfl ?_
  refine n_imul (pc := 9) dX11_laysOut_9 ?_
  refine n_iconst (pc := 10) 0 dX11_laysOut_10 (by decide) ?_
  refine n_iadd (pc := 11) dX11_laysOut_11 ?_
  refine e_ialdN (pc := 12) (130 * a) dX11_laysOut_12 (by repeat (first | assumption | exact hset_eq _ _ _ | (apply Lay.hd; assumption) | rw [hset_ne _ _ (by omega)])) (by rfl) (by omega) (by first | decide | omega) ?_
  rw [w1]
  have hM1 : h m = some (ob 10 (mfs m p n q s)) := hM
  refine e_put (pc := 13) pl_X11_106 dX11_laysOut_13 (by repeat (first | assumption | exact hset_eq _ _ _ | (apply Lay.hd; assumption) | rw [hset_ne _ _ (by omega)])) (by rfl) (by rfl) (by exact Nat.le_of_ble_eq_true rfl) ?_
  refine e_aload_n (pc := 16) dX11_laysOut_16 rfl rfl ?_
  refine e_aload_n (pc := 17) dX11_laysOut_17 rfl rfl ?_
  refine e_get (pc := 18) fl_X11_7 dX11_laysOut_18 (by repeat (first | assumption | exact hset_eq _ _ _ | (apply Lay.hd; assumption) | rw [hset_ne _ _ (by omega)])) (by rfl) ?_
  refine n_sipush (pc := 21) 130 dX11_laysOut_21 (by decide) ?_
  refine e_iload_n (pc := 24) dX11_laysOut_24 rfl rfl ?_
  refine n_imul (pc := 25) dX11_laysOut_25 ?_
  refine n_iconst (pc := 26) 1 dX11_laysOut_26 (by decide) ?_
  refine n_iadd (pc := 27) dX11_laysOut_27 ?_
  refine e_ialdN (pc := 28) (130 * a + 1) dX11_laysOut_28 (by repeat (first | assumption | exact hset_eq _ _ _ | (apply Lay.hd; assumption) | rw [hset_ne _ _ (by omega)])) (by rfl) (by omega) (by first | decide | omega) ?_
  rw [w2]
  refine e_put (pc := 29) pl_X11_109 dX11_laysOut_29 (by repeat (first | assumption | exact hset_eq _ _ _ | (apply Lay.hd; assumption) | rw [hset_ne _ _ (by omega)])) (by rfl) (by rfl) (by exact Nat.le_of_ble_eq_true rfl) ?_
  refine e_heap (hset_hset h m _ _) ?_
  refine e_aload_n (pc := 32) dX11_laysOut_32 rfl rfl ?_
  refine e_aload_n (pc := 33) dX11_laysOut_33 rfl rfl ?_
  refine e_get (pc := 34) fl_X11_106 dX11_laysOut_34 (by repeat (first | assumption | exact hset_eq _ _ _ | (apply Lay.hd; assumption) | rw [hset_ne _ _ (by omega)])) (by rfl) ?_
  refine e_aload_n (pc := 37) dX11_laysOut_37 rfl rfl ?_
  refine e_get (pc := 38) fl_X11_109 dX11_laysOut_38 (by repeat (first | assumption | exact hset_eq _ _ _ | (apply Lay.hd; assumption) | rw [hset_ne _ _ (by omega)])) (by rfl) ?_
  refine n_SP (pc := 41) (c_X11_power (show W.2.1 < 2 ^ 31 by omega)) bX11_power q_st_X11_power q_m_X11_102 dX11_laysOut_41 rfl rfl (by exact Nat.le_of_ble_eq_true rfl) ⟨by decide, by decide⟩ ⟨rfl, rfl, Nat.zero_le _, Nat.zero_le _⟩ ?_
  refine e_put (pc := 44) pl_X11_112 dX11_laysOut_44 (by repeat (first | assumption | exact hset_eq _ _ _ | (apply Lay.hd; assumption) | rw [hset_ne _ _ (by omega)])) (by rfl) (by rfl) (by exact Nat.le_of_ble_eq_true rfl) ?_
  refine e_heap (hset_hset h m _ _) ?_
  refine n_iconst (pc := 47) 0 dX11_laysOut_47 (by decide) ?_
  refine e_istore_n (pc := 48) dX11_laysOut_48 rfl (by decide) ?_
  have hM2 : MH (hset h m (ob 10 (mfs m W.1 W.2.1 (W.1 ^ W.2.1) s))) m W.1 W.2.1 (W.1 ^ W.2.1) s := hset_eq _ _ _
  have hw2 : hset h m (ob 10 (mfs m W.1 W.2.1 (W.1 ^ W.2.1) s)) (m + 1) = some (aI 6070 g) := (hset_ne _ _ (by omega)).trans hw
  have hc2 : hset h m (ob 10 (mfs m W.1 W.2.1 (W.1 ^ W.2.1) s)) (m + 3) = some (aI 125 g0) := (hset_ne _ _ (by omega)).trans hc
  show VV MX11_laysOut sz _ (hset h m (ob 10 (mfs m W.1 W.2.1 (W.1 ^ W.2.1) s))) 49 _ _
  refine e_heap (hset_self hc2).symm ?_
  refine V.post ?_ (l_lays (W := W) hM2 hw2 w3 ha 125 0 rfl (Nat.zero_le _) g0 (fun j hj => absurd hj (Nat.not_lt_zero j)))
  intro r h' z qq
  obtain ⟨e1, e2, g2, rfl, e3⟩ := qq
  exact ⟨e1, e2, ⟨(hset_ne _ _ (by omega)).trans hM2, ⟨g2, hset_eq _ _ _, e3⟩, MRo.set hR.hd (isR_d 3 (by decide)) rfl⟩, fun b q1 q2 => by rw [hset_ne _ _ q2, hset_ne _ _ q1]⟩
theorem c_X11_orderOf {a p n q : Nat} {s : Ms} {W : Wd} {g : Nat → Int32} (hM : MH h m p n q s) (hw : h (m + 1) = some (aI 6070 g)) (hW : WdR g (130 * a) W) (hk : Wok W) (ha : a < 6) : CP yX11_orderOf MX11_orderOf [.ref m, .int (nI a)] h (nI (W.1 ^ W.2.1)) := by
  obtain ⟨b1, b2, b3, b4, b5⟩ := hk.b
  obtain ⟨w1, w2, w3⟩ := hW
  refine CI.ofV (by decide) rfl rfl (by simp [Value.category]) (by exact Nat.le_of_ble_eq_true rfl) (fun sz => ?_)
  refine e_aload_n (pc := 0) dX11_orderOf_0 rfl rfl ?_
  refine e_get (pc := 1) fl_X11_7 dX11_orderOf_1 (by repeat (first | assumption | exact hset_eq _ _ _ | (apply Lay.hd; assumption) | rw [hset_ne _ _ (by omega)])) (by rfl) ?_
  refine n_sipush (pc := 4) 130 dX11_orderOf_4 (by decide) ?_
  refine e_iload_n (pc := 7) dX11_orderOf_7 rfl rfl ?_
  refine n_imul (pc := 8) dX11_orderOf_8 ?_
  refine n_iconst (pc := 9) 0 dX11_orderOf_9 (by decide) ?_
  refine n_iadd (pc := 10) dX11_orderOf_10 ?_
  refine e_ialdN (pc := 11) (130 * a) dX11_orderOf_11 (by repeat (first | assumption | exact hset_eq _ _ _ | (apply Lay.hd; assumption) | rw [hset_ne _ _ (by omega)])) (by rfl) (by omega) (by first | decide | omega) ?_
  rw [w1]
  refine e_aload_n (pc := 12) dX11_orderOf_12 rfl rfl ?_
  refine e_get (pc := 13) fl_X11_7 dX11_orderOf_13 (by repeat (first | assumption | exact hset_eq _ _ _ | (apply Lay.hd; assumption) | rw [hset_ne _ _ (by omega)])) (by rfl) ?_
  refine n_sipush (pc := 16) 130 dX11_orderOf_16 (by decide) ?_
  refine e_iload_n (pc := 19) dX11_orderOf_19 rfl rfl ?_
  refine n_imul (pc := 20) dX11_orderOf_20 ?_
  refine n_iconst (pc := 21) 1 dX11_orderOf_21 (by decide) ?_
  refine n_iadd (pc := 22) dX11_orderOf_22 ?_
  refine e_ialdN (pc := 23) (130 * a + 1) dX11_orderOf_23 (by repeat (first | assumption | exact hset_eq _ _ _ | (apply Lay.hd; assumption) | rw [hset_ne _ _ (by omega)])) (by rfl) (by omega) (by first | decide | omega) ?_
  rw [w2]
  refine n_SP (pc := 24) (c_X11_power (show W.2.1 < 2 ^ 31 by omega)) bX11_power q_st_X11_power q_m_X11_102 dX11_orderOf_24 rfl rfl (by exact Nat.le_of_ble_eq_true rfl) ⟨by decide, by decide⟩ ⟨rfl, rfl, Nat.zero_le _, Nat.zero_le _⟩ ?_
  exact n_iret (pc := 27) dX11_orderOf_27 rfl ⟨rfl, rfl⟩
def elB (x : Sx) (a u : Int32) : Bool := okI a 6 && okI u ((wld x a).1 ^ (wld x a).2.1)
theorem wld_nI {a : Nat} (ha : a < 6) : wld x (nI a) = x.ws a := by unfold wld; rw [cl_nI (by omega)]
theorem c_X11_isElement (hX : MAt h m x y ik len f ft fp) (hx : SxOk x) (a u : Int32) : CP yX11_isElement MX11_isElement [.ref m, .int a, .int u] h (bI (elB x a u)) := by
  obtain ⟨⟨p, n, q, s, hM, hs⟩, hR, ⟨g, hw, hg⟩, -⟩ := id hX
  refine CI.ofV (by decide) rfl rfl (by simp [Value.category]) (by exact Nat.le_of_ble_eq_true rfl) (fun sz => ?_)
  refine e_iload_n (pc := 0) dX11_isElement_0 rfl rfl ?_
  refine n_SP (pc := 1) (c_X11_isWorld a) bX11_isWorld q_st_X11_isWorld q_m_X11_143 dX11_isElement_1 rfl rfl (by exact Nat.le_of_ble_eq_true rfl) ⟨by decide, by decide⟩ ⟨rfl, rfl, Nat.zero_le _, Nat.zero_le _⟩ ?_
  refine n_bif_eq (pc := 4) (tgt := 26) dX11_isElement_4 (by decide) (fun c => ?_) (fun c => ?_)
  · refine n_iconst (pc := 26) 0 dX11_isElement_26 (by decide) ?_
    exact n_zret (pc := 27) dX11_isElement_27 rfl rfl ⟨by unfold elB; rw [c]; rfl, rfl⟩
  · obtain ⟨a', ha, rfl⟩ := okI_of (by decide) c
    have wk := hx.1 a' (by omega)
    have b := wk.b
    have pos := wk.pos
    refine e_iload_n (pc := 7) dX11_isElement_7 rfl rfl ?_
    refine n_iconst (pc := 8) 0 dX11_isElement_8 (by decide) ?_
    refine e_aload_n (pc := 9) dX11_isElement_9 rfl rfl ?_
    refine e_iload_n (pc := 10) dX11_isElement_10 rfl rfl ?_
    refine n_VP (pc := 11) (c_X11_orderOf hM hw (hg.1 a' ha) wk ha) bX11_orderOf q_i_X11_orderOf q_s_X11_orderOf q_m_X11_309 dX11_isElement_11 rfl rfl (by repeat (first | assumption | exact hset_eq _ _ _ | (apply Lay.hd; assumption) | rw [hset_ne _ _ (by omega)])) rfl rfl (by exact Nat.le_of_ble_eq_true rfl) ⟨by decide, by decide⟩ ⟨rfl, rfl, Nat.zero_le _, Nat.zero_le _⟩ ?_
    refine n_iconst (pc := 14) 1 dX11_isElement_14 (by decide) ?_
    refine n_isub (pc := 15) dX11_isElement_15 (by omega) ?_
    refine n_SP (pc := 16) (c_X11_isIn u (nI 0) (nI ((x.ws a').1 ^ (x.ws a').2.1 - 1))) bX11_isIn q_st_X11_isIn q_m_X11_98 dX11_isElement_16 rfl rfl (by exact Nat.le_of_ble_eq_true rfl) ⟨by decide, by decide⟩ ⟨rfl, rfl, Nat.zero_le _, Nat.zero_le _⟩ ?_
    rw [inB_m pos (by omega)]
    have e : elB x (nI a') u = okI u ((x.ws a').1 ^ (x.ws a').2.1) := by unfold elB; rw [ok6 ha, wld_nI ha, Bool.true_and]
    refine n_bif_eq (pc := 19) (tgt := 26) dX11_isElement_19 (by decide) (fun c2 => ?_) (fun c2 => ?_)
    · refine n_iconst (pc := 26) 0 dX11_isElement_26 (by decide) ?_
      exact n_zret (pc := 27) dX11_isElement_27 rfl rfl ⟨by rw [e, c2]; rfl, rfl⟩
    · refine n_iconst (pc := 22) 1 dX11_isElement_22 (by decide) ?_
      refine e_goto (pc := 23) (tgt := 27) dX11_isElement_23 (by decide) ?_
      exact n_zret (pc := 27) dX11_isElement_27 rfl rfl ⟨by rw [e, c2]; rfl, rfl⟩
theorem c_X11_areOfOneSize (hX : MAt h m x y ik len f ft fp) (hx : SxOk x) (a b : Int32) : CP yX11_areOfOneSize MX11_areOfOneSize [.ref m, .int a, .int b] h (bI (alB x a b)) := by
  obtain ⟨⟨p, n, q, s, hM, hs⟩, hR, ⟨g, hw, hg⟩, -⟩ := id hX
  refine CI.ofV (by decide) rfl rfl (by simp [Value.category]) (by exact Nat.le_of_ble_eq_true rfl) (fun sz => ?_)
  refine e_iload_n (pc := 0) dX11_areOfOneSize_0 rfl rfl ?_
  refine n_SP (pc := 1) (c_X11_isWorld a) bX11_isWorld q_st_X11_isWorld q_m_X11_143 dX11_areOfOneSize_1 rfl rfl (by exact Nat.le_of_ble_eq_true rfl) ⟨by decide, by decide⟩ ⟨rfl, rfl, Nat.zero_le _, Nat.zero_le _⟩ ?_
  refine n_bif_eq (pc := 4) (tgt := 72) dX11_areOfOneSize_4 (by decide) (fun c => ?_) (fun c => ?_)
  · refine n_iconst (pc := 72) 0 dX11_areOfOneSize_72 (by decide) ?_
    exact n_zret (pc := 73) dX11_areOfOneSize_73 rfl rfl ⟨by unfold alB; rw [c]; rfl, rfl⟩
  refine e_iload_n (pc := 7) dX11_areOfOneSize_7 rfl rfl ?_
  refine n_SP (pc := 8) (c_X11_isWorld b) bX11_isWorld q_st_X11_isWorld q_m_X11_143 dX11_areOfOneSize_8 rfl rfl (by exact Nat.le_of_ble_eq_true rfl) ⟨by decide, by decide⟩ ⟨rfl, rfl, Nat.zero_le _, Nat.zero_le _⟩ ?_
  refine n_bif_eq (pc := 11) (tgt := 72) dX11_areOfOneSize_11 (by decide) (fun c2 => ?_) (fun c2 => ?_)
  · refine n_iconst (pc := 72) 0 dX11_areOfOneSize_72 (by decide) ?_
    exact n_zret (pc := 73) dX11_areOfOneSize_73 rfl rfl ⟨by unfold alB; rw [c2, Bool.false_and, Bool.and_false]; rfl, rfl⟩
  obtain ⟨a', ha, rfl⟩ := okI_of (by decide) c
  obtain ⟨b', hb, rfl⟩ := okI_of (by decide) c2
  have ka := (hx.1 a' (by omega)).b
  have kb := (hx.1 b' (by omega)).b
  obtain ⟨w1, w2, -⟩ := hg.1 a' ha
  obtain ⟨v1, v2, -⟩ := hg.1 b' hb
  have e : alB x (nI a') (nI b') = (decide ((x.ws a').1 = (x.ws b').1) && decide ((x.ws a').2.1 = (x.ws b').2.1)) := by unfold alB; rw [ok6 ha, ok6 hb, wld_nI ha, wld_nI hb, Bool.true_and, Bool.true_and]
  rw [e]
  refine e_aload_n (pc := 14) dX11_areOfOneSize_14 rfl rfl ?_
  refine e_get (pc := 15) fl_X11_7 dX11_areOfOneSize_15 (by repeat (first | assumption | exact hset_eq _ _ _ | (apply Lay.hd; assumption) | rw [hset_ne _ _ (by omega)])) (by rfl) ?_
  refine n_sipush (pc := 18) 130 dX11_areOfOneSize_18 (by decide) ?_
  refine e_iload_n (pc := 21) dX11_areOfOneSize_21 rfl rfl ?_
  refine n_imul (pc := 22) dX11_areOfOneSize_22 ?_
  refine n_iconst (pc := 23) 0 dX11_areOfOneSize_23 (by decide) ?_
  refine n_iadd (pc := 24) dX11_areOfOneSize_24 ?_
  refine e_ialdN (pc := 25) (130 * a') dX11_areOfOneSize_25 (by repeat (first | assumption | exact hset_eq _ _ _ | (apply Lay.hd; assumption) | rw [hset_ne _ _ (by omega)])) (by rfl) (by omega) (by first | decide | omega) ?_
  rw [w1]
  refine e_aload_n (pc := 26) dX11_areOfOneSize_26 rfl rfl ?_
  refine e_get (pc := 27) fl_X11_7 dX11_areOfOneSize_27 (by repeat (first | assumption | exact hset_eq _ _ _ | (apply Lay.hd; assumption) | rw [hset_ne _ _ (by omega)])) (by rfl) ?_
  refine n_sipush (pc := 30) 130 dX11_areOfOneSize_30 (by decide) ?_
  refine e_iload_n (pc := 33) dX11_areOfOneSize_33 rfl rfl ?_
  refine n_imul (pc := 34) dX11_areOfOneSize_34 ?_
  refine n_iconst (pc := 35) 0 dX11_areOfOneSize_35 (by decide) ?_
  refine n_iadd (pc := 36) dX11_areOfOneSize_36 ?_
  refine e_ialdN (pc := 37) (130 * b') dX11_areOfOneSize_37 (by repeat (first | assumption | exact hset_eq _ _ _ | (apply Lay.hd; assumption) | rw [hset_ne _ _ (by omega)])) (by rfl) (by omega) (by first | decide | omega) ?_
  rw [v1]
  refine n_icmp_ne (pc := 38) (tgt := 72) dX11_areOfOneSize_38 (by decide) (by omega) (by omega) (fun c3 => ?_) (fun c3 => ?_)
  · refine n_iconst (pc := 72) 0 dX11_areOfOneSize_72 (by decide) ?_
    exact n_zret (pc := 73) dX11_areOfOneSize_73 rfl rfl ⟨by rw [decide_eq_false c3]; rfl, rfl⟩
  refine e_aload_n (pc := 41) dX11_areOfOneSize_41 rfl rfl ?_
  refine e_get (pc := 42) fl_X11_7 dX11_areOfOneSize_42 (by repeat (first | assumption | exact hset_eq _ _ _ | (apply Lay.hd; assumption) | rw [hset_ne _ _ (by omega)])) (by rfl) ?_
  refine n_sipush (pc := 45) 130 dX11_areOfOneSize_45 (by decide) ?_
  refine e_iload_n (pc := 48) dX11_areOfOneSize_48 rfl rfl ?_
  refine n_imul (pc := 49) dX11_areOfOneSize_49 ?_
  refine n_iconst (pc := 50) 1 dX11_areOfOneSize_50 (by decide) ?_
  refine n_iadd (pc := 51) dX11_areOfOneSize_51 ?_
  refine e_ialdN (pc := 52) (130 * a' + 1) dX11_areOfOneSize_52 (by repeat (first | assumption | exact hset_eq _ _ _ | (apply Lay.hd; assumption) | rw [hset_ne _ _ (by omega)])) (by rfl) (by omega) (by first | decide | omega) ?_
  rw [w2]
  refine e_aload_n (pc := 53) dX11_areOfOneSize_53 rfl rfl ?_
  refine e_get (pc := 54) fl_X11_7 dX11_areOfOneSize_54 (by repeat (first | assumption | exact hset_eq _ _ _ | (apply Lay.hd; assumption) | rw [hset_ne _ _ (by omega)])) (by rfl) ?_
  refine n_sipush (pc := 57) 130 dX11_areOfOneSize_57 (by decide) ?_
  refine e_iload_n (pc := 60) dX11_areOfOneSize_60 rfl rfl ?_
  refine n_imul (pc := 61) dX11_areOfOneSize_61 ?_
  refine n_iconst (pc := 62) 1 dX11_areOfOneSize_62 (by decide) ?_
  refine n_iadd (pc := 63) dX11_areOfOneSize_63 ?_
  refine e_ialdN (pc := 64) (130 * b' + 1) dX11_areOfOneSize_64 (by repeat (first | assumption | exact hset_eq _ _ _ | (apply Lay.hd; assumption) | rw [hset_ne _ _ (by omega)])) (by rfl) (by omega) (by first | decide | omega) ?_
  rw [v2]
  refine n_icmp_ne (pc := 65) (tgt := 72) dX11_areOfOneSize_65 (by decide) (by omega) (by omega) (fun c4 => ?_) (fun c4 => ?_)
  · refine n_iconst (pc := 72) 0 dX11_areOfOneSize_72 (by decide) ?_
    exact n_zret (pc := 73) dX11_areOfOneSize_73 rfl rfl ⟨by rw [decide_eq_false c4, Bool.and_false]; rfl, rfl⟩
  · refine n_iconst (pc := 68) 1 dX11_areOfOneSize_68 (by decide) ?_
    refine e_goto (pc := 69) (tgt := 73) dX11_areOfOneSize_69 (by decide) ?_
    exact n_zret (pc := 73) dX11_areOfOneSize_73 rfl rfl ⟨by rw [decide_eq_true c3, decide_eq_true c4]; rfl, rfl⟩
/-- laid out from the object -/
theorem MAt.laid {h2 : AH} {p n q : Nat} {W : Wd} {s : Ms} (hX : MAt h m x y ik len f ft fp) (hs : Pst s ik len ft fp) (l : Lay h2 m W s ∧ ∀ b, b ≠ m → b ≠ m + 3 → h2 b = h b) : MAt h2 m x y ik len f ft fp ∧ FmC m h h2 := by
  have e : FmC m h h2 := fun b q => l.2 b (by omega) (by omega)
  exact ⟨hX.re l.1.1 hs l.1.2.2 e, e⟩
theorem c_X11_product (hX : MAt h m x y ik len f ft fp) (hx : SxOk x) (w u v : Int32) : CI yX11_product MX11_product [.ref m, .int w, .int u, .int v] h (fun z h' => Q_prod x w u v z ∧ MAt h' m x y ik len f ft fp ∧ Er m (m + 107) h h') := by
  obtain ⟨⟨p, n, q, s, hM, hs⟩, hR, ⟨g, hw, hg⟩, -⟩ := id hX
  have no : (okI w 6 && (okI u ((wld x w).1 ^ (wld x w).2.1) && okI v ((wld x w).1 ^ (wld x w).2.1))) = false → ∀ (sz : Nat) (l : List (Option Value)), VI MX11_product sz (fun z h' => Q_prod x w u v z ∧ MAt h' m x y ik len f ft fp ∧ Er m (m + 107) h h') h 18 l [] := fun q sz l => by
    refine e_iconst (pc := 18) (v := -1) dX11_product_18 (by decide) ?_
    exact n_iret (pc := 19) dX11_product_19 rfl ⟨qF q rfl, hX, Er.rf _ _ _⟩
  refine CI.ofV (by decide) rfl rfl (by simp [Value.category]) (by exact Nat.le_of_ble_eq_true rfl) (fun sz => ?_)
  refine e_aload_n (pc := 0) dX11_product_0 rfl rfl ?_
  refine e_iload_n (pc := 1) dX11_product_1 rfl rfl ?_
  refine e_iload_n (pc := 2) dX11_product_2 rfl rfl ?_
  refine n_VP (pc := 3) (c_X11_isElement hX hx w u) bX11_isElement q_i_X11_isElement q_s_X11_isElement q_m_X11_312 dX11_product_3 rfl rfl (by repeat (first | assumption | exact hset_eq _ _ _ | (apply Lay.hd; assumption) | rw [hset_ne _ _ (by omega)])) rfl rfl (by exact Nat.le_of_ble_eq_true rfl) ⟨by decide, by decide⟩ ⟨rfl, rfl, Nat.zero_le _, Nat.zero_le _⟩ ?_
  refine n_bif_eq (pc := 6) (tgt := 18) dX11_product_6 (by decide) (fun c => ?_) (fun c => ?_)
  · refine no ?_ sz _
    unfold elB at c
    cases e : okI w 6 with
    | false => rfl
    | true => rw [e, Bool.true_and] at c; rw [c]; rfl
  refine e_aload_n (pc := 9) dX11_product_9 rfl rfl ?_
  refine e_iload_n (pc := 10) dX11_product_10 rfl rfl ?_
  refine e_iload_n (pc := 11) dX11_product_11 rfl rfl ?_
  refine n_VP (pc := 12) (c_X11_isElement hX hx w v) bX11_isElement q_i_X11_isElement q_s_X11_isElement q_m_X11_312 dX11_product_12 rfl rfl (by repeat (first | assumption | exact hset_eq _ _ _ | (apply Lay.hd; assumption) | rw [hset_ne _ _ (by omega)])) rfl rfl (by exact Nat.le_of_ble_eq_true rfl) ⟨by decide, by decide⟩ ⟨rfl, rfl, Nat.zero_le _, Nat.zero_le _⟩ ?_
  have d := c
  unfold elB at d
  rw [Bool.and_eq_true] at d
  obtain ⟨d1, d2⟩ := d
  refine n_bif_ne (pc := 15) (tgt := 20) dX11_product_15 (by decide) (fun c2 => ?_) (fun c2 => ?_)
  · unfold elB at c2
    rw [d1, Bool.true_and] at c2
    obtain ⟨a, ha, rfl⟩ := okI_of (by decide) d1
    rw [wld_nI ha] at d2 c2
    have wk := hx.1 a (by omega)
    have b := wk.b
    obtain ⟨u', hu, rfl⟩ := okI_of (by omega) d2
    obtain ⟨v', hv, rfl⟩ := okI_of (by omega) c2
    refine e_aload_n (pc := 20) dX11_product_20 rfl rfl ?_
    refine e_iload_n (pc := 21) dX11_product_21 rfl rfl ?_
    refine n_Vv (pc := 22) (c_X11_laysOut hM hR hw (hg.1 a ha) wk ha) bX11_laysOut q_i_X11_laysOut q_s_X11_laysOut q_m_X11_147 dX11_product_22 rfl rfl (by repeat (first | assumption | exact hset_eq _ _ _ | (apply Lay.hd; assumption) | rw [hset_ne _ _ (by omega)])) rfl rfl (by exact Nat.le_of_ble_eq_true rfl) ⟨by decide, by decide⟩ ⟨rfl, rfl, Nat.zero_le _, Nat.zero_le _⟩ (fun h2 hp => ?_)
    obtain ⟨hX2, q2⟩ := hX.laid (p := p) (n := n) (q := q) hs hp
    obtain ⟨l2, -⟩ := id hp
    refine e_aload_n (pc := 25) dX11_product_25 rfl rfl ?_
    refine e_iload_n (pc := 26) dX11_product_26 rfl rfl ?_
    refine e_iload_n (pc := 27) dX11_product_27 rfl rfl ?_
    refine n_V (pc := 28) (c_X11_times hp.1 wk (show u' < 2 ^ 31 by omega) (show v' < 2 ^ 31 by omega)) bX11_times q_i_X11_times q_s_X11_times q_m_X11_266 dX11_product_28 rfl rfl (by repeat (first | assumption | exact hset_eq _ _ _ | (apply Lay.hd; assumption) | rw [hset_ne _ _ (by omega)])) rfl rfl (by exact Nat.le_of_ble_eq_true rfl) ⟨by decide, by decide⟩ ⟨rfl, rfl, Nat.zero_le _, Nat.zero_le _⟩ (fun z h3 hp3 => ?_)
    obtain ⟨rfl, p1, p2⟩ := hp3
    refine n_iret (pc := 31) dX11_product_31 rfl ⟨qT (by rw [ok6 ha, wld_nI ha, d2, c2]; rfl) ?_, hX2.re p1.1 hs p1.2.2 p2.ff.qf, (q2.tr p2.ff.qf).er⟩
    rw [wld_nI ha, cl_nI (by omega), cl_nI (by omega)]
  · refine no ?_ sz _
    unfold elB at c2
    rw [d1, Bool.true_and] at c2
    rw [c2, Bool.and_false, Bool.and_false]
end MT
