/-! ===== what the law asks of its table; its cube beside the class's ===== -/
theorem isU_iff {W : Wd} (hk : Wok W) (e : Nat) : isU W e ↔ ∀ x, x < W.1 ^ W.2.1 → mul W e x = x ∧ mul W x e = x := by
  have b := hk.b
  constructor
  · intro h x hx
    constructor
    · rw [mul_lin_r hk, lin_congr (cs := fun i => W.1 ^ i) (fun i hi => (h i hi).1)]
      exact lin_id (by omega) b.2.2.2.1 hx
    · rw [mul_lin_l hk, lin_congr (cs := fun i => W.1 ^ i) (fun i hi => (h i hi).2)]
      exact lin_id (by omega) b.2.2.2.1 hx
  · intro h i hi
    exact h _ (pw_q hk hi)
section LD
variable {ro : RT} {h : AH} {w tb zq : Nat} {W : Wd}
theorem l_fa_y {x : Nat} {Pr : Int32 → AH → Prop} (hW : LW h w W (.ref tb)) (hT : Tb h tb (W.1 ^ W.2.1) (mul W)) (hk : Wok W) (hx0 : 0 < x) (hx : x < W.1 ^ W.2.1) (hb : ∀ a b, 0 < a → a < x → 0 < b → b < W.1 ^ W.2.1 → mul W a b ≠ 0) (hf : ∀ z, Fail W z → Pr z h) (kk : (∀ b, 0 < b → b < W.1 ^ W.2.1 → mul W x b ≠ 0) → VIS ro MX11_fail zq Pr h 46 [some (.ref w), some (.int (nI x)), none] []) :
    ∀ (m y : Nat), m = W.1 ^ W.2.1 - y → 1 ≤ y → y ≤ W.1 ^ W.2.1 → (∀ b, 0 < b → b < y → mul W x b ≠ 0) → VIS ro MX11_fail zq Pr h 12 [some (.ref w), some (.int (nI x)), some (.int (nI y))] [] := by
  have bb := hk.b
  obtain ⟨w1, -⟩ := id hW
  obtain ⟨t1, t2⟩ := id hT
  obtain ⟨g, q1, q2⟩ := t2 _ hx
  intro m
  induction m with
  | zero =>
    intro y e1 e0 e2 hy
    have : y = W.1 ^ W.2.1 := by omega
    subst this
    refine ze_iload_n (pc := 12) dX11_fail_12 rfl rfl ?_
    refine ze_aload_n (pc := 13) dX11_fail_13 rfl rfl ?_
    refine ze_get (pc := 14) fl_X11_16 dX11_fail_14 (by repeat (first | assumption | exact hset_eq _ _ _ | rw [hset_ne _ _ (by omega)])) (by rfl) ?_
    refine zn_icmp_ge (pc := 17) (tgt := 46) dX11_fail_17 (by decide) (by omega) (by omega) (fun c => ?_) (fun c => absurd c (by omega))
    refine VS.mask [true, true, false] ?_
    exact kk hy
  | succ m ih =>
    intro y e1 e0 e2 hy
    have hyq : y < W.1 ^ W.2.1 := by omega
    have hm := mul_lt hk x y
    refine ze_iload_n (pc := 12) dX11_fail_12 rfl rfl ?_
    refine ze_aload_n (pc := 13) dX11_fail_13 rfl rfl ?_
    refine ze_get (pc := 14) fl_X11_16 dX11_fail_14 (by repeat (first | assumption | exact hset_eq _ _ _ | rw [hset_ne _ _ (by omega)])) (by rfl) ?_
    refine zn_icmp_ge (pc := 17) (tgt := 46) dX11_fail_17 (by decide) (by omega) (by omega) (fun c => absurd c (by omega)) (fun c => ?_)
    refine ze_aload_n (pc := 20) dX11_fail_20 rfl rfl ?_
    refine ze_get (pc := 21) fl_X11_38 dX11_fail_21 (by repeat (first | assumption | exact hset_eq _ _ _ | rw [hset_ne _ _ (by omega)])) (by rfl) ?_
    refine ze_iload_n (pc := 24) dX11_fail_24 rfl rfl ?_
    refine ze_aldGS (pc := 25) (x) dX11_fail_25 (by repeat (first | assumption | exact hset_eq _ _ _ | rw [hset_ne _ _ (by omega)])) (by rfl) (by omega) (by first | decide | omega) (if_pos hx) ?_
    refine ze_iload_n (pc := 26) dX11_fail_26 rfl rfl ?_
    refine ze_ialdN (pc := 27) (y) dX11_fail_27 (by repeat (first | assumption | exact hset_eq _ _ _ | rw [hset_ne _ _ (by omega)])) (by rfl) (by omega) (by first | decide | omega) ?_
    refine ze_top (q2 y hyq) ?_
    refine zn_if_ne (pc := 28) (tgt := 40) dX11_fail_28 (by decide) (by omega) (fun c => ?_) (fun c => ?_)
    · refine zn_inc (pc := 40) dX11_fail_40 rfl (by decide) ?_
      refine ze_goto (pc := 43) (tgt := 12) dX11_fail_43 (by decide) ?_
      refine ih (y + 1) (by omega) (by omega) (by omega) (fun b b0 b1 => ?_)
      by_cases e : b = y
      · rw [e]; exact c
      · exact hy b b0 (by omega)
    · refine ze_aload_n (pc := 31) dX11_fail_31 rfl rfl ?_
      refine ze_get (pc := 32) fl_X11_16 dX11_fail_32 (by repeat (first | assumption | exact hset_eq _ _ _ | rw [hset_ne _ _ (by omega)])) (by rfl) ?_
      refine ze_iload_n (pc := 35) dX11_fail_35 rfl rfl ?_
      refine zn_imul (pc := 36) dX11_fail_36 ?_
      refine ze_iload_n (pc := 37) dX11_fail_37 rfl rfl ?_
      refine zn_iadd (pc := 38) dX11_fail_38 ?_
      exact zn_iret dX11_fail_39 rfl (hf _ (Or.inl ⟨x, y, rfl, hx0, hx, by omega, hyq, c, hb, hy⟩))
theorem l_fa_x {Pr : Int32 → AH → Prop} (hW : LW h w W (.ref tb)) (hT : Tb h tb (W.1 ^ W.2.1) (mul W)) (hk : Wok W) (hf : ∀ z, Fail W z → Pr z h) :
    ∀ (m x : Nat), m = W.1 ^ W.2.1 - x → 1 ≤ x → x ≤ W.1 ^ W.2.1 → (∀ a b, 0 < a → a < x → 0 < b → b < W.1 ^ W.2.1 → mul W a b ≠ 0) → VIS ro MX11_fail zq Pr h 2 [some (.ref w), some (.int (nI x)), none] [] := by
  have bb := hk.b
  obtain ⟨w1, -⟩ := id hW
  intro m
  induction m with
  | zero =>
    intro x e1 e0 e2 hx
    have : x = W.1 ^ W.2.1 := by omega
    subst this
    refine ze_iload_n (pc := 2) dX11_fail_2 rfl rfl ?_
    refine ze_aload_n (pc := 3) dX11_fail_3 rfl rfl ?_
    refine ze_get (pc := 4) fl_X11_16 dX11_fail_4 (by repeat (first | assumption | exact hset_eq _ _ _ | rw [hset_ne _ _ (by omega)])) (by rfl) ?_
    refine zn_icmp_ge (pc := 7) (tgt := 52) dX11_fail_7 (by decide) (by omega) (by omega) (fun c => ?_) (fun c => absurd c (by omega))
    refine ze_iconst (pc := 52) (v := -1) dX11_fail_52 (by decide) ?_
    exact zn_iret dX11_fail_53 rfl (hf _ (Or.inr ⟨rfl, hx⟩))
  | succ m ih =>
    intro x e1 e0 e2 hx
    refine ze_iload_n (pc := 2) dX11_fail_2 rfl rfl ?_
    refine ze_aload_n (pc := 3) dX11_fail_3 rfl rfl ?_
    refine ze_get (pc := 4) fl_X11_16 dX11_fail_4 (by repeat (first | assumption | exact hset_eq _ _ _ | rw [hset_ne _ _ (by omega)])) (by rfl) ?_
    refine zn_icmp_ge (pc := 7) (tgt := 52) dX11_fail_7 (by decide) (by omega) (by omega) (fun c => absurd c (by omega)) (fun c => ?_)
    refine zn_iconst (pc := 10) 1 dX11_fail_10 (by decide) ?_
    refine ze_istore_n (pc := 11) dX11_fail_11 rfl (by decide) ?_
    refine l_fa_y hW hT hk (by omega) (by omega) hx hf (fun hy => ?_) (W.1 ^ W.2.1 - 1) 1 rfl (by omega) hk.pos (fun b b0 b1 => absurd b0 (by omega))
    refine zn_inc (pc := 46) dX11_fail_46 rfl (by decide) ?_
    refine ze_goto (pc := 49) (tgt := 2) dX11_fail_49 (by decide) ?_
    refine ih (x + 1) (by omega) (by omega) (by omega) (fun a b a0 a1 b0 b1 => ?_)
    by_cases e : a = x
    · rw [e]; exact hy b b0 b1
    · exact hx a b a0 (by omega) b0 b1
theorem c_X11_fail (hW : LW h w W (.ref tb)) (hT : Tb h tb (W.1 ^ W.2.1) (mul W)) (hk : Wok W) : CIS ro yX11_fail MX11_fail [.ref w] h (fun z h' => Fail W z ∧ h' = h) := by
  refine CIS.ofV (by decide) rfl rfl (by simp [Value.category]) (by exact Nat.le_of_ble_eq_true rfl) (fun sz => ?_)
  refine zn_iconst (pc := 0) 1 dX11_fail_0 (by decide) ?_
  refine ze_istore_n (pc := 1) dX11_fail_1 rfl (by decide) ?_
  exact l_fa_x hW hT hk (fun z hz => ⟨hz, rfl⟩) (W.1 ^ W.2.1 - 1) 1 rfl (by omega) hk.pos (fun a b a0 a1 => absurd a0 (by omega))
-- the unit
theorem l_un_x {e : Nat} {Pr : Int32 → AH → Prop} (hW : LW h w W (.ref tb)) (hT : Tb h tb (W.1 ^ W.2.1) (mul W)) (hk : Wok W) (he : e < W.1 ^ W.2.1) (hy : (∀ x, x < W.1 ^ W.2.1 → mul W e x = x ∧ mul W x e = x) → Pr (nI e) h) (hn : ¬ (∀ x, x < W.1 ^ W.2.1 → mul W e x = x ∧ mul W x e = x) → VIS ro MX11_unit zq Pr h 68 [some (.ref w), some (.int (nI e)), none, none] []) :
    ∀ (m x : Nat) (is : Bool), m = W.1 ^ W.2.1 - x → x ≤ W.1 ^ W.2.1 → (is = true ↔ ∀ y, y < x → mul W e y = y ∧ mul W y e = y) → VIS ro MX11_unit zq Pr h 14 [some (.ref w), some (.int (nI e)), some (.int (bI is)), some (.int (nI x))] [] := by
  have bb := hk.b
  obtain ⟨w1, -⟩ := id hW
  obtain ⟨t1, t2⟩ := id hT
  obtain ⟨g, q1, q2⟩ := t2 _ he
  have fin : ∀ (x : Nat) (is : Bool), (is = true → ∀ x, x < W.1 ^ W.2.1 → mul W e x = x ∧ mul W x e = x) → (is = false → ¬ ∀ x, x < W.1 ^ W.2.1 → mul W e x = x ∧ mul W x e = x) → VIS ro MX11_unit zq Pr h 62 [some (.ref w), some (.int (nI e)), some (.int (bI is)), some (.int (nI x))] [] := fun x is i1 i2 => by
    refine ze_iload_n (pc := 62) dX11_unit_62 rfl rfl ?_
    cases is with
    | true =>
      refine ze_if_eq (pc := 63) (tgt := 68) dX11_unit_63 (by decide) (fun c => absurd c (by decide)) (fun _ => ?_)
      refine ze_iload_n (pc := 66) dX11_unit_66 rfl rfl ?_
      exact zn_iret dX11_unit_67 rfl (hy (i1 rfl))
    | false =>
      refine ze_if_eq (pc := 63) (tgt := 68) dX11_unit_63 (by decide) (fun _ => ?_) (fun c => absurd rfl c)
      refine VS.mask [true, true, false, false] ?_
      exact hn (i2 rfl)
  intro m
  induction m with
  | zero =>
    intro x is e1 e2 hi
    have : x = W.1 ^ W.2.1 := by omega
    subst this
    refine ze_iload_n (pc := 14) dX11_unit_14 rfl rfl ?_
    refine ze_aload_n (pc := 15) dX11_unit_15 rfl rfl ?_
    refine ze_get (pc := 16) fl_X11_16 dX11_unit_16 (by repeat (first | assumption | exact hset_eq _ _ _ | rw [hset_ne _ _ (by omega)])) (by rfl) ?_
    refine zn_icmp_ge (pc := 19) (tgt := 62) dX11_unit_19 (by decide) (by omega) (by omega) (fun c => ?_) (fun c => absurd c (by omega))
    exact fin _ is (fun q => hi.mp q) (fun q z => by rw [hi.mpr z] at q; cases q)
  | succ m ih =>
    intro x is e1 e2 hi
    have hxq : x < W.1 ^ W.2.1 := by omega
    obtain ⟨gx, r1, r2⟩ := t2 _ hxq
    have m1 := mul_lt hk e x
    have m2 := mul_lt hk x e
    refine ze_iload_n (pc := 14) dX11_unit_14 rfl rfl ?_
    refine ze_aload_n (pc := 15) dX11_unit_15 rfl rfl ?_
    refine ze_get (pc := 16) fl_X11_16 dX11_unit_16 (by repeat (first | assumption | exact hset_eq _ _ _ | rw [hset_ne _ _ (by omega)])) (by rfl) ?_
    refine zn_icmp_ge (pc := 19) (tgt := 62) dX11_unit_19 (by decide) (by omega) (by omega) (fun c => absurd c (by omega)) (fun c => ?_)
    refine ze_iload_n (pc := 22) dX11_unit_22 rfl rfl ?_
    cases is with
    | false =>
      refine ze_if_eq (pc := 23) (tgt := 62) dX11_unit_23 (by decide) (fun _ => ?_) (fun c => absurd rfl c)
      exact fin _ false (fun q => by cases q) (fun _ z => by have := hi.mpr (fun y hy => z y (by omega)); cases this)
    | true =>
      refine ze_if_eq (pc := 23) (tgt := 62) dX11_unit_23 (by decide) (fun c => absurd c (by decide)) (fun _ => ?_)
      have hx := hi.mp rfl
      refine ze_aload_n (pc := 26) dX11_unit_26 rfl rfl ?_
      refine ze_get (pc := 27) fl_X11_38 dX11_unit_27 (by repeat (first | assumption | exact hset_eq _ _ _ | rw [hset_ne _ _ (by omega)])) (by rfl) ?_
      refine ze_iload_n (pc := 30) dX11_unit_30 rfl rfl ?_
      refine ze_aldGS (pc := 31) (e) dX11_unit_31 (by repeat (first | assumption | exact hset_eq _ _ _ | rw [hset_ne _ _ (by omega)])) (by rfl) (by omega) (by first | decide | omega) (if_pos he) ?_
      refine ze_iload_n (pc := 32) dX11_unit_32 rfl rfl ?_
      refine ze_ialdN (pc := 33) (x) dX11_unit_33 (by repeat (first | assumption | exact hset_eq _ _ _ | rw [hset_ne _ _ (by omega)])) (by rfl) (by omega) (by first | decide | omega) ?_
      refine ze_top (q2 x hxq) ?_
      refine ze_iload_n (pc := 34) dX11_unit_34 rfl rfl ?_
      refine zn_icmp_ne (pc := 35) (tgt := 54) dX11_unit_35 (by decide) (by omega) (by omega) (fun c => ?_) (fun c => ?_)
      · refine zn_iconst (pc := 54) 0 dX11_unit_54 (by decide) ?_
        refine ze_istore_n (pc := 55) dX11_unit_55 rfl (by decide) ?_
        refine zn_inc (pc := 56) dX11_unit_56 rfl (by decide) ?_
        refine ze_goto (pc := 59) (tgt := 14) dX11_unit_59 (by decide) ?_
        exact ih (x + 1) false (by omega) (by omega) ⟨fun q => (by cases q), fun z => absurd (z x (by omega)).1 c⟩
      · refine ze_aload_n (pc := 38) dX11_unit_38 rfl rfl ?_
        refine ze_get (pc := 39) fl_X11_38 dX11_unit_39 (by repeat (first | assumption | exact hset_eq _ _ _ | rw [hset_ne _ _ (by omega)])) (by rfl) ?_
        refine ze_iload_n (pc := 42) dX11_unit_42 rfl rfl ?_
        refine ze_aldGS (pc := 43) (x) dX11_unit_43 (by repeat (first | assumption | exact hset_eq _ _ _ | rw [hset_ne _ _ (by omega)])) (by rfl) (by omega) (by first | decide | omega) (if_pos hxq) ?_
        refine ze_iload_n (pc := 44) dX11_unit_44 rfl rfl ?_
        refine ze_ialdN (pc := 45) (e) dX11_unit_45 (by repeat (first | assumption | exact hset_eq _ _ _ | rw [hset_ne _ _ (by omega)])) (by rfl) (by omega) (by first | decide | omega) ?_
        refine ze_top (r2 e he) ?_
        refine ze_iload_n (pc := 46) dX11_unit_46 rfl rfl ?_
        refine zn_icmp_ne (pc := 47) (tgt := 54) dX11_unit_47 (by decide) (by omega) (by omega) (fun c2 => ?_) (fun c2 => ?_)
        · refine zn_iconst (pc := 54) 0 dX11_unit_54 (by decide) ?_
          refine ze_istore_n (pc := 55) dX11_unit_55 rfl (by decide) ?_
          refine zn_inc (pc := 56) dX11_unit_56 rfl (by decide) ?_
          refine ze_goto (pc := 59) (tgt := 14) dX11_unit_59 (by decide) ?_
          exact ih (x + 1) false (by omega) (by omega) ⟨fun q => (by cases q), fun z => absurd (z x (by omega)).2 c2⟩
        · refine zn_iconst (pc := 50) 1 dX11_unit_50 (by decide) ?_
          refine ze_goto (pc := 51) (tgt := 55) dX11_unit_51 (by decide) ?_
          refine ze_istore_n (pc := 55) dX11_unit_55 rfl (by decide) ?_
          refine zn_inc (pc := 56) dX11_unit_56 rfl (by decide) ?_
          refine ze_goto (pc := 59) (tgt := 14) dX11_unit_59 (by decide) ?_
          refine ih (x + 1) true (by omega) (by omega) ⟨fun _ y hy => ?_, fun _ => rfl⟩
          by_cases ey : y = x
          · rw [ey]; exact ⟨c, c2⟩
          · exact hx y (by omega)
theorem l_un_e {Pr : Int32 → AH → Prop} (hW : LW h w W (.ref tb)) (hT : Tb h tb (W.1 ^ W.2.1) (mul W)) (hk : Wok W) (hu : ∀ z, UnitOf W z → Pr z h) :
    ∀ (m e : Nat), m = W.1 ^ W.2.1 - e → e ≤ W.1 ^ W.2.1 → (∀ a, 0 < a → a < e → ¬ isU W a) → VIS ro MX11_unit zq Pr h 2 [some (.ref w), some (.int (nI e)), none, none] [] := by
  have bb := hk.b
  obtain ⟨w1, -⟩ := id hW
  have h1q : 1 < W.1 ^ W.2.1 := Nat.one_lt_pow (by omega) (by omega)
  intro m
  induction m with
  | zero =>
    intro e e1 e2 hx
    have : e = W.1 ^ W.2.1 := by omega
    subst this
    refine ze_iload_n (pc := 2) dX11_unit_2 rfl rfl ?_
    refine ze_aload_n (pc := 3) dX11_unit_3 rfl rfl ?_
    refine ze_get (pc := 4) fl_X11_16 dX11_unit_4 (by repeat (first | assumption | exact hset_eq _ _ _ | rw [hset_ne _ _ (by omega)])) (by rfl) ?_
    refine zn_icmp_ge (pc := 7) (tgt := 74) dX11_unit_7 (by decide) (by omega) (by omega) (fun c => ?_) (fun c => absurd c (by omega))
    refine ze_iconst (pc := 74) (v := -1) dX11_unit_74 (by decide) ?_
    exact zn_iret dX11_unit_75 rfl (hu _ (Or.inr ⟨rfl, hx⟩))
  | succ m ih =>
    intro e e1 e2 hx
    refine ze_iload_n (pc := 2) dX11_unit_2 rfl rfl ?_
    refine ze_aload_n (pc := 3) dX11_unit_3 rfl rfl ?_
    refine ze_get (pc := 4) fl_X11_16 dX11_unit_4 (by repeat (first | assumption | exact hset_eq _ _ _ | rw [hset_ne _ _ (by omega)])) (by rfl) ?_
    refine zn_icmp_ge (pc := 7) (tgt := 74) dX11_unit_7 (by decide) (by omega) (by omega) (fun c => absurd c (by omega)) (fun c => ?_)
    refine zn_iconst (pc := 10) 1 dX11_unit_10 (by decide) ?_
    refine ze_istore_n (pc := 11) dX11_unit_11 rfl (by decide) ?_
    refine zn_iconst (pc := 12) 0 dX11_unit_12 (by decide) ?_
    refine ze_istore_n (pc := 13) dX11_unit_13 rfl (by decide) ?_
    refine l_un_x hW hT hk (by omega) (fun z => hu _ (Or.inl ⟨e, rfl, ?_, by omega, (isU_iff hk e).mpr z, hx⟩)) (fun z => ?_) (W.1 ^ W.2.1) 0 true rfl (by omega) ⟨fun _ y hy => absurd hy (by omega), fun _ => rfl⟩
    · rcases Nat.eq_zero_or_pos e with e0 | e0
      · subst e0
        have := (z 1 h1q).1
        rw [mul_0l hk] at this
        omega
      · exact e0
    · refine zn_inc (pc := 68) dX11_unit_68 rfl (by decide) ?_
      refine ze_goto (pc := 71) (tgt := 2) dX11_unit_71 (by decide) ?_
      refine ih (e + 1) (by omega) (by omega) (fun a a0 a1 => ?_)
      by_cases ea : a = e
      · rw [ea]; exact fun q => z ((isU_iff hk e).mp q)
      · exact hx a a0 (by omega)
theorem c_X11_unit (hW : LW h w W (.ref tb)) (hT : Tb h tb (W.1 ^ W.2.1) (mul W)) (hk : Wok W) : CIS ro yX11_unit MX11_unit [.ref w] h (fun z h' => UnitOf W z ∧ h' = h) := by
  refine CIS.ofV (by decide) rfl rfl (by simp [Value.category]) (by exact Nat.le_of_ble_eq_true rfl) (fun sz => ?_)
  refine zn_iconst (pc := 0) 0 dX11_unit_0 (by decide) ?_
  refine ze_istore_n (pc := 1) dX11_unit_1 rfl (by decide) ?_
  exact l_un_e hW hT hk (fun z hz => ⟨hz, rfl⟩) (W.1 ^ W.2.1) 0 rfl (by omega) (fun a a0 a1 => absurd a1 (by omega))
end LD
