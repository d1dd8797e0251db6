/-! ===== Search: maps are counted ===== -/
theorem PM_cong {W : Wd} {T T2 : Nat → Nat → Nat} {b cd : Nat → Nat} {fx : Nat} (h : ∀ x y, x < W.1 ^ W.2.1 → y < W.1 ^ W.2.1 → T x y = T2 x y) : PM W T b cd fx = PM W T2 b cd fx := by
  funext c
  refine propext ⟨fun ⟨h1, h2, h3, h4⟩ => ⟨h1, h2, h3, fun i j hi hj => ?_⟩, fun ⟨h1, h2, h3, h4⟩ => ⟨h1, h2, h3, fun i j hi hj => ?_⟩⟩
  · rw [← h _ _ (h1 i hi) (h1 j hj)]; exact h4 i j hi hj
  · rw [h _ _ (h1 i hi) (h1 j hj)]; exact h4 i j hi hj
theorem NM_cong {W : Wd} {T T2 : Nat → Nat → Nat} {b cd : Nat → Nat} {fx : Nat} (h : ∀ x y, x < W.1 ^ W.2.1 → y < W.1 ^ W.2.1 → T x y = T2 x y) : NM W T b cd fx = NM W T2 b cd fx := by
  unfold NM
  rw [PM_cong h]
theorem Bil_mul2 {W W2 : Wd} (hk2 : Wok W2) (hp2 : W2.1 = W.1 ∧ W2.2.1 = W.2.1) : Bil W.1 W.2.1 (mul W2) := by
  have := Bil_mul hk2
  rw [hp2.1, hp2.2] at this
  exact this
theorem NM_same {W W2 : Wd} {b cd : Nat → Nat} (hk : Wok W) (hk2 : Wok W2) (hp2 : W2.1 = W.1 ∧ W2.2.1 = W.2.1) (hB : Bas W.1 W.2.1 b cd) : NM W (tT W2 id id) b cd 0 = NMs W (mul W2) 0 := NM_eq hk (Bil_mul2 hk2 hp2) hB (Bas_std hk)
/-- one term of the sum that counts isotopes -/
noncomputable def isoF (W W2 : Wd) (u v : Nat) : Nat := if 0 < u ∧ 0 < v then NMs W (tw W2 u v) (mul W2 u v) else 0
noncomputable def isoN (W W2 : Wd) : Nat := sg (W.1 ^ W.2.1) (fun u => sg (W.1 ^ W.2.1) (fun v => isoF W W2 u v))
theorem NM_iso {W W2 : Wd} {b cd bf af : Nat → Nat} {u v : Nat} (hk : Wok W) (hk2 : Wok W2) (hp2 : W2.1 = W.1 ∧ W2.2.1 = W.2.1) (hD : Div W2) (hB : Bas W.1 W.2.1 b cd) (hu0 : 0 < u) (hu : u < W.1 ^ W.2.1) (hv0 : 0 < v) (hv : v < W.1 ^ W.2.1) (hbf : ∀ x, x < W.1 ^ W.2.1 → bf x = qz W2 v false x) (haf : ∀ x, x < W.1 ^ W.2.1 → af x = qz W2 u true x) : NM W (tT W2 bf af) b cd (mul W2 u v) = isoF W W2 u v := by
  unfold isoF
  rw [if_pos ⟨hu0, hv0⟩]
  have hq : W2.1 ^ W2.2.1 = W.1 ^ W.2.1 := by rw [hp2.1, hp2.2]
  have e1 : NM W (tT W2 bf af) b cd (mul W2 u v) = NM W (tw W2 u v) b cd (mul W2 u v) := NM_cong (fun x y hx hy => by
    show mul W2 (bf x) (af y) = mul W2 (qz W2 v false x) (qz W2 u true y)
    rw [hbf x hx, haf y hy])
  have hT := Bil_tw hk2 hD (u := u) (v := v) hu0 (by omega) hv0 (by omega)
  rw [hp2.1, hp2.2] at hT
  rw [e1]
  exact NM_eq hk hT hB (Bas_std hk)
section CS
variable {h : AH} {B o o2 : Nat} {W W2 : Wd} {f f2 : Int32} {fx : Int32}
theorem ShS.of {h1 : AH} {cnt fx : Nat} (hR : SRo h B) (e : ∀ a, B < a → a < B + 14 → a ≠ B + 12 → a ≠ B + 13 → h1 a = h a) {l : Nat} {c : Nat → Nat} (hD : Dy h1 B W fx l c cnt) : ShS h1 B := by
  obtain ⟨d1, ⟨g12, d2, -⟩, g13, d3, -⟩ := hD
  refine ⟨⟨_, _, _, _, _, d1⟩, fun k k1 k2 => ?_⟩
  by_cases e1 : k = 12
  · subst e1; exact ⟨g12, d2⟩
  · by_cases e2 : k = 13
    · subst e2; exact ⟨g13, d3⟩
    · obtain ⟨g, hg⟩ := hR k k1 k2
      exact ⟨g, (e _ (by omega) (by omega) (by omega) (by omega)).trans hg⟩
/-- before and after so far -/
def IdU (h1 : AH) (B x : Nat) : Prop := (∃ g, h1 (B + 3) = some (aI 27 g) ∧ ∀ t, t < x → g t = nI t) ∧ ∃ g, h1 (B + 4) = some (aI 27 g) ∧ ∀ t, t < x → g t = nI t
def Ff (B : Nat) (h h' : AH) : Prop := ∀ a, a ≠ B → a ≠ B + 3 → a ≠ B + 4 → a ≠ B + 12 → a ≠ B + 13 → h' a = h a
theorem Ff.rf (B : Nat) (h : AH) : Ff B h h := fun _ _ _ _ _ _ => rfl
theorem Ff.tr {B : Nat} {h h1 h2 : AH} (a : Ff B h h1) (b : Ff B h1 h2) : Ff B h h2 := fun q x y z u v => (b q x y z u v).trans (a q x y z u v)
theorem Ff.set {B a : Nat} {x : AE} {h h1 : AH} (e : Ff B h h1) (ha : a = B ∨ a = B + 3 ∨ a = B + 4 ∨ a = B + 12 ∨ a = B + 13) : Ff B h (hset h1 a x) := fun q p1 p2 p3 p4 p5 => by
  rw [hset_ne _ _ (by omega)]; exact e q p1 p2 p3 p4 p5
theorem Sf.ff {B : Nat} {h h1 : AH} (e : Sf B h h1) : Ff B h h1 := fun q p1 _ _ p4 p5 => e q p1 p4 p5
theorem l_cs {sz : Nat} {hh : AH} {Pr : Int32 → AH → Prop} (hk : Wok W) (hq : W.1 ^ W.2.1 ≤ 27)
    (kk : ∀ h1, SHd h1 B W.1 W.2.1 (W.1 ^ W.2.1) 0 (nI 0) → IdU h1 B (W.1 ^ W.2.1) → Ff B hh h1 → (∀ a, a = B + 12 ∨ a = B + 13 → h1 a = hh a) → VI MX5_countSame sz Pr h1 48 [some (.ref B), some (.ref o), some (.ref o2), none] []) :
    ∀ (n x : Nat), n = W.1 ^ W.2.1 - x → x ≤ W.1 ^ W.2.1 → ∀ h1, SHd h1 B W.1 W.2.1 (W.1 ^ W.2.1) 0 (nI 0) → IdU h1 B x → Ff B hh h1 → (∀ a, a = B + 12 ∨ a = B + 13 → h1 a = hh a) → VI MX5_countSame sz Pr h1 20 [some (.ref B), some (.ref o), some (.ref o2), some (.int (nI x))] [] := by
  obtain ⟨b1, b2, b3, b4, b5⟩ := hk.b
  intro n
  induction n with
  | zero =>
    intro x e1 e2 h1 s1 s2 s3 s4
    have e' : x = W.1 ^ W.2.1 := by omega
    subst e'
    refine e_iload_n (pc := 20) dX5_countSame_20 rfl rfl ?_
    refine e_aload_n (pc := 21) dX5_countSame_21 rfl rfl ?_
    refine e_get (pc := 22) fl_X5_18 dX5_countSame_22 (by repeat (first | assumption | exact hset_eq _ _ _ | rw [hset_ne _ _ (by omega)])) (by rfl) ?_
    refine n_icmp_ge (pc := 25) (tgt := 48) dX5_countSame_25 (by decide) (by omega) (by omega) (fun hb_ => ?_) (fun c => absurd c (by omega))
    refine V.mask [true, true, true, false] ?_
    exact kk h1 s1 s2 s3 s4
  | succ n ih =>
    intro x e1 e2 h1 s1 s2 s3 s4
    obtain ⟨⟨g3, a1, a2⟩, g4, a3, a4⟩ := s2
    refine e_iload_n (pc := 20) dX5_countSame_20 rfl rfl ?_
    refine e_aload_n (pc := 21) dX5_countSame_21 rfl rfl ?_
    refine e_get (pc := 22) fl_X5_18 dX5_countSame_22 (by repeat (first | assumption | exact hset_eq _ _ _ | rw [hset_ne _ _ (by omega)])) (by rfl) ?_
    refine n_icmp_ge (pc := 25) (tgt := 48) dX5_countSame_25 (by decide) (by omega) (by omega) (fun c => absurd c (by omega)) (fun hb_ => ?_)
    refine e_aload_n (pc := 28) dX5_countSame_28 rfl rfl ?_
    refine e_get (pc := 29) fl_X5_34 dX5_countSame_29 (by repeat (first | assumption | exact hset_eq _ _ _ | rw [hset_ne _ _ (by omega)])) (by rfl) ?_
    refine e_iload_n (pc := 32) dX5_countSame_32 rfl rfl ?_
    refine e_iload_n (pc := 33) dX5_countSame_33 rfl rfl ?_
    refine e_iastN (pc := 34) _ dX5_countSame_34 (by repeat (first | assumption | exact hset_eq _ _ _ | rw [hset_ne _ _ (by omega)])) (by rfl) (by omega) (by first | decide | omega) ?_
    refine e_aload_n (pc := 35) dX5_countSame_35 rfl rfl ?_
    refine e_get (pc := 36) fl_X5_37 dX5_countSame_36 (by repeat (first | assumption | exact hset_eq _ _ _ | rw [hset_ne _ _ (by omega)])) (by rfl) ?_
    refine e_iload_n (pc := 39) dX5_countSame_39 rfl rfl ?_
    refine e_iload_n (pc := 40) dX5_countSame_40 rfl rfl ?_
    refine e_iastN (pc := 41) _ dX5_countSame_41 (by repeat (first | assumption | exact hset_eq _ _ _ | rw [hset_ne _ _ (by omega)])) (by rfl) (by omega) (by first | decide | omega) ?_
    refine n_inc (pc := 42) dX5_countSame_42 rfl (by decide) ?_
    refine e_goto (pc := 45) (tgt := 20) dX5_countSame_45 (by decide) ?_
    refine ih (x + 1) (by omega) (by omega) _ ((hset_ne _ _ (by omega)).trans ((hset_ne _ _ (by omega)).trans s1)) ⟨⟨_, (hset_ne _ _ (by omega)).trans (hset_eq _ _ _), fun t ht => ?_⟩, _, hset_eq _ _ _, fun t ht => ?_⟩ ((s3.set (by omega)).set (by omega)) (fun a ha => (hset_ne _ _ (by omega)).trans ((hset_ne _ _ (by omega)).trans (s4 a ha)))
    · by_cases e : t = x
      · subst e; rw [pk_us]
      · rw [pk_un e]; exact a2 t (by omega)
    · by_cases e : t = x
      · subst e; rw [pk_us]
      · rw [pk_un e]; exact a4 t (by omega)
theorem c_X5_countSame (hB : ShS h B) (hW : WAt h o W f) (hW2 : WAt h o2 W2 f2) (hk : Wok W) (hk2 : Wok W2) (hp2 : W2.1 = W.1 ∧ W2.2.1 = W.2.1) (hq : W.1 ^ W.2.1 ≤ 27) (d : o + 3 ≤ B ∨ B + 14 ≤ o) (d2 : o2 + 3 ≤ B ∨ B + 14 ≤ o2) (d3 : o = o2 ∨ o + 3 ≤ o2 ∨ o2 + 3 ≤ o) :
    CI yX5_countSame MX5_countSame [.ref B, .ref o, .ref o2] h (fun z h' => z = nI (NMs W (mul W2) 0) ∧ ShS h' B ∧ WAt h' o W f ∧ WAt h' o2 W2 f2 ∧ Fz B o o2 h h') := by
  obtain ⟨b1, b2, b3, b4, b5⟩ := hk.b
  obtain ⟨⟨p0, n0, q0, c0, fx0, s1⟩, -⟩ := id hB
  refine CI.ofV (by decide) rfl rfl (by simp [Value.category]) (by exact Nat.le_of_ble_eq_true rfl) (fun sz => ?_)
  refine e_aload_n (pc := 0) dX5_countSame_0 rfl rfl ?_
  refine e_aload_n (pc := 1) dX5_countSame_1 rfl rfl ?_
  refine e_aload_n (pc := 2) dX5_countSame_2 rfl rfl ?_
  refine n_bipush (pc := 3) 27 dX5_countSame_3 (by decide) ?_
  refine n_V (pc := 5) (c_X5_prepare hB hW hW2 hk hk2 hp2 hq (Nat.le_refl 27) d d2 d3) bX5_prepare q_i_X5_prepare q_s_X5_prepare q_m_X5_67 dX5_countSame_5 rfl rfl (by repeat (first | assumption | exact hset_eq _ _ _ | rw [hset_ne _ _ (by omega)])) rfl rfl (by exact Nat.le_of_ble_eq_true rfl) ⟨by decide, by decide⟩ ⟨rfl, rfl, Nat.zero_le _, Nat.zero_le _⟩ (fun z h2 hp => ?_)
  obtain ⟨rfl, ⟨r1, ⟨fx, r2⟩, ⟨g13, r3, r4⟩, ⟨t1, t2, u1, u2, u3⟩, b, cd, lp, rp, lev, v1, v2⟩, p2, p3, p4⟩ := hp
  refine e_if_ne (pc := 8) (tgt := 13) dX5_countSame_8 (by decide) (fun _ => ?_) (fun q => absurd q (by decide))
  refine e_aload_n (pc := 13) dX5_countSame_13 rfl rfl ?_
  refine n_iconst (pc := 14) 0 dX5_countSame_14 (by decide) ?_
  refine e_put (pc := 15) pl_X5_24 dX5_countSame_15 (by repeat (first | assumption | exact hset_eq _ _ _ | rw [hset_ne _ _ (by omega)])) (by rfl) (by rfl) (by exact Nat.le_of_ble_eq_true rfl) ?_
  refine n_iconst (pc := 18) 0 dX5_countSame_18 (by decide) ?_
  refine e_istore_n (pc := 19) dX5_countSame_19 rfl (by decide) ?_
  obtain ⟨g3, k3⟩ := r1 3 (by omega) (by omega)
  obtain ⟨g4, k4⟩ := r1 4 (by omega) (by omega)
  obtain ⟨g12, k12⟩ := r1 12 (by omega) (by omega)
  have k12 : h2 (B + 12) = some (aI 5 g12) := k12
  refine l_cs (hh := h2) hk hq (fun h1 s1 s2 s3 s4 => ?_) (W.1 ^ W.2.1) 0 rfl (Nat.zero_le _) _ (hset_eq _ _ _) ⟨⟨g3, (hset_ne _ _ (by omega)).trans k3, fun t ht => absurd ht (Nat.not_lt_zero t)⟩, g4, (hset_ne _ _ (by omega)).trans k4, fun t ht => absurd ht (Nat.not_lt_zero t)⟩ ((Ff.rf _ _).set (by omega)) (fun a ha => hset_ne _ _ (by omega))
  obtain ⟨⟨g3', a1, a2⟩, g4', a3, a4⟩ := s2
  have hX : SCtx h1 B W W2 b cd id id lp rp lev 0 := ⟨⟨⟨t1, (s3 _ (by omega) (by omega) (by omega) (by omega) (by omega)).trans u1, fun x y hx hy => (u3 x y hx hy).1⟩, ⟨t2, (s3 _ (by omega) (by omega) (by omega) (by omega) (by omega)).trans u2, fun x y hx hy => (u3 x y hx hy).2⟩, ⟨g3', a1, a2⟩, ⟨g4', a3, a4⟩, fun x hx => ⟨hx, hx⟩⟩, v2.sf (fun a q1 q2 => s3 _ (by omega) (by omega) (by omega) (by omega) (by omega)), v1, hk, hk2, hq, hp2, hk.pos⟩
  have hDy : Dy h1 B W 0 0 (fun _ => 0) 0 := ⟨s1, ⟨g12, (s4 _ (Or.inl rfl)).trans k12, fun t ht => absurd ht (Nat.not_lt_zero t)⟩, g13, (s4 _ (Or.inr rfl)).trans r3, fun t ht => by
    have t0 : t = 0 := by
      have : t < 1 := ht
      omega
    subst t0
    exact r4.trans (congrArg nI (lin_0 _ _ _).symm)⟩
  refine e_aload_n (pc := 48) dX5_countSame_48 rfl rfl ?_
  refine n_iconst (pc := 49) 0 dX5_countSame_49 (by decide) ?_
  refine n_Vv (pc := 50) (c_X5_extend0 hX (Sf.rf _ _) hDy) bX5_extend q_i_X5_extend q_s_X5_extend q_m_X5_71 dX5_countSame_50 rfl rfl (by repeat (first | assumption | exact hset_eq _ _ _ | rw [hset_ne _ _ (by omega)])) rfl rfl (by exact Nat.le_of_ble_eq_true rfl) ⟨by decide, by decide⟩ ⟨rfl, rfl, Nat.zero_le _, Nat.zero_le _⟩ (fun h3 hp => ?_)
  obtain ⟨q1, q2⟩ := hp
  obtain ⟨q3, -⟩ := id q2
  refine e_aload_n (pc := 53) dX5_countSame_53 rfl rfl ?_
  refine e_get (pc := 54) fl_X5_21 dX5_countSame_54 (by repeat (first | assumption | exact hset_eq _ _ _ | rw [hset_ne _ _ (by omega)])) (by rfl) ?_
  have far : ∀ a, (a < B ∨ B + 14 ≤ a) → h3 a = h2 a := fun a x => (q1 a (by omega) (by omega) (by omega)).trans (s3 a (by omega) (by omega) (by omega) (by omega) (by omega))
  have sh1 : SRo h1 B := fun k c1 c2 => by
    by_cases e3 : k = 3
    · subst e3; exact ⟨g3', a1⟩
    · by_cases e4 : k = 4
      · subst e4; exact ⟨g4', a3⟩
      · by_cases e5 : k = 12
        · subst e5; exact ⟨g12, (s4 _ (Or.inl rfl)).trans k12⟩
        · by_cases e6 : k = 13
          · subst e6; exact ⟨g13, (s4 _ (Or.inr rfl)).trans r3⟩
          · obtain ⟨g, hg⟩ := r1 k c1 c2
            exact ⟨g, (s3 _ (by omega) (by omega) (by omega) (by omega) (by omega)).trans hg⟩
  refine n_iret (pc := 57) dX5_countSame_57 rfl ⟨?_, ShS.of sh1 (fun a x1 x2 x3 x4 => q1 a (by omega) x3 x4) q2, p2.kept (far _ (by omega)) (far _ (by omega)) (by rw [far _ (by omega)]; exact p2.2.2), p3.kept (far _ (by omega)) (far _ (by omega)) (by rw [far _ (by omega)]; exact p3.2.2), p4.tr (fun a x _ _ => far a x)⟩
  rw [Nat.zero_add, NM_same hk hk2 hp2 v1.1]
/-- what stands between two counts -/
def IsoS (hh h1 : AH) (B : Nat) (W : Wd) (cnt : Nat) : Prop := SRo h1 B ∧ (∃ fx, SHd h1 B W.1 W.2.1 (W.1 ^ W.2.1) cnt (nI fx)) ∧ (∃ g, h1 (B + 13) = some (aI 27 g) ∧ g 0 = nI 0) ∧ Ff B hh h1
/-- what stands still: tables, basis -/
def IsoC (hh : AH) (B : Nat) (W W2 : Wd) (b cd : Nat → Nat) (lp rp : Nat → Int32) (lev : Nat → Nat → Nat) : Prop := (∃ g1 g2, hh (B + 1) = some (aI 729 g1) ∧ hh (B + 2) = some (aI 729 g2) ∧ ∀ a b, a < W.1 ^ W.2.1 → b < W.1 ^ W.2.1 → g1 (a * W.1 ^ W.2.1 + b) = nI (ad W.1 a b) ∧ g2 (a * W.1 ^ W.2.1 + b) = nI (mul W2 a b)) ∧ SMath W b cd lp rp lev ∧ SBas hh B W lp rp (fun i j => cd (mul W (b i) (b j))) lev
section CI2
variable {sz : Nat} {hh : AH} {Pr : Int32 → AH → Prop} {b cd : Nat → Nat} {lp rp : Nat → Int32} {lev : Nat → Nat → Nat}
theorem l_ci_z {u v cnt : Nat} (hC : IsoC hh B W W2 b cd lp rp lev) (hk : Wok W) (hk2 : Wok W2) (hp2 : W2.1 = W.1 ∧ W2.2.1 = W.2.1) (hD : Div W2) (hq : W.1 ^ W.2.1 ≤ 27) (hu0 : 0 < u) (hu : u < W.1 ^ W.2.1) (hv0 : 0 < v) (hv : v < W.1 ^ W.2.1)
    (kk : ∀ h1, IsoS hh h1 B W cnt → (∃ g, h1 (B + 3) = some (aI 27 g) ∧ ∀ t, t < W.1 ^ W.2.1 → g (mul W2 t v) = nI t) → (∃ g, h1 (B + 4) = some (aI 27 g) ∧ ∀ t, t < W.1 ^ W.2.1 → g (mul W2 u t) = nI t) → VI MX5_countIsotopes sz Pr h1 96 [some (.ref B), some (.ref o), some (.ref o2), some (.int (nI u)), some (.int (nI v)), none] []) :
    ∀ (n z : Nat), n = W.1 ^ W.2.1 - z → z ≤ W.1 ^ W.2.1 → ∀ h1, IsoS hh h1 B W cnt → (∃ g, h1 (B + 3) = some (aI 27 g) ∧ ∀ t, t < z → g (mul W2 t v) = nI t) → (∃ g, h1 (B + 4) = some (aI 27 g) ∧ ∀ t, t < z → g (mul W2 u t) = nI t) → VI MX5_countIsotopes sz Pr h1 38 [some (.ref B), some (.ref o), some (.ref o2), some (.int (nI u)), some (.int (nI v)), some (.int (nI z))] [] := by
  obtain ⟨b1, b2, b3, b4, b5⟩ := hk.b
  have eo : W2.1 ^ W2.2.1 = W.1 ^ W.2.1 := by rw [hp2.1, hp2.2]
  obtain ⟨⟨t1, t2, c1, c2, c3⟩, -⟩ := hC
  intro n
  induction n with
  | zero =>
    intro z e1 e2 h1 s1 s2 s3
    have e' : z = W.1 ^ W.2.1 := by omega
    subst e'
    obtain ⟨r1, ⟨fx, r2⟩, r3, r4⟩ := id s1
    refine e_iload (pc := 38) dX5_countIsotopes_38 rfl ?_
    refine e_aload_n (pc := 40) dX5_countIsotopes_40 rfl rfl ?_
    refine e_get (pc := 41) fl_X5_18 dX5_countIsotopes_41 (by repeat (first | assumption | exact hset_eq _ _ _ | rw [hset_ne _ _ (by omega)])) (by rfl) ?_
    refine n_icmp_ge (pc := 44) (tgt := 96) dX5_countIsotopes_44 (by decide) (by omega) (by omega) (fun hb_ => ?_) (fun c => absurd c (by omega))
    refine V.mask [true, true, true, true, true, false] ?_
    exact kk h1 s1 s2 s3
  | succ n ih =>
    intro z e1 e2 h1 s1 s2 s3
    have hz : z < W.1 ^ W.2.1 := by omega
    obtain ⟨r1, ⟨fx, r2⟩, ⟨g13, r3, r3'⟩, r4⟩ := s1
    obtain ⟨g3, a1, a2⟩ := s2
    obtain ⟨g4, a3, a4⟩ := s3
    have k2 := (r4 (B + 2) (by omega) (by omega) (by omega) (by omega) (by omega)).trans c2
    have y1 := (c3 z v hz hv).2
    have y2 := (c3 u z hu hz).2
    have m1 := mul_lt hk2 z v
    have m2 := mul_lt hk2 u z
    have ix1 := ix_lt hz hv hq
    have ix2 := ix_lt hu hz hq
    refine e_iload (pc := 38) dX5_countIsotopes_38 rfl ?_
    refine e_aload_n (pc := 40) dX5_countIsotopes_40 rfl rfl ?_
    refine e_get (pc := 41) fl_X5_18 dX5_countIsotopes_41 (by repeat (first | assumption | exact hset_eq _ _ _ | rw [hset_ne _ _ (by omega)])) (by rfl) ?_
    refine n_icmp_ge (pc := 44) (tgt := 96) dX5_countIsotopes_44 (by decide) (by omega) (by omega) (fun c => absurd c (by omega)) (fun hb_ => ?_)
    refine e_aload_n (pc := 47) dX5_countIsotopes_47 rfl rfl ?_
    refine e_get (pc := 48) fl_X5_34 dX5_countIsotopes_48 (by repeat (first | assumption | exact hset_eq _ _ _ | rw [hset_ne _ _ (by omega)])) (by rfl) ?_
    refine e_aload_n (pc := 51) dX5_countIsotopes_51 rfl rfl ?_
    refine e_get (pc := 52) fl_X5_31 dX5_countIsotopes_52 (by repeat (first | assumption | exact hset_eq _ _ _ | rw [hset_ne _ _ (by omega)])) (by rfl) ?_
    refine e_iload (pc := 55) dX5_countIsotopes_55 rfl ?_
    refine e_aload_n (pc := 57) dX5_countIsotopes_57 rfl rfl ?_
    refine e_get (pc := 58) fl_X5_18 dX5_countIsotopes_58 (by repeat (first | assumption | exact hset_eq _ _ _ | rw [hset_ne _ _ (by omega)])) (by rfl) ?_
    refine n_imul (pc := 61) dX5_countIsotopes_61 ?_
    refine e_iload (pc := 62) dX5_countIsotopes_62 rfl ?_
    refine n_iadd (pc := 64) dX5_countIsotopes_64 ?_
    refine e_ialdN (pc := 65) _ dX5_countIsotopes_65 (by repeat (first | assumption | exact hset_eq _ _ _ | rw [hset_ne _ _ (by omega)])) (by rfl) (by omega) (by first | decide | omega) ?_
    rw [y1]
    refine e_iload (pc := 66) dX5_countIsotopes_66 rfl ?_
    refine e_iastN (pc := 68) _ dX5_countIsotopes_68 (by repeat (first | assumption | exact hset_eq _ _ _ | rw [hset_ne _ _ (by omega)])) (by rfl) (by omega) (by first | decide | omega) ?_
    refine e_aload_n (pc := 69) dX5_countIsotopes_69 rfl rfl ?_
    refine e_get (pc := 70) fl_X5_37 dX5_countIsotopes_70 (by repeat (first | assumption | exact hset_eq _ _ _ | rw [hset_ne _ _ (by omega)])) (by rfl) ?_
    refine e_aload_n (pc := 73) dX5_countIsotopes_73 rfl rfl ?_
    refine e_get (pc := 74) fl_X5_31 dX5_countIsotopes_74 (by repeat (first | assumption | exact hset_eq _ _ _ | rw [hset_ne _ _ (by omega)])) (by rfl) ?_
    refine e_iload_n (pc := 77) dX5_countIsotopes_77 rfl rfl ?_
    refine e_aload_n (pc := 78) dX5_countIsotopes_78 rfl rfl ?_
    refine e_get (pc := 79) fl_X5_18 dX5_countIsotopes_79 (by repeat (first | assumption | exact hset_eq _ _ _ | rw [hset_ne _ _ (by omega)])) (by rfl) ?_
    refine n_imul (pc := 82) dX5_countIsotopes_82 ?_
    refine e_iload (pc := 83) dX5_countIsotopes_83 rfl ?_
    refine n_iadd (pc := 85) dX5_countIsotopes_85 ?_
    refine e_ialdN (pc := 86) _ dX5_countIsotopes_86 (by repeat (first | assumption | exact hset_eq _ _ _ | rw [hset_ne _ _ (by omega)])) (by rfl) (by omega) (by first | decide | omega) ?_
    rw [y2]
    refine e_iload (pc := 87) dX5_countIsotopes_87 rfl ?_
    refine e_iastN (pc := 89) _ dX5_countIsotopes_89 (by repeat (first | assumption | exact hset_eq _ _ _ | rw [hset_ne _ _ (by omega)])) (by rfl) (by omega) (by first | decide | omega) ?_
    refine n_inc (pc := 90) dX5_countIsotopes_90 rfl (by decide) ?_
    refine e_goto (pc := 93) (tgt := 38) dX5_countIsotopes_93 (by decide) ?_
    refine ih (z + 1) (by omega) (by omega) _ ⟨?_, ⟨fx, ?_⟩, ⟨g13, ?_, r3'⟩, (r4.set (by omega)).set (by omega)⟩ ⟨_, (hset_ne _ _ (by omega)).trans (hset_eq _ _ _), fun t ht => ?_⟩ ⟨_, hset_eq _ _ _, fun t ht => ?_⟩
    · exact (SRo.set (k := 3) r1 rfl).set rfl
    · exact (hset_ne _ _ (by omega)).trans ((hset_ne _ _ (by omega)).trans r2)
    · exact (hset_ne _ _ (by omega)).trans ((hset_ne _ _ (by omega)).trans r3)
    · by_cases e : t = z
      · subst e; rw [pk_us]
      · have ne : mul W2 t v ≠ mul W2 z v := fun q => e ((qz_eq hk2 hD hv0 (by omega) (l := false) (show t < W2.1 ^ W2.2.1 by omega) q).trans (qz_eq hk2 hD hv0 (by omega) (l := false) (show z < W2.1 ^ W2.2.1 by omega) rfl).symm)
        rw [pk_un ne]; exact a2 t (by omega)
    · by_cases e : t = z
      · subst e; rw [pk_us]
      · have ne : mul W2 u t ≠ mul W2 u z := fun q => e ((qz_eq hk2 hD hu0 (by omega) (l := true) (show t < W2.1 ^ W2.2.1 by omega) q).trans (qz_eq hk2 hD hu0 (by omega) (l := true) (show z < W2.1 ^ W2.2.1 by omega) rfl).symm)
        rw [pk_un ne]; exact a4 t (by omega)
theorem l_ci_v {u cnt : Nat} (hC : IsoC hh B W W2 b cd lp rp lev) (hk : Wok W) (hk2 : Wok W2) (hp2 : W2.1 = W.1 ∧ W2.2.1 = W.2.1) (hD : Div W2) (hq : W.1 ^ W.2.1 ≤ 27) (hu0 : 0 < u) (hu : u < W.1 ^ W.2.1)
    (kk : ∀ h1, IsoS hh h1 B W (cnt + sg (W.1 ^ W.2.1) (fun v => isoF W W2 u v)) → VI MX5_countIsotopes sz Pr h1 125 [some (.ref B), some (.ref o), some (.ref o2), some (.int (nI u)), none, none] []) :
    ∀ (n v : Nat), n = W.1 ^ W.2.1 - v → 1 ≤ v → v ≤ W.1 ^ W.2.1 → ∀ h1, IsoS hh h1 B W (cnt + sg v (fun v => isoF W W2 u v)) → VI MX5_countIsotopes sz Pr h1 26 [some (.ref B), some (.ref o), some (.ref o2), some (.int (nI u)), some (.int (nI v)), none] [] := by
  obtain ⟨b1, b2, b3, b4, b5⟩ := hk.b
  have eo : W2.1 ^ W2.2.1 = W.1 ^ W.2.1 := by rw [hp2.1, hp2.2]
  intro n
  induction n with
  | zero =>
    intro v e1 e2 e3 h1 s1
    have e' : v = W.1 ^ W.2.1 := by omega
    subst e'
    obtain ⟨r1, ⟨fx, r2⟩, r3, r4⟩ := id s1
    refine e_iload (pc := 26) dX5_countIsotopes_26 rfl ?_
    refine e_aload_n (pc := 28) dX5_countIsotopes_28 rfl rfl ?_
    refine e_get (pc := 29) fl_X5_18 dX5_countIsotopes_29 (by repeat (first | assumption | exact hset_eq _ _ _ | rw [hset_ne _ _ (by omega)])) (by rfl) ?_
    refine n_icmp_ge (pc := 32) (tgt := 125) dX5_countIsotopes_32 (by decide) (by omega) (by omega) (fun hb_ => ?_) (fun c => absurd c (by omega))
    refine V.mask [true, true, true, true, false, false] ?_
    exact kk h1 s1
  | succ n ih =>
    intro v e1 e2 e3 h1 s1
    have hv : v < W.1 ^ W.2.1 := by omega
    obtain ⟨r1, ⟨fx, r2⟩, r3, r4⟩ := id s1
    obtain ⟨g3, k3⟩ := r1 3 (by omega) (by omega)
    obtain ⟨g4, k4⟩ := r1 4 (by omega) (by omega)
    refine e_iload (pc := 26) dX5_countIsotopes_26 rfl ?_
    refine e_aload_n (pc := 28) dX5_countIsotopes_28 rfl rfl ?_
    refine e_get (pc := 29) fl_X5_18 dX5_countIsotopes_29 (by repeat (first | assumption | exact hset_eq _ _ _ | rw [hset_ne _ _ (by omega)])) (by rfl) ?_
    refine n_icmp_ge (pc := 32) (tgt := 125) dX5_countIsotopes_32 (by decide) (by omega) (by omega) (fun c => absurd c (by omega)) (fun hb_ => ?_)
    refine n_iconst (pc := 35) 0 dX5_countIsotopes_35 (by decide) ?_
    refine e_istore (pc := 36) dX5_countIsotopes_36 (by decide) ?_
    refine l_ci_z (hh := hh) hC hk hk2 hp2 hD hq hu0 hu (show 0 < v by omega) hv (fun h2 S2 S3 S4 => ?_) (W.1 ^ W.2.1) 0 rfl (Nat.zero_le _) h1 s1 ⟨g3, k3, fun t ht => absurd ht (Nat.not_lt_zero t)⟩ ⟨g4, k4, fun t ht => absurd ht (Nat.not_lt_zero t)⟩
    obtain ⟨q1, ⟨fx2, q2⟩, ⟨g13, q3, q3'⟩, q4⟩ := S2
    obtain ⟨G3, z1, z2⟩ := S3
    obtain ⟨G4, z3, z4⟩ := S4
    obtain ⟨⟨t1, t2, c1, c2, c3⟩, v1, v2⟩ := id hC
    have K2 := (q4 (B + 2) (by omega) (by omega) (by omega) (by omega) (by omega)).trans c2
    have y1 := (c3 u v hu hv).2
    have ix := ix_lt hu hv hq
    have mz : 0 < mul W2 u v := Nat.pos_of_ne_zero (hD u v hu0 (by omega) (by omega) (by omega))
    have ml := mul_lt hk2 u v
    rw [eo] at ml
    obtain ⟨g12, k12⟩ := q1 12 (by omega) (by omega)
    have k12 : h2 (B + 12) = some (aI 5 g12) := k12
    have zf : ∀ x, x < W.1 ^ W.2.1 → qz W2 v false x < W.1 ^ W.2.1 ∧ G3 x = nI (qz W2 v false x) := fun x hx => by
      obtain ⟨o1, o2'⟩ := qz_ok hk2 hD (show 0 < v by omega) (by omega) false (show x < W2.1 ^ W2.2.1 by omega)
      have := z2 _ (show qz W2 v false x < W.1 ^ W.2.1 by omega)
      have o3 : mul W2 (qz W2 v false x) v = x := o2'
      rw [o3] at this
      exact ⟨by omega, this⟩
    have zt : ∀ x, x < W.1 ^ W.2.1 → qz W2 u true x < W.1 ^ W.2.1 ∧ G4 x = nI (qz W2 u true x) := fun x hx => by
      obtain ⟨o1, o2'⟩ := qz_ok hk2 hD hu0 (by omega) true (show x < W2.1 ^ W2.2.1 by omega)
      have := z4 _ (show qz W2 u true x < W.1 ^ W.2.1 by omega)
      have o3 : mul W2 u (qz W2 u true x) = x := o2'
      rw [o3] at this
      exact ⟨by omega, this⟩
    refine e_aload_n (pc := 96) dX5_countIsotopes_96 rfl rfl ?_
    refine e_aload_n (pc := 97) dX5_countIsotopes_97 rfl rfl ?_
    refine e_get (pc := 98) fl_X5_31 dX5_countIsotopes_98 (by repeat (first | assumption | exact hset_eq _ _ _ | rw [hset_ne _ _ (by omega)])) (by rfl) ?_
    refine e_iload_n (pc := 101) dX5_countIsotopes_101 rfl rfl ?_
    refine e_aload_n (pc := 102) dX5_countIsotopes_102 rfl rfl ?_
    refine e_get (pc := 103) fl_X5_18 dX5_countIsotopes_103 (by repeat (first | assumption | exact hset_eq _ _ _ | rw [hset_ne _ _ (by omega)])) (by rfl) ?_
    refine n_imul (pc := 106) dX5_countIsotopes_106 ?_
    refine e_iload (pc := 107) dX5_countIsotopes_107 rfl ?_
    refine n_iadd (pc := 109) dX5_countIsotopes_109 ?_
    refine e_ialdN (pc := 110) _ dX5_countIsotopes_110 (by repeat (first | assumption | exact hset_eq _ _ _ | rw [hset_ne _ _ (by omega)])) (by rfl) (by omega) (by first | decide | omega) ?_
    rw [y1]
    refine e_put (pc := 111) pl_X5_24 dX5_countIsotopes_111 (by repeat (first | assumption | exact hset_eq _ _ _ | rw [hset_ne _ _ (by omega)])) (by rfl) (by rfl) (by exact Nat.le_of_ble_eq_true rfl) ?_
    refine e_aload_n (pc := 114) dX5_countIsotopes_114 rfl rfl ?_
    refine n_iconst (pc := 115) 0 dX5_countIsotopes_115 (by decide) ?_
    have far : ∀ a, B < a → a < B + 3 ∨ B + 5 ≤ a → a < B + 12 → (hset h2 B (ob 5 [.int (nI W.1), .int (nI W.2.1), .int (nI (W.1 ^ W.2.1)), .int (nI (cnt + sg v (fun v => isoF W W2 u v))), .int (nI (mul W2 u v)), .ref (B + 1), .ref (B + 2), .ref (B + 3), .ref (B + 4), .ref (B + 5), .ref (B + 6), .ref (B + 7), .ref (B + 8), .ref (B + 9), .ref (B + 10), .ref (B + 11), .ref (B + 12), .ref (B + 13)])) a = hh a := fun a x1 x2 x3 => (hset_ne _ _ (by omega)).trans (q4 a (by omega) (by omega) (by omega) (by omega) (by omega))
    have hX : SCtx (hset h2 B (ob 5 [.int (nI W.1), .int (nI W.2.1), .int (nI (W.1 ^ W.2.1)), .int (nI (cnt + sg v (fun v => isoF W W2 u v))), .int (nI (mul W2 u v)), .ref (B + 1), .ref (B + 2), .ref (B + 3), .ref (B + 4), .ref (B + 5), .ref (B + 6), .ref (B + 7), .ref (B + 8), .ref (B + 9), .ref (B + 10), .ref (B + 11), .ref (B + 12), .ref (B + 13)])) B W W2 b cd (qz W2 v false) (qz W2 u true) lp rp lev (mul W2 u v) :=
      ⟨⟨⟨t1, (far _ (by omega) (by omega) (by omega)).trans c1, fun x y hx hy => (c3 x y hx hy).1⟩, ⟨t2, (far _ (by omega) (by omega) (by omega)).trans c2, fun x y hx hy => (c3 x y hx hy).2⟩, ⟨G3, (hset_ne _ _ (by omega)).trans z1, fun x hx => (zf x hx).2⟩, ⟨G4, (hset_ne _ _ (by omega)).trans z3, fun x hx => (zt x hx).2⟩, fun x hx => ⟨(zf x hx).1, (zt x hx).1⟩⟩, v2.sf (fun a x1 x2 => far _ (by omega) (by omega) (by omega)), v1, hk, hk2, hq, hp2, ml⟩
    refine n_Vv (pc := 116) (c_X5_extend0 hX (Sf.rf _ _) ⟨hset_eq _ _ _, ⟨g12, (hset_ne _ _ (by omega)).trans k12, fun t ht => absurd ht (Nat.not_lt_zero t)⟩, g13, (hset_ne _ _ (by omega)).trans q3, fun t ht => by (have t0 : t = 0 := by (have : t < 1 := ht; omega)); subst t0; exact q3'.trans (congrArg nI (lin_0 _ _ _).symm)⟩) bX5_extend q_i_X5_extend q_s_X5_extend q_m_X5_71 dX5_countIsotopes_116 rfl rfl (by repeat (first | assumption | exact hset_eq _ _ _ | rw [hset_ne _ _ (by omega)])) rfl rfl (by exact Nat.le_of_ble_eq_true rfl) ⟨by decide, by decide⟩ ⟨rfl, rfl, Nat.zero_le _, Nat.zero_le _⟩ (fun h3 hp => ?_)
    obtain ⟨w1, w2⟩ := hp
    obtain ⟨w3, -, w4⟩ := id w2
    refine n_inc (pc := 119) dX5_countIsotopes_119 rfl (by decide) ?_
    refine e_goto (pc := 122) (tgt := 26) dX5_countIsotopes_122 (by decide) ?_
    refine ih (v + 1) (by omega) (by omega) (by omega) h3 ⟨(ShS.of (q1.hd (x := _)) (fun a x1 x2 x3 x4 => w1 a (by omega) x3 x4) w2).2, ⟨mul W2 u v, ?_⟩, ?_, (q4.set (by omega)).tr w1.ff⟩
    · rw [NM_iso hk hk2 hp2 hD v1.1 hu0 hu (show 0 < v by omega) hv (fun _ _ => rfl) (fun _ _ => rfl), Nat.add_assoc] at w3
      exact w3
    · obtain ⟨g, w5, w6⟩ := w4
      exact ⟨g, w5, (w6 0 (Nat.one_pos)).trans (congrArg nI (lin_0 _ _ _))⟩
theorem l_ci_u (hC : IsoC hh B W W2 b cd lp rp lev) (hk : Wok W) (hk2 : Wok W2) (hp2 : W2.1 = W.1 ∧ W2.2.1 = W.2.1) (hD : Div W2) (hq : W.1 ^ W.2.1 ≤ 27) :
    ∀ (n u : Nat), n = W.1 ^ W.2.1 - u → 1 ≤ u → u ≤ W.1 ^ W.2.1 → ∀ h1, IsoS hh h1 B W (sg u (fun u => sg (W.1 ^ W.2.1) (fun v => isoF W W2 u v))) → VI MX5_countIsotopes sz (fun z h' => z = nI (isoN W W2) ∧ ShS h' B ∧ Ff B hh h') h1 15 [some (.ref B), some (.ref o), some (.ref o2), some (.int (nI u)), none, none] [] := by
  obtain ⟨b1, b2, b3, b4, b5⟩ := hk.b
  intro n
  induction n with
  | zero =>
    intro u e1 e2 e3 h1 s1
    have e' : u = W.1 ^ W.2.1 := by omega
    subst e'
    obtain ⟨r1, ⟨fx, r2⟩, r3, r4⟩ := id s1
    refine e_iload_n (pc := 15) dX5_countIsotopes_15 rfl rfl ?_
    refine e_aload_n (pc := 16) dX5_countIsotopes_16 rfl rfl ?_
    refine e_get (pc := 17) fl_X5_18 dX5_countIsotopes_17 (by repeat (first | assumption | exact hset_eq _ _ _ | rw [hset_ne _ _ (by omega)])) (by rfl) ?_
    refine n_icmp_ge (pc := 20) (tgt := 131) dX5_countIsotopes_20 (by decide) (by omega) (by omega) (fun hb_ => ?_) (fun c => absurd c (by omega))
    refine e_aload_n (pc := 131) dX5_countIsotopes_131 rfl rfl ?_
    refine e_get (pc := 132) fl_X5_21 dX5_countIsotopes_132 (by repeat (first | assumption | exact hset_eq _ _ _ | rw [hset_ne _ _ (by omega)])) (by rfl) ?_
    exact n_iret (pc := 135) dX5_countIsotopes_135 rfl ⟨rfl, ⟨⟨_, _, _, _, _, r2⟩, r1⟩, r4⟩
  | succ n ih =>
    intro u e1 e2 e3 h1 s1
    obtain ⟨r1, ⟨fx, r2⟩, r3, r4⟩ := id s1
    refine e_iload_n (pc := 15) dX5_countIsotopes_15 rfl rfl ?_
    refine e_aload_n (pc := 16) dX5_countIsotopes_16 rfl rfl ?_
    refine e_get (pc := 17) fl_X5_18 dX5_countIsotopes_17 (by repeat (first | assumption | exact hset_eq _ _ _ | rw [hset_ne _ _ (by omega)])) (by rfl) ?_
    refine n_icmp_ge (pc := 20) (tgt := 131) dX5_countIsotopes_20 (by decide) (by omega) (by omega) (fun c => absurd c (by omega)) (fun hb_ => ?_)
    refine n_iconst (pc := 23) 1 dX5_countIsotopes_23 (by decide) ?_
    refine e_istore (pc := 24) dX5_countIsotopes_24 (by decide) ?_
    refine l_ci_v (hh := hh) (cnt := sg u (fun u => sg (W.1 ^ W.2.1) (fun v => isoF W W2 u v))) hC hk hk2 hp2 hD hq (show 0 < u by omega) (show u < W.1 ^ W.2.1 by omega) (fun h2 S2 => ?_) (W.1 ^ W.2.1 - 1) 1 rfl (Nat.le_refl _) (by omega) h1 ?_
    · refine n_inc (pc := 125) dX5_countIsotopes_125 rfl (by decide) ?_
      refine e_goto (pc := 128) (tgt := 15) dX5_countIsotopes_128 (by decide) ?_
      exact ih (u + 1) (by omega) (by omega) (by omega) h2 S2
    · have z : sg 1 (fun v => isoF W W2 u v) = 0 := by
        show 0 + isoF W W2 u 0 = 0
        unfold isoF
        rw [if_neg (by omega)]
      rw [z]
      exact s1
end CI2
theorem c_X5_countIsotopes (hB : ShS h B) (hW : WAt h o W f) (hW2 : WAt h o2 W2 f2) (hk : Wok W) (hk2 : Wok W2) (hp2 : W2.1 = W.1 ∧ W2.2.1 = W.2.1) (hD : Div W2) (hq : W.1 ^ W.2.1 ≤ 16) (d : o + 3 ≤ B ∨ B + 14 ≤ o) (d2 : o2 + 3 ≤ B ∨ B + 14 ≤ o2) (d3 : o = o2 ∨ o + 3 ≤ o2 ∨ o2 + 3 ≤ o) :
    CI yX5_countIsotopes MX5_countIsotopes [.ref B, .ref o, .ref o2] h (fun z h' => z = nI (isoN W W2) ∧ ShS h' B ∧ WAt h' o W f ∧ WAt h' o2 W2 f2 ∧ Fz B o o2 h h') := by
  obtain ⟨b1, b2, b3, b4, b5⟩ := hk.b
  obtain ⟨⟨p0, n0, q0, c0, fx0, s1⟩, -⟩ := id hB
  refine CI.ofV (by decide) rfl rfl (by simp [Value.category]) (by exact Nat.le_of_ble_eq_true rfl) (fun sz => ?_)
  refine e_aload_n (pc := 0) dX5_countIsotopes_0 rfl rfl ?_
  refine e_aload_n (pc := 1) dX5_countIsotopes_1 rfl rfl ?_
  refine e_aload_n (pc := 2) dX5_countIsotopes_2 rfl rfl ?_
  refine n_bipush (pc := 3) 16 dX5_countIsotopes_3 (by decide) ?_
  refine n_V (pc := 5) (c_X5_prepare hB hW hW2 hk hk2 hp2 hq (by omega) d d2 d3) bX5_prepare q_i_X5_prepare q_s_X5_prepare q_m_X5_67 dX5_countIsotopes_5 rfl rfl (by repeat (first | assumption | exact hset_eq _ _ _ | rw [hset_ne _ _ (by omega)])) rfl rfl (by exact Nat.le_of_ble_eq_true rfl) ⟨by decide, by decide⟩ ⟨rfl, rfl, Nat.zero_le _, Nat.zero_le _⟩ (fun z h2 hp => ?_)
  obtain ⟨rfl, ⟨r1, r2, r3, r5, b, cd, lp, rp, lev, v1, v2⟩, p2, p3, p4⟩ := hp
  refine e_if_ne (pc := 8) (tgt := 13) dX5_countIsotopes_8 (by decide) (fun _ => ?_) (fun q => absurd q (by decide))
  refine n_iconst (pc := 13) 1 dX5_countIsotopes_13 (by decide) ?_
  refine e_istore_n (pc := 14) dX5_countIsotopes_14 rfl (by decide) ?_
  have q2 : 2 ≤ W.1 ^ W.2.1 := by
    have := Nat.pow_le_pow_right (show 0 < W.1 by omega) b3
    rw [Nat.pow_one] at this
    omega
  refine V.post ?_ (l_ci_u (hh := h2) ⟨r5, v1, v2⟩ hk hk2 hp2 hD (by omega) (W.1 ^ W.2.1 - 1) 1 rfl (Nat.le_refl _) (by omega) h2 ?_)
  · intro r h' z q
    obtain ⟨q0, x, q1, rfl, q3, q4⟩ := q
    have far : ∀ a, (a < B ∨ B + 14 ≤ a) → h' a = h2 a := fun a x => q4 a (by omega) (by omega) (by omega) (by omega) (by omega)
    exact ⟨q0, _, q1, rfl, q3, p2.kept (far _ (by omega)) (far _ (by omega)) (by rw [far _ (by omega)]; exact p2.2.2), p3.kept (far _ (by omega)) (far _ (by omega)) (by rw [far _ (by omega)]; exact p3.2.2), p4.tr (fun a x _ _ => far a x)⟩
  · have z : sg 1 (fun u => sg (W.1 ^ W.2.1) (fun v => isoF W W2 u v)) = 0 := by
      show 0 + sg (W.1 ^ W.2.1) (fun v => isoF W W2 0 v) = 0
      rw [Nat.zero_add]
      exact sg_zero (fun v _ => by unfold isoF; rw [if_neg (by omega)])
    rw [z]
    exact ⟨r1, r2, r3, Ff.rf _ _⟩
end CS
