/-! ===== Search: a basis is chosen ===== -/
def szS (k : Nat) : Nat := match k with
  | 1 => 729 | 2 => 729 | 3 => 27 | 4 => 27 | 5 => 27 | 6 => 27 | 7 => 5 | 8 => 5 | 9 => 5 | 10 => 25 | 11 => 25 | 12 => 5 | _ => 27
/-- the Search's own rows, whatever they hold -/
def SRo (h : AH) (B : Nat) : Prop := ∀ k, 1 ≤ k → k ≤ 13 → ∃ g, h (B + k) = some (aI (szS k) g)
theorem SRo.far {h h2 : AH} {B : Nat} (q : SRo h B) (e : ∀ a, B < a → a < B + 14 → h2 a = h a) : SRo h2 B := fun k k1 k2 => by
  obtain ⟨g, hg⟩ := q k k1 k2
  exact ⟨g, (e _ (by omega) (by omega)).trans hg⟩
theorem SRo.set {h : AH} {B k n : Nat} {g : Nat → Int32} (q : SRo h B) (hn : n = szS k) : SRo (hset h (B + k) (aI n g)) B := fun j j1 j2 => by
  by_cases e : j = k
  · subst e; subst hn; exact ⟨g, hset_eq _ _ _⟩
  · obtain ⟨g', hg⟩ := q j j1 j2
    exact ⟨g', (hset_ne _ _ (by omega)).trans hg⟩
theorem SRo.hd {h : AH} {B : Nat} {x : AE} (q : SRo h B) : SRo (hset h B x) B := q.far (fun a y _ => hset_ne _ _ (by omega))
/-- a basis so far, its sums and their numbers -/
def EnC (g : Nat → Int32) (W : Wd) (b : Nat → Nat) (z : Nat) : Prop := ∀ x, x < W.1 ^ W.2.1 → (∃ t, t < z ∧ lin W.1 W.2.1 b t = x ∧ g x = nI t) ∨ ((∀ t, t < z → lin W.1 W.2.1 b t ≠ x) ∧ g x = -1)
def EnA (h : AH) (B : Nat) (W : Wd) (b : Nat → Nat) (m : Nat) : Prop := AV h (B + 7) 5 m (fun t => nI (b t)) ∧ AV h (B + 5) 27 (W.1 ^ m) (fun z => nI (lin W.1 W.2.1 b z)) ∧ ∃ g, h (B + 6) = some (aI 27 g) ∧ EnC g W b (W.1 ^ m)
def SumT (h : AH) (B : Nat) (W : Wd) : Prop := ∃ g, h (B + 1) = some (aI 729 g) ∧ ∀ x y, x < W.1 ^ W.2.1 → y < W.1 ^ W.2.1 → g (x * W.1 ^ W.2.1 + y) = nI (ad W.1 x y)
/-- unchanged but for the rows that choosing writes, and the sums of the world asked -/
def Fb (B o : Nat) (h h' : AH) : Prop := ∀ a, (a < B + 5 ∨ B + 12 ≤ a) → a ≠ o + 2 → h' a = h a
theorem Fb.rf (B o : Nat) (h : AH) : Fb B o h h := fun _ _ _ => rfl
theorem Fb.tr {B o : Nat} {h h1 h2 : AH} (a : Fb B o h h1) (b : Fb B o h1 h2) : Fb B o h h2 := fun q x y => (b q x y).trans (a q x y)
theorem Fb.set {B o a : Nat} {x : AE} {h h1 : AH} (e : Fb B o h h1) (ha : B + 5 ≤ a ∧ a < B + 12) : Fb B o h (hset h1 a x) := fun q p1 p2 => by
  rw [hset_ne _ _ (by omega)]; exact e q p1 p2
theorem Es.fb {B o : Nat} {h h1 : AH} (e : Es o h h1) : Fb B o h h1 := fun a _ x => e a x
section CB
variable {h : AH} {B o : Nat} {W : Wd} {f : Int32} {b : Nat → Nat} {cnt : Nat} {fx : Int32}
theorem EnA.far {h2 : AH} {m : Nat} (q : EnA h B W b m) (e : ∀ a, B + 5 ≤ a → a < B + 8 → h2 a = h a) : EnA h2 B W b m := by
  obtain ⟨a1, a2, g, a3, a4⟩ := q
  exact ⟨a1.keep (e _ (by omega) (by omega)), a2.keep (e _ (by omega) (by omega)), g, (e _ (by omega) (by omega)).trans a3, a4⟩
theorem l_en {sz l x : Nat} {hh : AH} (hk : Wok W) (hq : W.1 ^ W.2.1 ≤ 27) (hl : l < W.2.1) (hx : x < W.1 ^ W.2.1) (hb : ∀ t, cput b l x t < W.1 ^ W.2.1) :
    ∀ (n z : Nat), n = W.1 ^ (l + 1) - z → W.1 ^ l ≤ z → z ≤ W.1 ^ (l + 1) → ∀ h1, SRo h1 B → SHd h1 B W.1 W.2.1 (W.1 ^ W.2.1) cnt fx → SumT h1 B W → AV h1 (B + 7) 5 (l + 1) (fun t => nI (cput b l x t)) → AV h1 (B + 5) 27 z (fun z => nI (lin W.1 W.2.1 (cput b l x) z)) → (∃ g, h1 (B + 6) = some (aI 27 g) ∧ EnC g W (cput b l x) z) → (∀ a, (a < B + 5 ∨ B + 8 ≤ a) → h1 a = hh a) →
    VV MX5_enlarge sz (fun h2 => SRo h2 B ∧ EnA h2 B W (cput b l x) (l + 1) ∧ ∀ a, (a < B + 5 ∨ B + 8 ≤ a) → h2 a = hh a) h1 19 [some (.ref B), some (.int (nI l)), some (.int (nI x)), some (.int (nI (W.1 ^ l))), some (.int (nI z)), none] [] := by
  obtain ⟨b1, b2, b3, b4, b5⟩ := hk.b
  have w2 : W.1 ^ (l + 1) ≤ W.1 ^ W.2.1 := Nat.pow_le_pow_right (by omega) (by omega)
  have w3 : W.1 ^ l * W.1 = W.1 ^ (l + 1) := (Nat.pow_succ W.1 l).symm
  have w4 : 0 < W.1 ^ l := Nat.pow_pos (by omega)
  intro n
  induction n with
  | zero =>
    intro z e1 e2 e3 h1 hR hH hS hC hI hG he
    have e' : z = W.1 ^ (l + 1) := by omega
    subst e'
    refine e_iload (pc := 19) dX5_enlarge_19 rfl ?_
    refine e_iload_n (pc := 21) dX5_enlarge_21 rfl rfl ?_
    refine e_aload_n (pc := 22) dX5_enlarge_22 rfl rfl ?_
    refine e_get (pc := 23) fl_X5_9 dX5_enlarge_23 (by repeat (first | assumption | exact hset_eq _ _ _ | rw [hset_ne _ _ (by omega)])) (by rfl) ?_
    refine n_imul (pc := 26) dX5_enlarge_26 ?_
    rw [w3]
    refine n_icmp_ge (pc := 27) (tgt := 86) dX5_enlarge_27 (by decide) (by omega) (by omega) (fun hb_ => ?_) (fun c => absurd c (by omega))
    exact n_vret (pc := 86) dX5_enlarge_86 rfl ⟨hR, ⟨hC, hI, hG⟩, he⟩
  | succ n ih =>
    intro z e1 e2 e3 h1 hR hH hS hC hI hG he
    obtain ⟨gi, i1, i2⟩ := id hI
    obtain ⟨g1, s1, s2⟩ := id hS
    obtain ⟨gc, c1, c2⟩ := hG
    have y1 := i2 (z - W.1 ^ l) (by omega)
    have l1 : lin W.1 W.2.1 (cput b l x) (z - W.1 ^ l) < W.1 ^ W.2.1 := lin_lt (by omega) b4 (fun t _ => hb t)
    have ix := ix_lt l1 hx hq
    have y2 := s2 _ _ l1 hx
    have up := lin_up (p := W.1) (n := W.2.1) (bs := cput b l x) (i := l) (y := z - W.1 ^ l) (by omega) hl (by
      have : (z - W.1 ^ l) / W.1 ^ l < W.1 - 1 := by
        refine Nat.div_lt_of_lt_mul ?_
        rw [Nat.mul_sub, w3, Nat.mul_one]
        omega
      omega)
    rw [show z - W.1 ^ l + W.1 ^ l = z by omega, cput_at] at up
    have l2 : lin W.1 W.2.1 (cput b l x) z < W.1 ^ W.2.1 := lin_lt (by omega) b4 (fun t _ => hb t)
    refine e_iload (pc := 19) dX5_enlarge_19 rfl ?_
    refine e_iload_n (pc := 21) dX5_enlarge_21 rfl rfl ?_
    refine e_aload_n (pc := 22) dX5_enlarge_22 rfl rfl ?_
    refine e_get (pc := 23) fl_X5_9 dX5_enlarge_23 (by repeat (first | assumption | exact hset_eq _ _ _ | rw [hset_ne _ _ (by omega)])) (by rfl) ?_
    refine n_imul (pc := 26) dX5_enlarge_26 ?_
    rw [w3]
    refine n_icmp_ge (pc := 27) (tgt := 86) dX5_enlarge_27 (by decide) (by omega) (by omega) (fun c => absurd c (by omega)) (fun hb_ => ?_)
    refine e_iload (pc := 30) dX5_enlarge_30 rfl ?_
    refine e_aload_n (pc := 32) dX5_enlarge_32 rfl rfl ?_
    refine e_get (pc := 33) fl_X5_18 dX5_enlarge_33 (by repeat (first | assumption | exact hset_eq _ _ _ | rw [hset_ne _ _ (by omega)])) (by rfl) ?_
    refine n_icmp_ge (pc := 36) (tgt := 86) dX5_enlarge_36 (by decide) (by omega) (by omega) (fun c => absurd c (by omega)) (fun hb_ => ?_)
    refine e_aload_n (pc := 39) dX5_enlarge_39 rfl rfl ?_
    refine e_get (pc := 40) fl_X5_27 dX5_enlarge_40 (by repeat (first | assumption | exact hset_eq _ _ _ | rw [hset_ne _ _ (by omega)])) (by rfl) ?_
    refine e_aload_n (pc := 43) dX5_enlarge_43 rfl rfl ?_
    refine e_get (pc := 44) fl_X5_40 dX5_enlarge_44 (by repeat (first | assumption | exact hset_eq _ _ _ | rw [hset_ne _ _ (by omega)])) (by rfl) ?_
    refine e_iload (pc := 47) dX5_enlarge_47 rfl ?_
    refine e_iload_n (pc := 49) dX5_enlarge_49 rfl rfl ?_
    refine n_isub (pc := 50) dX5_enlarge_50 (by omega) ?_
    refine e_ialdN (pc := 51) _ dX5_enlarge_51 (by repeat (first | assumption | exact hset_eq _ _ _ | rw [hset_ne _ _ (by omega)])) (by rfl) (by omega) (by first | decide | omega) ?_
    rw [y1]
    refine e_aload_n (pc := 52) dX5_enlarge_52 rfl rfl ?_
    refine e_get (pc := 53) fl_X5_18 dX5_enlarge_53 (by repeat (first | assumption | exact hset_eq _ _ _ | rw [hset_ne _ _ (by omega)])) (by rfl) ?_
    refine n_imul (pc := 56) dX5_enlarge_56 ?_
    refine e_iload_n (pc := 57) dX5_enlarge_57 rfl rfl ?_
    refine n_iadd (pc := 58) dX5_enlarge_58 ?_
    refine e_ialdN (pc := 59) _ dX5_enlarge_59 (by repeat (first | assumption | exact hset_eq _ _ _ | rw [hset_ne _ _ (by omega)])) (by rfl) (by omega) (by first | decide | omega) ?_
    rw [y2, ← up]
    refine e_istore (pc := 60) dX5_enlarge_60 (by decide) ?_
    refine e_aload_n (pc := 62) dX5_enlarge_62 rfl rfl ?_
    refine e_get (pc := 63) fl_X5_40 dX5_enlarge_63 (by repeat (first | assumption | exact hset_eq _ _ _ | rw [hset_ne _ _ (by omega)])) (by rfl) ?_
    refine e_iload (pc := 66) dX5_enlarge_66 rfl ?_
    refine e_iload (pc := 68) dX5_enlarge_68 rfl ?_
    refine e_iastN (pc := 70) _ dX5_enlarge_70 (by repeat (first | assumption | exact hset_eq _ _ _ | rw [hset_ne _ _ (by omega)])) (by rfl) (by omega) (by first | decide | omega) ?_
    refine e_aload_n (pc := 71) dX5_enlarge_71 rfl rfl ?_
    refine e_get (pc := 72) fl_X5_43 dX5_enlarge_72 (by repeat (first | assumption | exact hset_eq _ _ _ | rw [hset_ne _ _ (by omega)])) (by rfl) ?_
    refine e_iload (pc := 75) dX5_enlarge_75 rfl ?_
    refine e_iload (pc := 77) dX5_enlarge_77 rfl ?_
    refine e_iastN (pc := 79) _ dX5_enlarge_79 (by repeat (first | assumption | exact hset_eq _ _ _ | rw [hset_ne _ _ (by omega)])) (by rfl) (by omega) (by first | decide | omega) ?_
    refine n_inc (pc := 80) dX5_enlarge_80 rfl (by decide) ?_
    refine e_goto (pc := 83) (tgt := 19) dX5_enlarge_83 (by decide) ?_
    refine V.mask [true, true, true, true, true, false] ?_
    refine ih (z + 1) (by omega) (by omega) (by omega) _ ((hR.set rfl).set rfl) (((hset_ne _ _ (by omega)).trans (hset_ne _ _ (by omega))).trans hH) ⟨g1, by rw [hset_ne _ _ (by omega), hset_ne _ _ (by omega)]; exact s1, s2⟩ ((hC.keep (hset_ne _ _ (by omega))).keep (hset_ne _ _ (by omega))) ⟨_, (hset_ne _ _ (by omega)).trans (hset_eq _ _ _), fun t ht => ?_⟩ ⟨_, hset_eq _ _ _, fun y hy => ?_⟩ (fun a ha => by rw [hset_ne _ _ (by omega), hset_ne _ _ (by omega)]; exact he a ha)
    · by_cases e : t = z
      · subst e; rw [pk_us]
      · rw [pk_un e]; exact i2 t (by omega)
    · by_cases e : y = lin W.1 W.2.1 (cput b l x) z
      · subst e; exact Or.inl ⟨z, by omega, rfl, by rw [pk_us]⟩
      · rw [pk_un e]
        rcases c2 y hy with ⟨t, t1, t2, t3⟩ | ⟨t1, t2⟩
        · exact Or.inl ⟨t, by omega, t2, t3⟩
        · refine Or.inr ⟨fun t ht => ?_, t2⟩
          by_cases e3 : t = z
          · subst e3; exact fun q => e q.symm
          · exact t1 t (by omega)
theorem c_X5_enlarge {l x : Nat} (hR : SRo h B) (hH : SHd h B W.1 W.2.1 (W.1 ^ W.2.1) cnt fx) (hS : SumT h B W) (hk : Wok W) (hq : W.1 ^ W.2.1 ≤ 27) (hl : l < W.2.1) (hx : x < W.1 ^ W.2.1) (hb : ∀ t, b t < W.1 ^ W.2.1) (hE : EnA h B W b l) : CV yX5_enlarge MX5_enlarge [.ref B, .int (nI l), .int (nI x)] h (fun h2 => SRo h2 B ∧ EnA h2 B W (cput b l x) (l + 1) ∧ ∀ a, (a < B + 5 ∨ B + 8 ≤ a) → h2 a = h a) := by
  obtain ⟨b1, b2, b3, b4, b5⟩ := hk.b
  obtain ⟨⟨g7, a1, a2⟩, ⟨g5, a3, a4⟩, g6, a5, a6⟩ := id hE
  have hb2 : ∀ t, cput b l x t < W.1 ^ W.2.1 := fun t => by
    by_cases e : t = l
    · rw [e, cput_at]; exact hx
    · rw [cput_ne e]; exact hb t
  refine CV.ofV (by decide) rfl rfl (by simp [Value.category]) (by exact Nat.le_of_ble_eq_true rfl) (fun sz => ?_)
  refine e_aload_n (pc := 0) dX5_enlarge_0 rfl rfl ?_
  refine e_get (pc := 1) fl_X5_46 dX5_enlarge_1 (by repeat (first | assumption | exact hset_eq _ _ _ | rw [hset_ne _ _ (by omega)])) (by rfl) ?_
  refine e_iload_n (pc := 4) dX5_enlarge_4 rfl rfl ?_
  refine e_iload_n (pc := 5) dX5_enlarge_5 rfl rfl ?_
  refine e_iastN (pc := 6) _ dX5_enlarge_6 (by repeat (first | assumption | exact hset_eq _ _ _ | rw [hset_ne _ _ (by omega)])) (by rfl) (by omega) (by first | decide | omega) ?_
  refine e_aload_n (pc := 7) dX5_enlarge_7 rfl rfl ?_
  refine e_get (pc := 8) fl_X5_9 dX5_enlarge_8 (by repeat (first | assumption | exact hset_eq _ _ _ | rw [hset_ne _ _ (by omega)])) (by rfl) ?_
  refine e_iload_n (pc := 11) dX5_enlarge_11 rfl rfl ?_
  refine n_SP (pc := 12) (c_X8_power (show l ≤ 5 by omega) b2) bX8_power q_st_X8_power q_m_X5_117 dX5_enlarge_12 rfl rfl (by exact Nat.le_of_ble_eq_true rfl) ⟨by decide, by decide⟩ ⟨rfl, rfl, Nat.zero_le _, Nat.zero_le _⟩ ?_
  refine e_istore_n (pc := 15) dX5_enlarge_15 rfl (by decide) ?_
  refine e_iload_n (pc := 16) dX5_enlarge_16 rfl rfl ?_
  refine e_istore (pc := 17) dX5_enlarge_17 (by decide) ?_
  have w5 : W.1 ^ l ≤ W.1 ^ (l + 1) := Nat.pow_le_pow_right (by omega) (by omega)
  obtain ⟨g1, s1, s2⟩ := id hS
  refine l_en hk hq hl hx hb2 _ (W.1 ^ l) rfl (Nat.le_refl _) w5 _ (hR.set rfl) ((hset_ne _ _ (by omega)).trans hH) ⟨g1, (hset_ne _ _ (by omega)).trans s1, s2⟩ ⟨_, hset_eq _ _ _, fun t ht => ?_⟩ ⟨g5, (hset_ne _ _ (by omega)).trans a3, fun t ht => (a4 t ht).trans (congrArg nI (cput_lin hk ht).symm)⟩ ⟨g6, (hset_ne _ _ (by omega)).trans a5, fun y hy => ?_⟩ (fun a ha => hset_ne _ _ (by omega))
  · by_cases e : t = l
    · subst e; rw [pk_us]; exact congrArg nI (cput_at b t x).symm
    · rw [pk_un e]; exact (a2 t (by omega)).trans (congrArg nI (cput_ne e).symm)
  · rcases a6 y hy with ⟨t, t1, t2, t3⟩ | ⟨t1, t2⟩
    · exact Or.inl ⟨t, t1, by rw [cput_lin hk t1]; exact t2, t3⟩
    · exact Or.inr ⟨fun t ht => by rw [cput_lin hk ht]; exact t1 t ht, t2⟩
/-- a basis so far: who its members' parents are -/
def BMath (W : Wd) (b : Nat → Nat) (lp rp : Nat → Int32) (m : Nat) : Prop := (∀ t, b t < W.1 ^ W.2.1) ∧ Ind W.1 W.2.1 b m ∧ (0 < m → b 0 = 1) ∧ ∀ l, l < m → (lp l = -1 ∧ rp l = -1) ∨ ∃ i j, i < l ∧ j < l ∧ lp l = nI i ∧ rp l = nI j ∧ b l = mul W (b i) (b j)
def BAt (h : AH) (B : Nat) (W : Wd) (b : Nat → Nat) (m : Nat) : Prop := SRo h B ∧ EnA h B W b m ∧ ∃ gl gr, h (B + 8) = some (aI 5 gl) ∧ h (B + 9) = some (aI 5 gr) ∧ BMath W b gl gr m
theorem BAt.far {h2 : AH} {m : Nat} (q : BAt h B W b m) (e : ∀ a, B < a → a < B + 14 → h2 a = h a) : BAt h2 B W b m := by
  obtain ⟨a1, a2, gl, gr, a3, a4, a5⟩ := q
  exact ⟨a1.far e, a2.far (fun a x y => e a (by omega) (by omega)), gl, gr, (e _ (by omega) (by omega)).trans a3, (e _ (by omega) (by omega)).trans a4, a5⟩
theorem BMath.next {gl gr gl2 gr2 : Nat → Int32} {l x : Nat} (hk : Wok W) (hM : BMath W b gl gr l) (hx : x < W.1 ^ W.2.1) (hn : ∀ z, z < W.1 ^ l → lin W.1 W.2.1 b z ≠ x) (h0 : l = 0 → x = 1) (hg : ∀ t, t < l → gl2 t = gl t ∧ gr2 t = gr t) (hp : (gl2 l = -1 ∧ gr2 l = -1) ∨ ∃ i j, i < l ∧ j < l ∧ gl2 l = nI i ∧ gr2 l = nI j ∧ x = mul W (b i) (b j)) : BMath W (cput b l x) gl2 gr2 (l + 1) := by
  obtain ⟨m1, m2, m3, m4⟩ := hM
  have hp0 : 0 < W.1 := by have := hk.b; omega
  refine ⟨fun t => ?_, fun t ht z hz e => ?_, fun _ => ?_, fun t ht => ?_⟩
  · by_cases e : t = l
    · rw [e, cput_at]; exact hx
    · rw [cput_ne e]; exact m1 t
  · by_cases e2 : t = l
    · subst e2; rw [cput_at, cput_lin hk hz] at e; exact hn z hz e
    · rw [cput_ne e2] at e
      have e4 : lin W.1 W.2.1 (cput b l x) z = lin W.1 W.2.1 b z := lin_low hp0 hz (fun i hi => cput_ne (by omega))
      exact m2 t (by omega) z hz (e4.symm.trans e)
  · by_cases e : l = 0
    · subst e; rw [cput_at]; exact h0 rfl
    · rw [cput_ne (by omega)]; exact m3 (by omega)
  · by_cases e : t = l
    · subst e
      rcases hp with hp | ⟨i, j, hi, hj, p1, p2, p3⟩
      · exact Or.inl hp
      · exact Or.inr ⟨i, j, hi, hj, p1, p2, by rw [cput_at, cput_ne (by omega), cput_ne (by omega)]; exact p3⟩
    · obtain ⟨q1, q2⟩ := hg t (by omega)
      rcases m4 t (by omega) with hp | ⟨i, j, hi, hj, p1, p2, p3⟩
      · exact Or.inl ⟨by rw [q1]; exact hp.1, by rw [q2]; exact hp.2⟩
      · exact Or.inr ⟨i, j, hi, hj, by rw [q1]; exact p1, by rw [q2]; exact p2, by rw [cput_ne (by omega), cput_ne (by omega), cput_ne (by omega)]; exact p3⟩
section CP1
variable {sz l : Nat} {hh : AH} {Pr : Int32 → AH → Prop}
theorem l_chp_j {i : Nat} (hk : Wok W) (hq : W.1 ^ W.2.1 ≤ 27) (hl : l < W.2.1) (hi : i < l) (d : o + 3 ≤ B ∨ B + 14 ≤ o)
    (kf : ∀ h2 x, BAt h2 B W (cput b l x) (l + 1) → WAt h2 o W f → Fb B o hh h2 → Pr 1 h2)
    (kk : ∀ h1, BAt h1 B W b l → SHd h1 B W.1 W.2.1 (W.1 ^ W.2.1) cnt fx → SumT h1 B W → WAt h1 o W f → Fb B o hh h1 → VI MX5_chooseProduct sz Pr h1 76 [some (.ref B), some (.ref o), some (.int (nI l)), some (.int (nI i)), none, none] []) :
    ∀ (n j : Nat), n = l - j → j ≤ l → ∀ h1, BAt h1 B W b l → SHd h1 B W.1 W.2.1 (W.1 ^ W.2.1) cnt fx → SumT h1 B W → WAt h1 o W f → Fb B o hh h1 → VI MX5_chooseProduct sz Pr h1 10 [some (.ref B), some (.ref o), some (.int (nI l)), some (.int (nI i)), some (.int (nI j)), none] [] := by
  obtain ⟨b1, b2, b3, b4, b5⟩ := hk.b
  intro n
  induction n with
  | zero =>
    intro j e1 e2 h1 hA hH hS hW he
    have e' : j = l := by omega
    subst e'
    refine e_iload (pc := 10) dX5_chooseProduct_10 rfl ?_
    refine e_iload_n (pc := 12) dX5_chooseProduct_12 rfl rfl ?_
    refine n_icmp_ge (pc := 13) (tgt := 76) dX5_chooseProduct_13 (by decide) (by omega) (by omega) (fun hb_ => ?_) (fun c => absurd c (by omega))
    refine V.mask [true, true, true, true, false, false] ?_
    exact kk h1 hA hH hS hW he
  | succ n ih =>
    intro j e1 e2 h1 hA hH hS hW he
    obtain ⟨a1, ⟨⟨g7, a2, a3⟩, a4⟩, gl, gr, a5, a6, hM⟩ := id hA
    have m1 := hM.1 i
    have m2 := hM.1 j
    have y1 := a3 i (by omega)
    have y2 := a3 j (by omega)
    have mm := mul_lt hk (b i) (b j)
    obtain ⟨w0, -⟩ := id hW
    refine e_iload (pc := 10) dX5_chooseProduct_10 rfl ?_
    refine e_iload_n (pc := 12) dX5_chooseProduct_12 rfl rfl ?_
    refine n_icmp_ge (pc := 13) (tgt := 76) dX5_chooseProduct_13 (by decide) (by omega) (by omega) (fun c => absurd c (by omega)) (fun hb_ => ?_)
    refine e_aload_n (pc := 16) dX5_chooseProduct_16 rfl rfl ?_
    refine e_aload_n (pc := 17) dX5_chooseProduct_17 rfl rfl ?_
    refine e_get (pc := 18) fl_X5_46 dX5_chooseProduct_18 (by repeat (first | assumption | exact hset_eq _ _ _ | rw [hset_ne _ _ (by omega)])) (by rfl) ?_
    refine e_iload_n (pc := 21) dX5_chooseProduct_21 rfl rfl ?_
    refine e_ialdN (pc := 22) _ dX5_chooseProduct_22 (by repeat (first | assumption | exact hset_eq _ _ _ | rw [hset_ne _ _ (by omega)])) (by rfl) (by omega) (by first | decide | omega) ?_
    rw [y1]
    refine e_aload_n (pc := 23) dX5_chooseProduct_23 rfl rfl ?_
    refine e_get (pc := 24) fl_X5_46 dX5_chooseProduct_24 (by repeat (first | assumption | exact hset_eq _ _ _ | rw [hset_ne _ _ (by omega)])) (by rfl) ?_
    refine e_iload (pc := 27) dX5_chooseProduct_27 rfl ?_
    refine e_ialdN (pc := 29) _ dX5_chooseProduct_29 (by repeat (first | assumption | exact hset_eq _ _ _ | rw [hset_ne _ _ (by omega)])) (by rfl) (by omega) (by first | decide | omega) ?_
    rw [y2]
    refine n_V (pc := 30) (c_X9_times2 hW hk (show b i < 3125 by omega) (show b j < 3125 by omega)) bX9_times q_i_X9_times q_s_X9_times q_m_X5_90 dX5_chooseProduct_30 rfl rfl (by repeat (first | assumption | exact hset_eq _ _ _ | rw [hset_ne _ _ (by omega)])) rfl rfl (by exact Nat.le_of_ble_eq_true rfl) ⟨by decide, by decide⟩ ⟨rfl, rfl, Nat.zero_le _, Nat.zero_le _⟩ (fun z h2 hp => ?_)
    obtain ⟨rfl, p1, p2⟩ := hp
    have hA2 : BAt h2 B W b l := hA.far (fun a x y => p2 a (by omega))
    have hH2 : SHd h2 B W.1 W.2.1 (W.1 ^ W.2.1) cnt fx := (p2 _ (by omega)).trans hH
    have hS2 : SumT h2 B W := by obtain ⟨g, q1, q2⟩ := hS; exact ⟨g, (p2 _ (by omega)).trans q1, q2⟩
    obtain ⟨c1, ⟨c2, c3, gc, c4, c5⟩, gl2, gr2, c6, c7, -⟩ := id hA2
    obtain ⟨w0, -⟩ := id p1
    refine e_istore (pc := 33) dX5_chooseProduct_33 (by decide) ?_
    refine e_aload_n (pc := 35) dX5_chooseProduct_35 rfl rfl ?_
    refine e_get (pc := 36) fl_X5_43 dX5_chooseProduct_36 (by repeat (first | assumption | exact hset_eq _ _ _ | rw [hset_ne _ _ (by omega)])) (by rfl) ?_
    refine e_iload (pc := 39) dX5_chooseProduct_39 rfl ?_
    refine e_ialdN (pc := 41) _ dX5_chooseProduct_41 (by repeat (first | assumption | exact hset_eq _ _ _ | rw [hset_ne _ _ (by omega)])) (by rfl) (by omega) (by first | decide | omega) ?_
    rcases c5 _ mm with ⟨t, t1, t2, t3⟩ | ⟨t1, t2⟩
    · rw [t3]
      have tl : t < 2 ^ 31 := by
        have : W.1 ^ l ≤ W.1 ^ W.2.1 := Nat.pow_le_pow_right (by omega) (by omega)
        omega
      refine e_iconst (pc := 42) (v := -1) dX5_chooseProduct_42 (by decide) ?_
      refine e_icmp_ne (pc := 43) (tgt := 70) dX5_chooseProduct_43 (by decide) (fun _ => ?_) (fun q => absurd q (nI_ne tl))
      refine n_inc (pc := 70) dX5_chooseProduct_70 rfl (by decide) ?_
      refine e_goto (pc := 73) (tgt := 10) dX5_chooseProduct_73 (by decide) ?_
      refine V.mask [true, true, true, true, true, false] ?_
      exact ih (j + 1) (by omega) (by omega) h2 hA2 hH2 hS2 p1 (he.tr p2.fb)
    · rw [t2]
      refine e_iconst (pc := 42) (v := -1) dX5_chooseProduct_42 (by decide) ?_
      refine e_icmp_ne (pc := 43) (tgt := 70) dX5_chooseProduct_43 (by decide) (fun q => absurd rfl q) (fun _ => ?_)
      refine e_aload_n (pc := 46) dX5_chooseProduct_46 rfl rfl ?_
      refine e_iload_n (pc := 47) dX5_chooseProduct_47 rfl rfl ?_
      refine e_iload (pc := 48) dX5_chooseProduct_48 rfl ?_
      refine n_Vv (pc := 50) (c_X5_enlarge c1 hH2 hS2 hk hq hl mm hM.1 ⟨c2, c3, gc, c4, c5⟩) bX5_enlarge q_i_X5_enlarge q_s_X5_enlarge q_m_X5_109 dX5_chooseProduct_50 rfl rfl (by repeat (first | assumption | exact hset_eq _ _ _ | rw [hset_ne _ _ (by omega)])) rfl rfl (by exact Nat.le_of_ble_eq_true rfl) ⟨by decide, by decide⟩ ⟨rfl, rfl, Nat.zero_le _, Nat.zero_le _⟩ (fun h3 hp => ?_)
      obtain ⟨p3, p4, p5⟩ := hp
      have k6 := (p5 (B + 8) (by omega)).trans c6
      have k7 := (p5 (B + 9) (by omega)).trans c7
      have hH3 : SHd h3 B W.1 W.2.1 (W.1 ^ W.2.1) cnt fx := (p5 _ (by omega)).trans hH2
      obtain ⟨-, -, gl2', gr2', c6', c7', hM2⟩ := id hA2
      have el : gl2' = gl2 := by have e := c6'.symm.trans c6; injection e with e; injection e with e; injection e with e e2; injection e2 with e2 e3; injection e3
      have er : gr2' = gr2 := by have e := c7'.symm.trans c7; injection e with e; injection e with e; injection e with e e2; injection e2 with e2 e3; injection e3
      rw [el, er] at hM2
      refine e_aload_n (pc := 53) dX5_chooseProduct_53 rfl rfl ?_
      refine e_get (pc := 54) fl_X5_49 dX5_chooseProduct_54 (by repeat (first | assumption | exact hset_eq _ _ _ | rw [hset_ne _ _ (by omega)])) (by rfl) ?_
      refine e_iload_n (pc := 57) dX5_chooseProduct_57 rfl rfl ?_
      refine e_iload_n (pc := 58) dX5_chooseProduct_58 rfl rfl ?_
      refine e_iastN (pc := 59) _ dX5_chooseProduct_59 (by repeat (first | assumption | exact hset_eq _ _ _ | rw [hset_ne _ _ (by omega)])) (by rfl) (by omega) (by first | decide | omega) ?_
      refine e_aload_n (pc := 60) dX5_chooseProduct_60 rfl rfl ?_
      refine e_get (pc := 61) fl_X5_52 dX5_chooseProduct_61 (by repeat (first | assumption | exact hset_eq _ _ _ | rw [hset_ne _ _ (by omega)])) (by rfl) ?_
      refine e_iload_n (pc := 64) dX5_chooseProduct_64 rfl rfl ?_
      refine e_iload (pc := 65) dX5_chooseProduct_65 rfl ?_
      refine e_iastN (pc := 67) _ dX5_chooseProduct_67 (by repeat (first | assumption | exact hset_eq _ _ _ | rw [hset_ne _ _ (by omega)])) (by rfl) (by omega) (by first | decide | omega) ?_
      refine n_iconst (pc := 68) 1 dX5_chooseProduct_68 (by decide) ?_
      refine n_zret (pc := 69) dX5_chooseProduct_69 rfl rfl (kf _ (mul W (b i) (b j)) ⟨(p3.set rfl).set rfl, (p4.far (fun a x y => hset_ne _ _ (by omega))).far (fun a x y => hset_ne _ _ (by omega)), _, _, (hset_ne _ _ (by omega)).trans (hset_eq _ _ _), hset_eq _ _ _, hM2.next hk mm t1 (fun q => by omega) (fun t ht => ⟨pk_un (by omega), pk_un (by omega)⟩) (Or.inr ⟨i, j, hi, by omega, by rw [pk_us], by rw [pk_us], rfl⟩)⟩ (((p1.kept (p5 _ (by omega)) (p5 _ (by omega)) (by obtain ⟨-, -, g, q⟩ := p1; exact ⟨g, (p5 _ (by omega)).trans q⟩)).hs (by omega)).hs (by omega)) (((he.tr (p2.fb.tr (fun a x y => p5 a (by omega)))).set (by omega)).set (by omega)))
end CP1
end CB
