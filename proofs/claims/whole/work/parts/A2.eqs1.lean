/-! ===== the reference: rows that come to rows, digits below nought too ===== -/
/-- small numbers, those below nought too -/
def zI (z : Int) : Int32 := Int32.ofInt z
theorem zI_nat (k : Nat) : zI (k : Int) = nI k := Int32.ofInt_eq_ofNat
theorem zI_add (z : Int) (c : Nat) : zI z + nI c = zI (z + c) := by
  rw [← zI_nat]
  exact (Int32.ofInt_add z c).symm
theorem zI_sub (z : Int) (c : Nat) : zI z - nI c = zI (z - c) := by
  rw [← zI_nat]
  exact (Int32.ofInt_sub z c).symm
/-- a number's rest, at least 0 -/
def md (p : Nat) (z : Int) : Nat := (z % (p : Int)).toNat
theorem md_lt {p : Nat} (hp : 0 < p) (z : Int) : md p z < p := by
  unfold md
  have h1 := Int.emod_nonneg z (show (p : Int) ≠ 0 by omega)
  have h2 := Int.emod_lt_of_pos z (show (0 : Int) < p by omega)
  omega
theorem md_0 (p : Nat) : md p 0 = 0 := by unfold md; rw [Int.zero_emod]; rfl
theorem md_nat {p v : Nat} : md p (v : Int) = v % p := by
  unfold md
  rw [← Int.natCast_emod]
  exact Int.toNat_natCast _
theorem rem_t2 : ∀ k : Nat, k < 129 → (zI ((k : Int) - 64) - zI ((k : Int) - 64) / nI 2 * nI 2 = zI (((k : Int) - 64).tmod 2) ∧ zI (((k : Int) - 64).tmod 2) + nI 2 = nI ((((k : Int) - 64).tmod 2) + 2).toNat) := by decide +kernel
theorem rem_t3 : ∀ k : Nat, k < 129 → (zI ((k : Int) - 64) - zI ((k : Int) - 64) / nI 3 * nI 3 = zI (((k : Int) - 64).tmod 3) ∧ zI (((k : Int) - 64).tmod 3) + nI 3 = nI ((((k : Int) - 64).tmod 3) + 3).toNat) := by decide +kernel
theorem rem_t5 : ∀ k : Nat, k < 129 → (zI ((k : Int) - 64) - zI ((k : Int) - 64) / nI 5 * nI 5 = zI (((k : Int) - 64).tmod 5) ∧ zI (((k : Int) - 64).tmod 5) + nI 5 = nI ((((k : Int) - 64).tmod 5) + 5).toNat) := by decide +kernel
theorem tm_t2 : ∀ k : Nat, k < 129 → (md 2 (((k : Int) - 64).tmod 2) = md 2 ((k : Int) - 64) ∧ -4 ≤ ((k : Int) - 64).tmod 2 ∧ ((k : Int) - 64).tmod 2 ≤ 4 ∧ ((((k : Int) - 64).tmod 2) + 2).toNat % 2 = md 2 ((k : Int) - 64) ∧ ((((k : Int) - 64).tmod 2) + 2).toNat < 10) := by decide +kernel
theorem tm_t3 : ∀ k : Nat, k < 129 → (md 3 (((k : Int) - 64).tmod 3) = md 3 ((k : Int) - 64) ∧ -4 ≤ ((k : Int) - 64).tmod 3 ∧ ((k : Int) - 64).tmod 3 ≤ 4 ∧ ((((k : Int) - 64).tmod 3) + 3).toNat % 3 = md 3 ((k : Int) - 64) ∧ ((((k : Int) - 64).tmod 3) + 3).toNat < 10) := by decide +kernel
theorem tm_t5 : ∀ k : Nat, k < 129 → (md 5 (((k : Int) - 64).tmod 5) = md 5 ((k : Int) - 64) ∧ -4 ≤ ((k : Int) - 64).tmod 5 ∧ ((k : Int) - 64).tmod 5 ≤ 4 ∧ ((((k : Int) - 64).tmod 5) + 5).toNat % 5 = md 5 ((k : Int) - 64) ∧ ((((k : Int) - 64).tmod 5) + 5).toNat < 10) := by decide +kernel
theorem zI_rem {p : Nat} {z : Int} (hp : Pm p) (h1 : -64 ≤ z) (h2 : z ≤ 64) : zI z - zI z / nI p * nI p = zI (z.tmod p) ∧ zI (z.tmod p) + nI p = nI (z.tmod p + p).toNat := by
  obtain ⟨k, e⟩ : ∃ k : Nat, z = (k : Int) - 64 := ⟨(z + 64).toNat, by omega⟩
  have hk : k < 129 := by omega
  rw [e]
  rcases hp with rfl | rfl | rfl
  · exact rem_t2 k hk
  · exact rem_t3 k hk
  · exact rem_t5 k hk
theorem md_tm {p : Nat} {z : Int} (hp : Pm p) (h1 : -64 ≤ z) (h2 : z ≤ 64) : md p (z.tmod p) = md p z ∧ -4 ≤ z.tmod p ∧ z.tmod p ≤ 4 ∧ (z.tmod p + p).toNat % p = md p z ∧ (z.tmod p + p).toNat < 10 := by
  obtain ⟨k, e⟩ : ∃ k : Nat, z = (k : Int) - 64 := ⟨(z + 64).toNat, by omega⟩
  have hk : k < 129 := by omega
  rw [e]
  rcases hp with rfl | rfl | rfl
  · exact tm_t2 k hk
  · exact tm_t3 k hk
  · exact tm_t5 k hk
theorem md_add {p c : Nat} {z : Int} (hp : 0 < p) : md p (z + c) = (md p z + c) % p := by
  unfold md
  have h1 := Int.emod_nonneg z (show (p : Int) ≠ 0 by omega)
  have e : ((z % p).toNat : Int) = z % p := Int.toNat_of_nonneg h1
  have : ((((z % p).toNat + c) % p : Nat) : Int) = (z + c) % p := by
    rw [Int.natCast_emod, Int.natCast_add, e, Int.emod_add_emod]
  rw [← this]
  exact Int.toNat_natCast _
section EQ
variable {m : Nat} {s : Ms} {W : Wd} {w sz : Nat} {led : Nat → Bool} {rows : Nat → Nat → Nat}
/-- rows that lead -/
def EqR (h : AH) (m w : Nat) (led : Nat → Bool) (rows : Nat → Nat → Nat) : Prop := (∃ g, h (m + 94) = some (aZ 75 g) ∧ ∀ i, i < w → g i = bI (led i)) ∧ ∀ i, i < 75 → ∃ g, h (m + 18 + i) = some (aI 75 g) ∧ (i < w → led i = true → ∀ t, t < w → g t = nI (rows i t))
/-- the row laid out -/
def EqV (h : AH) (m w : Nat) (R : Nat → Int) : Prop := ∃ g, h (m + 93) = some (aI 75 g) ∧ ∀ t, t < w → g t = zI (R t)
def EqA (hh h : AH) (m : Nat) (W : Wd) (s : Ms) (w : Nat) (led : Nat → Bool) (rows : Nat → Nat → Nat) (R : Nat → Int) : Prop := Lay h m W s ∧ Er (m + 18) (m + 95) hh h ∧ EqR h m w led rows ∧ EqV h m w R
theorem isR_r {k : Nat} (h1 : 18 ≤ k) (h2 : k ≤ 93) : isR k := by unfold isR; omega
theorem szM_r {k : Nat} (h1 : 18 ≤ k) (h2 : k ≤ 93) : 75 = szM k := by
  unfold szM
  rw [if_neg (by omega), if_neg (by omega), if_neg (by omega), if_neg (by omega), if_pos ⟨h1, h2⟩]
theorem Lay.r75 {h : AH} (l : Lay h m W s) {k : Nat} {g : Nat → Int32} (h1 : 18 ≤ k) (h2 : k ≤ 93) : Lay (hset h (m + k) (aI 75 g)) m W s := l.row (isR_r h1 h2) (szM_r h1 h2) (by omega) (by omega)
theorem MRo.hasR {h : AH} (r : MRo h m) (g : Nat → Int32) : MRo (hset h (m + 94) (aZ 75 g)) m := by
  obtain ⟨q1, q2, ⟨g3, q3⟩, q4, π, p1, p2, f5, q5, q6⟩ := r
  refine ⟨fun k hk => ?_, ⟨g, hset_eq _ _ _⟩, ⟨g3, (hset_ne _ _ (by omega)).trans q3⟩, (hset_ne _ _ (by omega)).trans q4, π, p1, p2, f5, (hset_ne _ _ (by omega)).trans q5, q6⟩
  obtain ⟨g1, e1⟩ := q1 k hk
  have hk' := hk
  unfold isR at hk'
  exact ⟨g1, (hset_ne _ _ (by omega)).trans e1⟩
theorem Lay.hasR {h : AH} (l : Lay h m W s) (g : Nat → Int32) : Lay (hset h (m + 94) (aZ 75 g)) m W s := l.fq ((FmB.rf m h).set (k := 94) (by omega)) (l.2.2.hasR g)
theorem EqA.put {hh h : AH} {R R2 : Nat → Int} {g : Nat → Int32} (q : EqA hh h m W s w led rows R) (hg : ∀ t, t < w → g t = zI (R2 t)) : EqA hh (hset h (m + 93) (aI 75 g)) m W s w led rows R2 := by
  obtain ⟨l, e, ⟨⟨gz, z1, z2⟩, r1⟩, -⟩ := q
  refine ⟨l.r75 (by omega) (by omega), e.set (by omega), ⟨⟨gz, (hset_ne _ _ (by omega)).trans z1, z2⟩, fun i hi => ?_⟩, g, hset_eq _ _ _, hg⟩
  obtain ⟨gi, a1, a2⟩ := r1 i hi
  exact ⟨gi, (hset_ne _ _ (by omega)).trans a1, a2⟩
theorem l_fr_b {h : AH} {p n q u v b : Nat} {g : Nat → Int32} {Pr : Int32 → AH → Prop} (hM : MH h m p n q s) (hp : 2 ≤ p ∧ p ≤ 5) (hu : u < 75) (hg : h (m + 93) = some (aI 75 g)) (hv : g u = nI v) (hv2 : v < p) (hb : b < p) (h1 : v * b % p = 1) (h2 : ∀ a, 0 < a → a < b → a * v % p ≠ 1)
    (kk : VI MX11_isFresh sz Pr h 80 [some (.ref m), some (.int (nI w)), some (.int (nI u)), some (.int (nI b)), none] []) :
    ∀ (t a : Nat), t = b - a → 0 < a → a ≤ b → VI MX11_isFresh sz Pr h 57 [some (.ref m), some (.int (nI w)), some (.int (nI u)), some (.int (nI a)), none] [] := by
  intro t
  induction t with
  | zero =>
    intro a e1 e2 e3
    have e' : a = b := by omega
    subst e'
    have l1 : a * v ≤ 5 * 5 := Nat.mul_le_mul (by omega) (by omega)
    refine e_iload_n (pc := 57) dX11_isFresh_57 rfl rfl ?_
    refine e_aload_n (pc := 58) dX11_isFresh_58 rfl rfl ?_
    refine e_get (pc := 59) fl_X11_52 dX11_isFresh_59 (by repeat (first | assumption | exact hset_eq _ _ _ | (apply Lay.hd; assumption) | rw [hset_ne _ _ (by omega)])) (by rfl) ?_
    refine e_iload_n (pc := 62) dX11_isFresh_62 rfl rfl ?_
    refine e_ialdN (pc := 63) u dX11_isFresh_63 (by repeat (first | assumption | exact hset_eq _ _ _ | (apply Lay.hd; assumption) | rw [hset_ne _ _ (by omega)])) (by rfl) (by omega) (by first | decide | omega) ?_
    rw [hv]
    refine n_imul (pc := 64) dX11_isFresh_64 ?_
    refine e_aload_n (pc := 65) dX11_isFresh_65 rfl rfl ?_
    refine e_get (pc := 66) fl_X11_106 dX11_isFresh_66 (by repeat (first | assumption | exact hset_eq _ _ _ | (apply Lay.hd; assumption) | rw [hset_ne _ _ (by omega)])) (by rfl) ?_
    refine n_irem (pc := 69) dX11_isFresh_69 (by omega) (by omega) (by omega) ?_
    refine n_iconst (pc := 70) 1 dX11_isFresh_70 (by decide) ?_
    rw [show a * v % p = 1 by rw [Nat.mul_comm]; exact h1]
    refine n_icmp_eq (pc := 71) (tgt := 80) dX11_isFresh_71 (by decide) (by omega) (by omega) (fun hb_ => ?_) (fun c => absurd c (by omega))
    exact kk
  | succ t ih =>
    intro a e1 e2 e3
    have l1 : a * v ≤ 5 * 5 := Nat.mul_le_mul (by omega) (by omega)
    have l2 := Nat.mod_lt (a * v) (show p > 0 by omega)
    have l3 := h2 a e2 (by omega)
    refine e_iload_n (pc := 57) dX11_isFresh_57 rfl rfl ?_
    refine e_aload_n (pc := 58) dX11_isFresh_58 rfl rfl ?_
    refine e_get (pc := 59) fl_X11_52 dX11_isFresh_59 (by repeat (first | assumption | exact hset_eq _ _ _ | (apply Lay.hd; assumption) | rw [hset_ne _ _ (by omega)])) (by rfl) ?_
    refine e_iload_n (pc := 62) dX11_isFresh_62 rfl rfl ?_
    refine e_ialdN (pc := 63) u dX11_isFresh_63 (by repeat (first | assumption | exact hset_eq _ _ _ | (apply Lay.hd; assumption) | rw [hset_ne _ _ (by omega)])) (by rfl) (by omega) (by first | decide | omega) ?_
    rw [hv]
    refine n_imul (pc := 64) dX11_isFresh_64 ?_
    refine e_aload_n (pc := 65) dX11_isFresh_65 rfl rfl ?_
    refine e_get (pc := 66) fl_X11_106 dX11_isFresh_66 (by repeat (first | assumption | exact hset_eq _ _ _ | (apply Lay.hd; assumption) | rw [hset_ne _ _ (by omega)])) (by rfl) ?_
    refine n_irem (pc := 69) dX11_isFresh_69 (by omega) (by omega) (by omega) ?_
    refine n_iconst (pc := 70) 1 dX11_isFresh_70 (by decide) ?_
    refine n_icmp_eq (pc := 71) (tgt := 80) dX11_isFresh_71 (by decide) (by omega) (by omega) (fun c => absurd c (by omega)) (fun hb_ => ?_)
    refine n_inc (pc := 74) dX11_isFresh_74 rfl (by decide) ?_
    refine e_goto (pc := 77) (tgt := 57) dX11_isFresh_77 (by decide) ?_
    exact ih (a + 1) (by omega) (by omega) (by omega)
theorem l_fr_w {H : AH} {b u : Nat} {gr : Nat → Int32} {R : Nat → Int} {Pr : Int32 → AH → Prop} (hL : Lay H m W s) (hk : Wok W) (hw : w ≤ 75) (hu : u < w) (hb : b < W.1) (hrow : H (m + 93) = some (aI 75 gr)) (hgr : ∀ t, t < w → gr t = zI (R t)) (hR : ∀ t, t < w → -20 ≤ R t ∧ R t ≤ 40)
    (kk : ∀ g, (∀ t, t < w → g t = nI (md W.1 (R t) * b % W.1)) → VI MX11_isFresh sz Pr (hset H (m + 18 + u) (aI 75 g)) 133 [some (.ref m), some (.int (nI w)), some (.int (nI u)), none, none] []) :
    ∀ (n k : Nat), n = w - k → k ≤ w → ∀ g, (∀ t, t < k → g t = nI (md W.1 (R t) * b % W.1)) → VI MX11_isFresh sz Pr (hset H (m + 18 + u) (aI 75 g)) 83 [some (.ref m), some (.int (nI w)), some (.int (nI u)), some (.int (nI b)), some (.int (nI k))] [] := by
  obtain ⟨b1, b2, b3, b4, b5⟩ := hk.b
  intro n
  induction n with
  | zero =>
    intro k e1 e2 g hg
    have e' : k = w := by omega
    subst e'
    refine e_iload (pc := 83) dX11_isFresh_83 rfl ?_
    refine e_iload_n (pc := 85) dX11_isFresh_85 rfl rfl ?_
    refine n_icmp_ge (pc := 86) (tgt := 133) dX11_isFresh_86 (by decide) (by omega) (by omega) (fun hb_ => ?_) (fun c => absurd c (by omega))
    refine V.mask [true, true, true, false, false] ?_
    exact kk g hg
  | succ n ih =>
    intro k e1 e2 g hg
    have hM1 : MH (hset H (m + 18 + u) (aI 75 g)) m W.1 W.2.1 (W.1 ^ W.2.1) s := (hset_ne _ _ (by omega)).trans hL.1
    have hG : H (m + 17) = some (aG 75 (fun i => if i < 75 then some (m + 18 + i) else none)) := hL.2.2.2.2.2.1
    obtain ⟨r1, r2⟩ := hR k (by omega)
    obtain ⟨z1, z2⟩ := zI_rem (p := W.1) (z := R k) hk.1 (by omega) (by omega)
    obtain ⟨-, -, -, z3, z4⟩ := md_tm (p := W.1) (z := R k) hk.1 (by omega) (by omega)
    have z5 := hgr k (by omega)
    have z6 := md_lt (show 0 < W.1 by omega) (R k)
    have l1 : md W.1 (R k) * b ≤ 5 * 5 := Nat.mul_le_mul (by omega) (by omega)
    refine e_iload (pc := 83) dX11_isFresh_83 rfl ?_
    refine e_iload_n (pc := 85) dX11_isFresh_85 rfl rfl ?_
    refine n_icmp_ge (pc := 86) (tgt := 133) dX11_isFresh_86 (by decide) (by omega) (by omega) (fun c => absurd c (by omega)) (fun hb_ => ?_)
    refine e_aload_n (pc := 89) dX11_isFresh_89 rfl rfl ?_
    refine e_get (pc := 90) fl_X11_49 dX11_isFresh_90 (by repeat (first | assumption | exact hset_eq _ _ _ | (apply Lay.hd; assumption) | rw [hset_ne _ _ (by omega)])) (by rfl) ?_
    refine e_iload_n (pc := 93) dX11_isFresh_93 rfl rfl ?_
    refine e_aldGS (pc := 94) u dX11_isFresh_94 (by repeat (first | assumption | exact hset_eq _ _ _ | (apply Lay.hd; assumption) | rw [hset_ne _ _ (by omega)])) (by rfl) (by omega) (by first | decide | omega) (if_pos (show u < 75 by omega)) ?_
    refine e_iload (pc := 95) dX11_isFresh_95 rfl ?_
    refine e_aload_n (pc := 97) dX11_isFresh_97 rfl rfl ?_
    refine e_get (pc := 98) fl_X11_52 dX11_isFresh_98 (by repeat (first | assumption | exact hset_eq _ _ _ | (apply Lay.hd; assumption) | rw [hset_ne _ _ (by omega)])) (by rfl) ?_
    refine e_iload (pc := 101) dX11_isFresh_101 rfl ?_
    refine e_ialdN (pc := 103) k dX11_isFresh_103 (by repeat (first | assumption | exact hset_eq _ _ _ | (apply Lay.hd; assumption) | rw [hset_ne _ _ (by omega)])) (by rfl) (by omega) (by first | decide | omega) ?_
    rw [z5]
    refine e_aload_n (pc := 104) dX11_isFresh_104 rfl rfl ?_
    refine e_get (pc := 105) fl_X11_106 dX11_isFresh_105 (by repeat (first | assumption | exact hset_eq _ _ _ | (apply Lay.hd; assumption) | rw [hset_ne _ _ (by omega)])) (by rfl) ?_
    refine e_irem (pc := 108) dX11_isFresh_108 (nI_ne0 (by omega) (by omega)) ?_
    rw [z1]
    refine e_aload_n (pc := 109) dX11_isFresh_109 rfl rfl ?_
    refine e_get (pc := 110) fl_X11_106 dX11_isFresh_110 (by repeat (first | assumption | exact hset_eq _ _ _ | (apply Lay.hd; assumption) | rw [hset_ne _ _ (by omega)])) (by rfl) ?_
    refine e_iadd (pc := 113) dX11_isFresh_113 ?_
    rw [z2]
    refine e_aload_n (pc := 114) dX11_isFresh_114 rfl rfl ?_
    refine e_get (pc := 115) fl_X11_106 dX11_isFresh_115 (by repeat (first | assumption | exact hset_eq _ _ _ | (apply Lay.hd; assumption) | rw [hset_ne _ _ (by omega)])) (by rfl) ?_
    refine n_irem (pc := 118) dX11_isFresh_118 (by omega) (by omega) (by omega) ?_
    rw [z3]
    refine e_iload_n (pc := 119) dX11_isFresh_119 rfl rfl ?_
    refine n_imul (pc := 120) dX11_isFresh_120 ?_
    refine e_aload_n (pc := 121) dX11_isFresh_121 rfl rfl ?_
    refine e_get (pc := 122) fl_X11_106 dX11_isFresh_122 (by repeat (first | assumption | exact hset_eq _ _ _ | (apply Lay.hd; assumption) | rw [hset_ne _ _ (by omega)])) (by rfl) ?_
    refine n_irem (pc := 125) dX11_isFresh_125 (by omega) (by omega) (by omega) ?_
    refine e_iastN (pc := 126) k dX11_isFresh_126 (by repeat (first | assumption | exact hset_eq _ _ _ | (apply Lay.hd; assumption) | rw [hset_ne _ _ (by omega)])) (by rfl) (by omega) (by first | decide | omega) ?_
    refine e_heap (hset_hset H (m + 18 + u) _ _) ?_
    refine n_inc (pc := 127) dX11_isFresh_127 rfl (by decide) ?_
    refine e_goto (pc := 130) (tgt := 83) dX11_isFresh_130 (by decide) ?_
    refine ih (k + 1) (by omega) (by omega) _ (fun t ht => ?_)
    by_cases e : t = k
    · subst e; rw [pk_us]
    · rw [pk_un e]; exact hg t (by omega)
/-- a row less its leading part -/
def rdz (p tm : Nat) (R : Nat → Int) (row : Nat → Nat) (t : Nat) : Int := (R t + ((p - tm) * row t : Nat)).tmod p
theorem l_fr_k {H : AH} {tm u : Nat} {gr : Nat → Int32} {R : Nat → Int} {row : Nat → Nat} {Pr : Int32 → AH → Prop} (hL : Lay H m W s) (hk : Wok W) (hw : w ≤ 75) (hu : u < w) (htm0 : 0 < tm) (htm : tm < W.1) (hrow : H (m + 18 + u) = some (aI 75 gr)) (hgr : ∀ t, t < w → gr t = nI (row t)) (hr : ∀ t, t < w → row t < W.1) (hR : ∀ t, t < w → -20 ≤ R t ∧ R t ≤ 40)
    (kk : ∀ g, (∀ t, t < w → g t = zI (if u ≤ t then rdz W.1 tm R row t else R t)) → VI MX11_isFresh sz Pr (hset H (m + 93) (aI 75 g)) 200 [some (.ref m), some (.int (nI w)), some (.int (nI u)), none, none] []) :
    ∀ (n k : Nat), n = w - k → u ≤ k → k ≤ w → ∀ g, (∀ t, t < w → g t = zI (if u ≤ t ∧ t < k then rdz W.1 tm R row t else R t)) → VI MX11_isFresh sz Pr (hset H (m + 93) (aI 75 g)) 152 [some (.ref m), some (.int (nI w)), some (.int (nI u)), some (.int (nI tm)), some (.int (nI k))] [] := by
  obtain ⟨b1, b2, b3, b4, b5⟩ := hk.b
  intro n
  induction n with
  | zero =>
    intro k e1 e0 e2 g hg
    have e' : k = w := by omega
    subst e'
    refine e_iload (pc := 152) dX11_isFresh_152 rfl ?_
    refine e_iload_n (pc := 154) dX11_isFresh_154 rfl rfl ?_
    refine n_icmp_ge (pc := 155) (tgt := 200) dX11_isFresh_155 (by decide) (by omega) (by omega) (fun hb_ => ?_) (fun c => absurd c (by omega))
    refine V.mask [true, true, true, false, false] ?_
    refine kk g (fun t ht => ?_)
    rw [hg t ht]
    by_cases c : u ≤ t
    · rw [if_pos c, if_pos ⟨c, ht⟩]
    · rw [if_neg c, if_neg (fun q => c q.1)]
  | succ n ih =>
    intro k e1 e0 e2 g hg
    have hM1 : MH (hset H (m + 93) (aI 75 g)) m W.1 W.2.1 (W.1 ^ W.2.1) s := (hset_ne _ _ (by omega)).trans hL.1
    have hG : H (m + 17) = some (aG 75 (fun i => if i < 75 then some (m + 18 + i) else none)) := hL.2.2.2.2.2.1
    obtain ⟨r1, r2⟩ := hR k (by omega)
    have y1 := hr k (by omega)
    have l1 : (W.1 - tm) * row k ≤ 4 * 4 := Nat.mul_le_mul (by omega) (by omega)
    obtain ⟨z1, z2⟩ := zI_rem (p := W.1) (z := R k + ((W.1 - tm) * row k : Nat)) hk.1 (by omega) (by omega)
    have z5 := hg k (by omega)
    rw [if_neg (by omega)] at z5
    have z6 := hgr k (by omega)
    refine e_iload (pc := 152) dX11_isFresh_152 rfl ?_
    refine e_iload_n (pc := 154) dX11_isFresh_154 rfl rfl ?_
    refine n_icmp_ge (pc := 155) (tgt := 200) dX11_isFresh_155 (by decide) (by omega) (by omega) (fun c => absurd c (by omega)) (fun hb_ => ?_)
    refine e_aload_n (pc := 158) dX11_isFresh_158 rfl rfl ?_
    refine e_get (pc := 159) fl_X11_52 dX11_isFresh_159 (by repeat (first | assumption | exact hset_eq _ _ _ | (apply Lay.hd; assumption) | rw [hset_ne _ _ (by omega)])) (by rfl) ?_
    refine e_iload (pc := 162) dX11_isFresh_162 rfl ?_
    refine e_aload_n (pc := 164) dX11_isFresh_164 rfl rfl ?_
    refine e_get (pc := 165) fl_X11_52 dX11_isFresh_165 (by repeat (first | assumption | exact hset_eq _ _ _ | (apply Lay.hd; assumption) | rw [hset_ne _ _ (by omega)])) (by rfl) ?_
    refine e_iload (pc := 168) dX11_isFresh_168 rfl ?_
    refine e_ialdN (pc := 170) k dX11_isFresh_170 (by repeat (first | assumption | exact hset_eq _ _ _ | (apply Lay.hd; assumption) | rw [hset_ne _ _ (by omega)])) (by rfl) (by omega) (by first | decide | omega) ?_
    rw [z5]
    refine e_aload_n (pc := 171) dX11_isFresh_171 rfl rfl ?_
    refine e_get (pc := 172) fl_X11_106 dX11_isFresh_172 (by repeat (first | assumption | exact hset_eq _ _ _ | (apply Lay.hd; assumption) | rw [hset_ne _ _ (by omega)])) (by rfl) ?_
    refine e_iload_n (pc := 175) dX11_isFresh_175 rfl rfl ?_
    refine n_isub (pc := 176) dX11_isFresh_176 (by omega) ?_
    refine e_aload_n (pc := 177) dX11_isFresh_177 rfl rfl ?_
    refine e_get (pc := 178) fl_X11_49 dX11_isFresh_178 (by repeat (first | assumption | exact hset_eq _ _ _ | (apply Lay.hd; assumption) | rw [hset_ne _ _ (by omega)])) (by rfl) ?_
    refine e_iload_n (pc := 181) dX11_isFresh_181 rfl rfl ?_
    refine e_aldGS (pc := 182) u dX11_isFresh_182 (by repeat (first | assumption | exact hset_eq _ _ _ | (apply Lay.hd; assumption) | rw [hset_ne _ _ (by omega)])) (by rfl) (by omega) (by first | decide | omega) (if_pos (show u < 75 by omega)) ?_
    refine e_iload (pc := 183) dX11_isFresh_183 rfl ?_
    refine e_ialdN (pc := 185) k dX11_isFresh_185 (by repeat (first | assumption | exact hset_eq _ _ _ | (apply Lay.hd; assumption) | rw [hset_ne _ _ (by omega)])) (by rfl) (by omega) (by first | decide | omega) ?_
    rw [z6]
    refine n_imul (pc := 186) dX11_isFresh_186 ?_
    refine e_iadd (pc := 187) dX11_isFresh_187 ?_
    rw [zI_add]
    refine e_aload_n (pc := 188) dX11_isFresh_188 rfl rfl ?_
    refine e_get (pc := 189) fl_X11_106 dX11_isFresh_189 (by repeat (first | assumption | exact hset_eq _ _ _ | (apply Lay.hd; assumption) | rw [hset_ne _ _ (by omega)])) (by rfl) ?_
    refine e_irem (pc := 192) dX11_isFresh_192 (nI_ne0 (by omega) (by omega)) ?_
    rw [z1]
    refine e_iastN (pc := 193) k dX11_isFresh_193 (by repeat (first | assumption | exact hset_eq _ _ _ | (apply Lay.hd; assumption) | rw [hset_ne _ _ (by omega)])) (by rfl) (by omega) (by first | decide | omega) ?_
    refine e_heap (hset_hset H (m + 93) _ _) ?_
    refine n_inc (pc := 194) dX11_isFresh_194 rfl (by decide) ?_
    refine e_goto (pc := 197) (tgt := 152) dX11_isFresh_197 (by decide) ?_
    refine ih (k + 1) (by omega) (by omega) (by omega) _ (fun t ht => ?_)
    by_cases e : t = k
    · subst e; rw [pk_us, if_pos (by omega)]; rfl
    · rw [pk_un e, hg t ht]
      by_cases c : u ≤ t ∧ t < k
      · rw [if_pos c, if_pos (by omega)]
      · rw [if_neg c, if_neg (by omega)]
theorem l_fresh {hh : AH} {nx0 : Nat → Nat} (hk : Wok W) (hw : w ≤ 75) (hO : EOk W.1 w led rows) :
    ∀ (n u : Nat), n = w - u → u ≤ w → ∀ h R, EqA hh h m W s w led rows R → (∀ t, t < w → -20 ≤ R t ∧ R t ≤ 40) → (∀ t, t < u → R t = 0) → (∀ x, Sol W.1 w led rows x → (dot w (fun t => md W.1 (R t)) x % W.1 = 0 ↔ dot w nx0 x % W.1 = 0)) →
      VI MX11_isFresh sz (fun z h' => ∃ b led2 rows2 R2, z = bI b ∧ EqA hh h' m W s w led2 rows2 R2 ∧ EOk W.1 w led2 rows2 ∧ rk w led2 = rk w led + (if b = true then 1 else 0) ∧ ∀ x, Sol W.1 w led2 rows2 x ↔ Sol W.1 w led rows x ∧ dot w nx0 x % W.1 = 0) h 2 [some (.ref m), some (.int (nI w)), some (.int (nI u)), none, none] [] := by
  obtain ⟨b1, b2, b3, b4, b5⟩ := hk.b
  have hp0 : 0 < W.1 := by omega
  intro n
  induction n with
  | zero =>
    intro u e1 e2 h R hA hR hz hd
    have e' : u = w := by omega
    subst e'
    refine e_iload_n (pc := 2) dX11_isFresh_2 rfl rfl ?_
    refine e_iload_n (pc := 3) dX11_isFresh_3 rfl rfl ?_
    refine n_icmp_ge (pc := 4) (tgt := 206) dX11_isFresh_4 (by decide) (by omega) (by omega) (fun hb_ => ?_) (fun c => absurd c (by omega))
    refine n_iconst (pc := 206) 0 dX11_isFresh_206 (by decide) ?_
    refine n_zret (pc := 207) dX11_isFresh_207 rfl rfl ⟨false, led, rows, R, rfl, hA, hO, by rw [if_neg (by decide)]; rfl, fun x => ⟨fun q => ⟨q, (hd x q).mp ?_⟩, fun q => q.1⟩⟩
    rw [dot_zero x (fun t ht => by rw [hz t ht, md_0]), Nat.zero_mod]
  | succ n ih =>
    intro u e1 e2 h R hA hR hz hd
    have hu : u < w := by omega
    obtain ⟨hL, he, hE, ⟨g, v1, v2⟩⟩ := id hA
    obtain ⟨r1, r2⟩ := hR u hu
    obtain ⟨z1, z2⟩ := zI_rem (p := W.1) (z := R u) hk.1 (by omega) (by omega)
    obtain ⟨-, -, -, z3, z4⟩ := md_tm (p := W.1) (z := R u) hk.1 (by omega) (by omega)
    have z5 := v2 u hu
    have vl := md_lt hp0 (R u)
    refine e_iload_n (pc := 2) dX11_isFresh_2 rfl rfl ?_
    refine e_iload_n (pc := 3) dX11_isFresh_3 rfl rfl ?_
    refine n_icmp_ge (pc := 4) (tgt := 206) dX11_isFresh_4 (by decide) (by omega) (by omega) (fun c => absurd c (by omega)) (fun hb_ => ?_)
    refine e_aload_n (pc := 7) dX11_isFresh_7 rfl rfl ?_
    refine e_get (pc := 8) fl_X11_52 dX11_isFresh_8 (by repeat (first | assumption | exact hset_eq _ _ _ | (apply Lay.hd; assumption) | rw [hset_ne _ _ (by omega)])) (by rfl) ?_
    refine e_iload_n (pc := 11) dX11_isFresh_11 rfl rfl ?_
    refine e_aload_n (pc := 12) dX11_isFresh_12 rfl rfl ?_
    refine e_get (pc := 13) fl_X11_52 dX11_isFresh_13 (by repeat (first | assumption | exact hset_eq _ _ _ | (apply Lay.hd; assumption) | rw [hset_ne _ _ (by omega)])) (by rfl) ?_
    refine e_iload_n (pc := 16) dX11_isFresh_16 rfl rfl ?_
    refine e_ialdN (pc := 17) u dX11_isFresh_17 (by repeat (first | assumption | exact hset_eq _ _ _ | (apply Lay.hd; assumption) | rw [hset_ne _ _ (by omega)])) (by rfl) (by omega) (by first | decide | omega) ?_
    rw [z5]
    refine e_aload_n (pc := 18) dX11_isFresh_18 rfl rfl ?_
    refine e_get (pc := 19) fl_X11_106 dX11_isFresh_19 (by repeat (first | assumption | exact hset_eq _ _ _ | (apply Lay.hd; assumption) | rw [hset_ne _ _ (by omega)])) (by rfl) ?_
    refine e_irem (pc := 22) dX11_isFresh_22 (nI_ne0 (by omega) (by omega)) ?_
    rw [z1]
    refine e_aload_n (pc := 23) dX11_isFresh_23 rfl rfl ?_
    refine e_get (pc := 24) fl_X11_106 dX11_isFresh_24 (by repeat (first | assumption | exact hset_eq _ _ _ | (apply Lay.hd; assumption) | rw [hset_ne _ _ (by omega)])) (by rfl) ?_
    refine e_iadd (pc := 27) dX11_isFresh_27 ?_
    rw [z2]
    refine e_aload_n (pc := 28) dX11_isFresh_28 rfl rfl ?_
    refine e_get (pc := 29) fl_X11_106 dX11_isFresh_29 (by repeat (first | assumption | exact hset_eq _ _ _ | (apply Lay.hd; assumption) | rw [hset_ne _ _ (by omega)])) (by rfl) ?_
    refine n_irem (pc := 32) dX11_isFresh_32 (by omega) (by omega) (by omega) ?_
    rw [z3]
    refine e_iastN (pc := 33) u dX11_isFresh_33 (by repeat (first | assumption | exact hset_eq _ _ _ | (apply Lay.hd; assumption) | rw [hset_ne _ _ (by omega)])) (by rfl) (by omega) (by first | decide | omega) ?_
    have hA2 : EqA hh (hset h (m + 93) (aI 75 (upd g u (nI (md W.1 (R u)))))) m W s w led rows (fun t => if t = u then ((md W.1 (R u) : Nat) : Int) else R t) := hA.put (fun t ht => by
      by_cases c : t = u
      · rw [c, pk_us, if_pos rfl, zI_nat]
      · rw [pk_un c, if_neg c, v2 t ht])
    have hR2 : ∀ t, t < w → -20 ≤ (fun t => if t = u then ((md W.1 (R u) : Nat) : Int) else R t) t ∧ (fun t => if t = u then ((md W.1 (R u) : Nat) : Int) else R t) t ≤ 40 := fun t ht => by
      show -20 ≤ (if t = u then ((md W.1 (R u) : Nat) : Int) else R t) ∧ (if t = u then ((md W.1 (R u) : Nat) : Int) else R t) ≤ 40
      by_cases c : t = u
      · rw [if_pos c]; omega
      · rw [if_neg c]; exact hR t ht
    have hm2 : ∀ t, md W.1 (if t = u then ((md W.1 (R u) : Nat) : Int) else R t) = md W.1 (R t) := fun t => by
      by_cases c : t = u
      · rw [if_pos c, c, md_nat, Nat.mod_eq_of_lt vl]
      · rw [if_neg c]
    have hu2 : (fun t => if t = u then ((md W.1 (R u) : Nat) : Int) else R t) u = (md W.1 (R u) : Nat) := if_pos rfl
    have hz2 : ∀ t, t < u → (fun t => if t = u then ((md W.1 (R u) : Nat) : Int) else R t) t = 0 := fun t ht => (if_neg (by omega)).trans (hz t ht)
    generalize hset h (m + 93) (aI 75 (upd g u (nI (md W.1 (R u))))) = h1 at hA2 ⊢
    have hd2 : ∀ x, Sol W.1 w led rows x → (dot w (fun t => md W.1 ((fun t => if t = u then ((md W.1 (R u) : Nat) : Int) else R t) t)) x % W.1 = 0 ↔ dot w nx0 x % W.1 = 0) := fun x hx => by
      rw [show (fun t => md W.1 ((fun t => if t = u then ((md W.1 (R u) : Nat) : Int) else R t) t)) = (fun t => md W.1 (R t)) from funext hm2]
      exact hd x hx
    have hm3 : md W.1 ((fun t => if t = u then ((md W.1 (R u) : Nat) : Int) else R t) u) = md W.1 (R u) := hm2 u
    generalize (fun t => if t = u then ((md W.1 (R u) : Nat) : Int) else R t) = R1 at hA2 hR2 hu2 hz2 hd2 hm3
    generalize hv : md W.1 (R u) = v at vl hu2 hm3
    clear hm2
    obtain ⟨hL1, he1, ⟨⟨gz, w1, w2⟩, hr1⟩, ⟨g1, v3, v4⟩⟩ := id hA2
    have z7 : g1 u = nI v := by rw [v4 u hu, hu2, zI_nat]
    refine e_aload_n (pc := 34) dX11_isFresh_34 rfl rfl ?_
    refine e_get (pc := 35) fl_X11_52 dX11_isFresh_35 (by repeat (first | assumption | exact hset_eq _ _ _ | (apply Lay.hd; assumption) | rw [hset_ne _ _ (by omega)])) (by rfl) ?_
    refine e_iload_n (pc := 38) dX11_isFresh_38 rfl rfl ?_
    refine e_ialdN (pc := 39) u dX11_isFresh_39 (by repeat (first | assumption | exact hset_eq _ _ _ | (apply Lay.hd; assumption) | rw [hset_ne _ _ (by omega)])) (by rfl) (by omega) (by first | decide | omega) ?_
    rw [z7]
    refine n_if_ne (pc := 40) (tgt := 46) dX11_isFresh_40 (by decide) (by omega) (fun hv0 => ?_) (fun hv0 => ?_)
    · have z8 := w2 u hu
      refine e_aload_n (pc := 46) dX11_isFresh_46 rfl rfl ?_
      refine e_get (pc := 47) fl_X11_55 dX11_isFresh_47 (by repeat (first | assumption | exact hset_eq _ _ _ | (apply Lay.hd; assumption) | rw [hset_ne _ _ (by omega)])) (by rfl) ?_
      refine e_iload_n (pc := 50) dX11_isFresh_50 rfl rfl ?_
      refine e_zaldN (pc := 51) u dX11_isFresh_51 (by repeat (first | assumption | exact hset_eq _ _ _ | (apply Lay.hd; assumption) | rw [hset_ne _ _ (by omega)])) (by rfl) (by omega) (by first | decide | omega) ?_
      rw [z8]
      refine n_bif_ne (pc := 52) (tgt := 142) dX11_isFresh_52 (by decide) (fun hl => ?_) (fun hl => ?_)
      · obtain ⟨o1, o2, o3⟩ := hO u hu hl
        obtain ⟨gr, x1, x2⟩ := hr1 u (by omega)
        have x2 := x2 hu hl
        refine e_aload_n (pc := 142) dX11_isFresh_142 rfl rfl ?_
        refine e_get (pc := 143) fl_X11_52 dX11_isFresh_143 (by repeat (first | assumption | exact hset_eq _ _ _ | (apply Lay.hd; assumption) | rw [hset_ne _ _ (by omega)])) (by rfl) ?_
        refine e_iload_n (pc := 146) dX11_isFresh_146 rfl rfl ?_
        refine e_ialdN (pc := 147) u dX11_isFresh_147 (by repeat (first | assumption | exact hset_eq _ _ _ | (apply Lay.hd; assumption) | rw [hset_ne _ _ (by omega)])) (by rfl) (by omega) (by first | decide | omega) ?_
        rw [z7]
        refine e_istore_n (pc := 148) dX11_isFresh_148 rfl (by decide) ?_
        refine e_iload_n (pc := 149) dX11_isFresh_149 rfl rfl ?_
        refine e_istore (pc := 150) dX11_isFresh_150 (by decide) ?_
        refine e_heap (hset_self v3).symm ?_
        refine l_fr_k (R := R1) (row := rows u) hL1 hk hw hu (by omega) vl x1 x2 o3 hR2 (fun g2 hg2 => ?_) (w - u) u rfl (Nat.le_refl _) (by omega) g1 (fun t ht => by rw [if_neg (by omega)]; exact v4 t ht)
        refine n_inc (pc := 200) dX11_isFresh_200 rfl (by decide) ?_
        refine e_goto (pc := 203) (tgt := 2) dX11_isFresh_203 (by decide) ?_
        have rz : ∀ t, t < w → md W.1 (if u ≤ t then rdz W.1 v R1 (rows u) t else R1 t) = redv W.1 (fun t => md W.1 (R1 t)) (rows u) u t ∧ -20 ≤ (if u ≤ t then rdz W.1 v R1 (rows u) t else R1 t) ∧ (if u ≤ t then rdz W.1 v R1 (rows u) t else R1 t) ≤ 40 := fun t ht => by
          unfold redv
          obtain ⟨r3, r4⟩ := hR2 t ht
          have y1 := o3 t ht
          have l1 : (W.1 - v) * rows u t ≤ 4 * 4 := Nat.mul_le_mul (by omega) (by omega)
          by_cases c : u ≤ t
          · rw [if_pos c, if_pos c]
            obtain ⟨c1, c2, c3, -, -⟩ := md_tm (p := W.1) (z := R1 t + ((W.1 - v) * rows u t : Nat)) hk.1 (by omega) (by omega)
            refine ⟨?_, by unfold rdz; omega, by unfold rdz; omega⟩
            show md W.1 ((R1 t + ((W.1 - v) * rows u t : Nat)).tmod W.1) = _
            rw [c1, md_add hp0]
            show _ = (md W.1 (R1 t) + (W.1 - md W.1 (R1 u)) * rows u t) % W.1
            rw [hm3]
          · rw [if_neg c, if_neg c]
            exact ⟨rfl, r3, r4⟩
        refine ih (u + 1) (by omega) (by omega) _ _ (hA2.put hg2) (fun t ht => (rz t ht).2) (fun t ht => ?_) (fun x hx => ?_)
        · by_cases c : t = u
          · subst c
            rw [if_pos (Nat.le_refl _)]
            unfold rdz
            rw [o1, Nat.mul_one, hu2, show ((v : Int) + ((W.1 - v : Nat) : Int)) = (W.1 : Int) by omega]
            exact Int.tmod_self
          · rw [if_neg (by omega)]
            exact hz2 t (by omega)
        · rw [dot_mod (b := redv W.1 (fun t => md W.1 (R1 t)) (rows u) u) x (fun t ht => by rw [(rz t ht).1]), redv_dot o2 (hx u hu hl)]
          exact hd2 x hx
      · obtain ⟨b, q1, q2, q3, q4⟩ := by_ex hk.1 (show 0 < v by omega) vl
        obtain ⟨gr, x1, -⟩ := hr1 u (by omega)
        refine n_iconst (pc := 55) 1 dX11_isFresh_55 (by decide) ?_
        refine e_istore_n (pc := 56) dX11_isFresh_56 rfl (by decide) ?_
        refine l_fr_b hL1.1 (by omega) (by omega) v3 z7 vl q2 q3 q4 ?_ (b - 1) 1 rfl (by decide) (by omega)
        refine n_iconst (pc := 80) 0 dX11_isFresh_80 (by decide) ?_
        refine e_istore (pc := 81) dX11_isFresh_81 (by decide) ?_
        refine e_heap (hset_self x1).symm ?_
        refine l_fr_w (R := R1) hL1 hk hw hu q2 v3 v4 hR2 (fun g2 hg2 => ?_) w 0 rfl (Nat.zero_le _) gr (fun t ht => absurd ht (Nat.not_lt_zero t))
        have hL2 : Lay (hset h1 (m + 18 + u) (aI 75 g2)) m W s := by
          rw [Nat.add_assoc]
          exact hL1.r75 (by omega) (by omega)
        refine e_aload_n (pc := 133) dX11_isFresh_133 rfl rfl ?_
        refine e_get (pc := 134) fl_X11_55 dX11_isFresh_134 (by repeat (first | assumption | exact hset_eq _ _ _ | (apply Lay.hd; assumption) | rw [hset_ne _ _ (by omega)])) (by rfl) ?_
        refine e_iload_n (pc := 137) dX11_isFresh_137 rfl rfl ?_
        refine n_iconst (pc := 138) 1 dX11_isFresh_138 (by decide) ?_
        refine e_zastN (pc := 139) u dX11_isFresh_139 (by repeat (first | assumption | exact hset_eq _ _ _ | (apply Lay.hd; assumption) | rw [hset_ne _ _ (by omega)])) (by rfl) (by omega) (by first | decide | omega) ?_
        refine n_iconst (pc := 140) 1 dX11_isFresh_140 (by decide) ?_
        refine n_zret (pc := 141) dX11_isFresh_141 rfl rfl ⟨true, fun t => if t = u then true else led t, fun i => if i = u then (fun t => md W.1 (R1 t) * b % W.1) else rows i, R1, rfl, ⟨hL2.hasR _, (he1.set (by omega)).set (by omega), ⟨⟨_, hset_eq _ _ _, fun i hi => ?_⟩, fun i hi => ?_⟩, g1, (hset_ne _ _ (by omega)).trans ((hset_ne _ _ (by omega)).trans v3), v4⟩, fun i hi hli => ?_, by rw [rk_put hu hl]; rfl, fun x => ?_⟩
        · show upd gz u _ i = bI (if i = u then true else led i)
          by_cases c : i = u
          · subst c; rw [pk_us, if_pos rfl]; rfl
          · rw [pk_un c, if_neg c]; exact w2 i hi
        · by_cases c : i = u
          · subst c
            refine ⟨g2, (hset_ne _ _ (by omega)).trans (hset_eq _ _ _), fun _ _ t ht => ?_⟩
            rw [hg2 t ht]
            dsimp only
            rw [if_pos rfl]
          · obtain ⟨gi, s1, s2⟩ := hr1 i hi
            refine ⟨gi, (hset_ne _ _ (by omega)).trans ((hset_ne _ _ (by omega)).trans s1), fun y1 y2 t ht => ?_⟩
            dsimp only at y2 ⊢
            rw [if_neg c] at y2
            rw [if_neg c]
            exact s2 y1 y2 t ht
        · show (if i = u then (fun t => md W.1 (R1 t) * b % W.1) else rows i) i = 1 ∧ (∀ t, t < i → (if i = u then (fun t => md W.1 (R1 t) * b % W.1) else rows i) t = 0) ∧ ∀ t, t < w → (if i = u then (fun t => md W.1 (R1 t) * b % W.1) else rows i) t < W.1
          by_cases e : i = u
          · subst e
            simp only [if_pos]
            exact ⟨by rw [hm3]; exact q3, fun t ht => by rw [hz2 t ht, md_0, Nat.zero_mul, Nat.zero_mod], fun t _ => Nat.mod_lt _ hp0⟩
          · dsimp only at hli
            rw [if_neg e] at hli
            simp only [if_neg e]
            exact hO i hi hli
        · have key : dot w (fun t => md W.1 (R1 t) * b % W.1) x % W.1 = 0 ↔ dot w (fun t => md W.1 (R1 t)) x % W.1 = 0 := by
            rw [dot_mod (b := fun t => b * md W.1 (R1 t)) x (fun t _ => by rw [Nat.mod_mod, Nat.mul_comm])]
            have : dot w (fun t => b * md W.1 (R1 t)) x = b * dot w (fun t => md W.1 (R1 t)) x := by
              unfold dot
              rw [← sg_mul]
              exact sg_congr (fun t _ => Nat.mul_assoc _ _ _)
            rw [this]
            exact unit_dot hk.1 q1 q2
          constructor
          · intro q
            have y1 : Sol W.1 w led rows x := fun i hi hli => by
              have := q i hi
              by_cases e : i = u
              · subst e; rw [hl] at hli; cases hli
              · simp only [if_neg e] at this
                exact this hli
            have y2 := q u hu (if_pos rfl)
            simp only [if_pos] at y2
            exact ⟨y1, (hd2 x y1).mp (key.mp y2)⟩
          · intro q i hi hli
            by_cases e : i = u
            · subst e
              simp only [if_pos]
              exact key.mpr ((hd2 x q.1).mpr q.2)
            · simp only [if_neg e] at hli ⊢
              exact q.1 i hi hli
    · refine e_goto (pc := 43) (tgt := 200) dX11_isFresh_43 (by decide) ?_
      refine n_inc (pc := 200) dX11_isFresh_200 rfl (by decide) ?_
      refine e_goto (pc := 203) (tgt := 2) dX11_isFresh_203 (by decide) ?_
      refine ih (u + 1) (by omega) (by omega) h1 R1 hA2 hR2 (fun t ht => ?_) hd2
      by_cases c : t = u
      · subst c; rw [hu2, hv0]; rfl
      · exact hz2 t (by omega)
theorem c_X11_isFresh {h : AH} {R : Nat → Int} (hA : EqA h h m W s w led rows R) (hk : Wok W) (hw : w ≤ 75) (hO : EOk W.1 w led rows) (hR : ∀ t, t < w → -20 ≤ R t ∧ R t ≤ 40) : CI yX11_isFresh MX11_isFresh [.ref m, .int (nI w)] h (fun z h' => ∃ b led2 rows2 R2, z = bI b ∧ EqA h h' m W s w led2 rows2 R2 ∧ EOk W.1 w led2 rows2 ∧ rk w led2 = rk w led + (if b = true then 1 else 0) ∧ ∀ x, Sol W.1 w led2 rows2 x ↔ Sol W.1 w led rows x ∧ dot w (fun t => md W.1 (R t)) x % W.1 = 0) := by
  refine CI.ofV (by decide) rfl rfl (by simp [Value.category]) (by exact Nat.le_of_ble_eq_true rfl) (fun sz => ?_)
  refine n_iconst (pc := 0) 0 dX11_isFresh_0 (by decide) ?_
  refine e_istore_n (pc := 1) dX11_isFresh_1 rfl (by decide) ?_
  exact l_fresh hk hw hO w 0 rfl (Nat.zero_le _) h R hA hR (fun t ht => absurd ht (Nat.not_lt_zero t)) (fun x _ => Iff.rfl)
end EQ
