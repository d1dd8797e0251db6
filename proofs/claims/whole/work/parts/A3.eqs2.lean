/-! ===== the reference: how many equations of maps that derive are independent ===== -/
section EQ
variable {m : Nat} {s : Ms} {W : Wd} {w sz s1 s2 : Nat} {hh : AH}
/-- a row of the equations, before its rests are taken -/
def drz (W : Wd) (s1 s2 i j k mm t : Nat) : Int := (if t = W.2.1 * i + mm then (W.2.2 (25 * mm + 5 * j + k) : Int) else 0) + (if t = s1 + W.2.1 * j + mm then (W.2.2 (25 * i + 5 * mm + k) : Int) else 0) - (if t = s2 + W.2.1 * mm + k then (W.2.2 (25 * i + 5 * j + mm) : Int) else 0)
def rowZ (W : Wd) (s1 s2 i j k : Nat) : Nat → Nat → Int
  | 0, _ => 0
  | mm + 1, t => rowZ W s1 s2 i j k mm t + drz W s1 s2 i j k mm t
theorem drz_bd (hk : Wok W) {i j k mm t : Nat} : -4 ≤ drz W s1 s2 i j k mm t ∧ drz W s1 s2 i j k mm t ≤ 8 := by
  obtain ⟨b1, b2, b3, b4, b5⟩ := hk.b
  have y1 := hk.c (25 * mm + 5 * j + k)
  have y2 := hk.c (25 * i + 5 * mm + k)
  have y3 := hk.c (25 * i + 5 * j + mm)
  unfold drz
  by_cases c1 : t = W.2.1 * i + mm <;> by_cases c2 : t = s1 + W.2.1 * j + mm <;> by_cases c3 : t = s2 + W.2.1 * mm + k
  all_goals
    first | rw [if_pos c1] | rw [if_neg c1]
    first | rw [if_pos c2] | rw [if_neg c2]
    first | rw [if_pos c3] | rw [if_neg c3]
    omega
theorem rowZ_bd (hk : Wok W) {i j k t : Nat} : ∀ mm : Nat, -(4 * (mm : Int)) ≤ rowZ W s1 s2 i j k mm t ∧ rowZ W s1 s2 i j k mm t ≤ 8 * (mm : Int)
  | 0 => ⟨by show _ ≤ (0 : Int); omega, by show (0 : Int) ≤ _; omega⟩
  | mm + 1 => by
    obtain ⟨q1, q2⟩ := rowZ_bd hk (i := i) (j := j) (k := k) (t := t) mm
    obtain ⟨q3, q4⟩ := drz_bd (W := W) (s1 := s1) (s2 := s2) hk (i := i) (j := j) (k := k) (mm := mm) (t := t)
    show _ ≤ rowZ W s1 s2 i j k mm t + drz W s1 s2 i j k mm t ∧ rowZ W s1 s2 i j k mm t + drz W s1 s2 i j k mm t ≤ _
    omega
theorem md_step {p : Nat} {x y : Int} {a b : Nat} (h : md p x = a % p) (h2 : md p y = b % p) (hp : 0 < p) : md p (x + y) = (a + b) % p := by
  unfold md at *
  have n1 := Int.emod_nonneg x (show (p : Int) ≠ 0 by omega)
  have n2 := Int.emod_nonneg y (show (p : Int) ≠ 0 by omega)
  have e1 : x % p = ((a % p : Nat) : Int) := by rw [← h]; exact (Int.toNat_of_nonneg n1).symm
  have e2 : y % p = ((b % p : Nat) : Int) := by rw [← h2]; exact (Int.toNat_of_nonneg n2).symm
  have : (x + y) % p = (((a + b) % p : Nat) : Int) := by
    rw [Int.add_emod, e1, e2, ← Int.natCast_add, ← Int.natCast_emod, ← Nat.add_mod]
  rw [this]
  exact Int.toNat_natCast _
theorem md_neg {p c : Nat} (hc : c < p) : md p (-(c : Int)) = (p - c) % p := by
  unfold md
  have : (-(c : Int)) % p = (((p - c) % p : Nat) : Int) := by
    rw [Int.natCast_emod, Int.natCast_sub (by omega)]
    rw [show ((p : Int) - c) = -(c : Int) + p by omega, Int.add_emod_right]
  rw [this]
  exact Int.toNat_natCast _
theorem drz_md (hk : Wok W) {i j k mm t : Nat} : md W.1 (drz W s1 s2 i j k mm t) = der1 W s1 s2 i j k mm t % W.1 := by
  obtain ⟨b1, b2, b3, b4, b5⟩ := hk.b
  have hp : 0 < W.1 := by omega
  have y3 := hk.c (25 * i + 5 * j + mm)
  unfold drz der1
  rw [Int.sub_eq_add_neg]
  refine md_step (md_step ?_ ?_ hp) ?_ hp
  · by_cases c : t = W.2.1 * i + mm
    · rw [if_pos c, if_pos c]; exact md_nat
    · rw [if_neg c, if_neg c, md_0, Nat.zero_mod]
  · by_cases c : t = s1 + W.2.1 * j + mm
    · rw [if_pos c, if_pos c]; exact md_nat
    · rw [if_neg c, if_neg c, md_0, Nat.zero_mod]
  · by_cases c : t = s2 + W.2.1 * mm + k
    · rw [if_pos c, if_pos c]; exact md_neg y3
    · rw [if_neg c, if_neg c, Int.neg_zero, md_0, Nat.zero_mod]
theorem rowZ_md (hk : Wok W) {i j k t : Nat} : ∀ mm, md W.1 (rowZ W s1 s2 i j k mm t) = sg mm (fun b => der1 W s1 s2 i j k b t) % W.1
  | 0 => by
    show md W.1 0 = 0 % W.1
    rw [md_0, Nat.zero_mod]
  | mm + 1 => md_step (rowZ_md hk mm) (drz_md hk) (by have := hk.b; omega)
/-- where the rows stand -/
def DSm (h hh : AH) (m : Nat) (W : Wd) (s : Ms) (w s1 s2 i j k v : Nat) : Prop := ∃ led rows R, EqA hh h m W s w led rows R ∧ EOk W.1 w led rows ∧ v = rk w led ∧ ∀ u, Sol W.1 w led rows u ↔ SolD W w s1 s2 i j k u
theorem DSm.step {h : AH} {i j k v i2 j2 k2 : Nat} (q : DSm h hh m W s w s1 s2 i j k v) (e : ∀ a b c, a < W.2.1 → b < W.2.1 → c < W.2.1 → ((a < i ∨ a = i ∧ (b < j ∨ b = j ∧ c < k)) ↔ (a < i2 ∨ a = i2 ∧ (b < j2 ∨ b = j2 ∧ c < k2)))) : DSm h hh m W s w s1 s2 i2 j2 k2 v := by
  obtain ⟨led, rows, R, a1, a2, a3, a4⟩ := q
  refine ⟨led, rows, R, a1, a2, a3, fun u => (a4 u).trans ?_⟩
  constructor
  · intro q a b c ha hb hc hx
    exact q a b c ha hb hc ((e a b c ha hb hc).mpr hx)
  · intro q a b c ha hb hc hx
    exact q a b c ha hb hc ((e a b c ha hb hc).mp hx)
theorem l_eq_0 {tb : Int32} {Pr : Int32 → AH → Prop} (hw : w ≤ 75)
    (kk : ∀ h, Lay h m W s → Er (m + 18) (m + 95) hh h → (∃ g, h (m + 94) = some (aZ 75 g) ∧ ∀ i, i < w → g i = bI false) → VI MX11_equations sz Pr h 93 [some (.ref m), some (.int tb), some (.int (nI w)), some (.int (nI s1)), some (.int (nI s2)), some (.int (nI 0)), none, none, none, none] []) :
    ∀ (n u : Nat), n = w - u → u ≤ w → ∀ h, Lay h m W s → Er (m + 18) (m + 95) hh h → (∃ g, h (m + 94) = some (aZ 75 g) ∧ ∀ i, i < u → g i = bI false) → VI MX11_equations sz Pr h 73 [some (.ref m), some (.int tb), some (.int (nI w)), some (.int (nI s1)), some (.int (nI s2)), some (.int (nI 0)), some (.int (nI u)), none, none, none] [] := by
  intro n
  induction n with
  | zero =>
    intro u e1 e2 h hL he hg
    have e' : u = w := by omega
    subst e'
    refine e_iload (pc := 73) dX11_equations_73 rfl ?_
    refine e_iload_n (pc := 75) dX11_equations_75 rfl rfl ?_
    refine n_icmp_ge (pc := 76) (tgt := 93) dX11_equations_76 (by decide) (by omega) (by omega) (fun hb_ => ?_) (fun c => absurd c (by omega))
    refine V.mask [true, true, true, true, true, true, false, false, false, false] ?_
    exact kk h hL he hg
  | succ n ih =>
    intro u e1 e2 h hL he hg
    obtain ⟨g, g1, g2⟩ := hg
    refine e_iload (pc := 73) dX11_equations_73 rfl ?_
    refine e_iload_n (pc := 75) dX11_equations_75 rfl rfl ?_
    refine n_icmp_ge (pc := 76) (tgt := 93) dX11_equations_76 (by decide) (by omega) (by omega) (fun c => absurd c (by omega)) (fun hb_ => ?_)
    refine e_aload_n (pc := 79) dX11_equations_79 rfl rfl ?_
    refine e_get (pc := 80) fl_X11_55 dX11_equations_80 (by repeat (first | assumption | exact hset_eq _ _ _ | (apply Lay.hd; assumption) | rw [hset_ne _ _ (by omega)])) (by rfl) ?_
    refine e_iload (pc := 83) dX11_equations_83 rfl ?_
    refine n_iconst (pc := 85) 0 dX11_equations_85 (by decide) ?_
    refine e_zastN (pc := 86) u dX11_equations_86 (by repeat (first | assumption | exact hset_eq _ _ _ | (apply Lay.hd; assumption) | rw [hset_ne _ _ (by omega)])) (by rfl) (by omega) (by first | decide | omega) ?_
    refine n_inc (pc := 87) dX11_equations_87 rfl (by decide) ?_
    refine e_goto (pc := 90) (tgt := 73) dX11_equations_90 (by decide) ?_
    refine ih (u + 1) (by omega) (by omega) _ (hL.hasR _) (he.set (by omega)) ⟨_, hset_eq _ _ _, fun i hi => ?_⟩
    by_cases c : i = u
    · subst c; rw [pk_us]; rfl
    · rw [pk_un c]; exact g2 i (by omega)
theorem l_eq_r {tb : Int32} {i j k v : Nat} {led : Nat → Bool} {rows : Nat → Nat → Nat} {Pr : Int32 → AH → Prop} (hw : w ≤ 75)
    (kk : ∀ h, EqA hh h m W s w led rows (fun _ => 0) → VI MX11_equations sz Pr h 152 [some (.ref m), some (.int tb), some (.int (nI w)), some (.int (nI s1)), some (.int (nI s2)), some (.int (nI v)), some (.int (nI i)), some (.int (nI j)), some (.int (nI k)), none] []) :
    ∀ (n u : Nat), n = w - u → u ≤ w → ∀ h R, EqA hh h m W s w led rows R → (∀ t, t < u → R t = 0) → VI MX11_equations sz Pr h 132 [some (.ref m), some (.int tb), some (.int (nI w)), some (.int (nI s1)), some (.int (nI s2)), some (.int (nI v)), some (.int (nI i)), some (.int (nI j)), some (.int (nI k)), some (.int (nI u))] [] := by
  intro n
  induction n with
  | zero =>
    intro u e1 e2 h R hA hz
    have e' : u = w := by omega
    subst e'
    refine e_iload (pc := 132) dX11_equations_132 rfl ?_
    refine e_iload_n (pc := 134) dX11_equations_134 rfl rfl ?_
    refine n_icmp_ge (pc := 135) (tgt := 152) dX11_equations_135 (by decide) (by omega) (by omega) (fun hb_ => ?_) (fun c => absurd c (by omega))
    refine V.mask [true, true, true, true, true, true, true, true, true, false] ?_
    obtain ⟨a1, a2, a3, g, a4, a5⟩ := hA
    exact kk h ⟨a1, a2, a3, g, a4, fun t ht => by rw [a5 t ht, hz t ht]⟩
  | succ n ih =>
    intro u e1 e2 h R hA hz
    obtain ⟨hL, he, hE, ⟨g, v1, v2⟩⟩ := id hA
    refine e_iload (pc := 132) dX11_equations_132 rfl ?_
    refine e_iload_n (pc := 134) dX11_equations_134 rfl rfl ?_
    refine n_icmp_ge (pc := 135) (tgt := 152) dX11_equations_135 (by decide) (by omega) (by omega) (fun c => absurd c (by omega)) (fun hb_ => ?_)
    refine e_aload_n (pc := 138) dX11_equations_138 rfl rfl ?_
    refine e_get (pc := 139) fl_X11_52 dX11_equations_139 (by repeat (first | assumption | exact hset_eq _ _ _ | (apply Lay.hd; assumption) | rw [hset_ne _ _ (by omega)])) (by rfl) ?_
    refine e_iload (pc := 142) dX11_equations_142 rfl ?_
    refine n_iconst (pc := 144) 0 dX11_equations_144 (by decide) ?_
    refine e_iastN (pc := 145) u dX11_equations_145 (by repeat (first | assumption | exact hset_eq _ _ _ | (apply Lay.hd; assumption) | rw [hset_ne _ _ (by omega)])) (by rfl) (by omega) (by first | decide | omega) ?_
    refine n_inc (pc := 146) dX11_equations_146 rfl (by decide) ?_
    refine e_goto (pc := 149) (tgt := 132) dX11_equations_149 (by decide) ?_
    refine ih (u + 1) (by omega) (by omega) _ (fun t => if t = u then 0 else R t) (hA.put (fun t ht => ?_)) (fun t ht => ?_)
    · by_cases c : t = u
      · subst c; rw [pk_us, if_pos rfl]; rfl
      · rw [pk_un c, if_neg c]; exact v2 t ht
    · by_cases c : t = u
      · exact if_pos c
      · exact (if_neg c).trans (hz t (by omega))
theorem l_eq_m {tb : Int32} {i j k v : Nat} {led : Nat → Bool} {rows : Nat → Nat → Nat} {Pr : Int32 → AH → Prop} (hk : Wok W) (hwd : w ≤ 75) (hw1 : W.2.1 * W.2.1 ≤ w) (hw2 : s1 + W.2.1 * W.2.1 ≤ w) (hw3 : s2 + W.2.1 * W.2.1 ≤ w) (hi : i < W.2.1) (hj : j < W.2.1) (hkk : k < W.2.1)
    (kk : ∀ h, EqA hh h m W s w led rows (rowZ W s1 s2 i j k W.2.1) → VI MX11_equations sz Pr h 283 [some (.ref m), some (.int tb), some (.int (nI w)), some (.int (nI s1)), some (.int (nI s2)), some (.int (nI v)), some (.int (nI i)), some (.int (nI j)), some (.int (nI k)), none] []) :
    ∀ (n mm : Nat), n = W.2.1 - mm → mm ≤ W.2.1 → ∀ h, EqA hh h m W s w led rows (rowZ W s1 s2 i j k mm) → VI MX11_equations sz Pr h 155 [some (.ref m), some (.int tb), some (.int (nI w)), some (.int (nI s1)), some (.int (nI s2)), some (.int (nI v)), some (.int (nI i)), some (.int (nI j)), some (.int (nI k)), some (.int (nI mm))] [] := by
  obtain ⟨b1, b2, b3, b4, b5⟩ := hk.b
  have m1 : ∀ x, x < W.2.1 → W.2.1 * x + W.2.1 ≤ W.2.1 * W.2.1 := fun x hx => by
    have := Nat.mul_le_mul_left W.2.1 (show x + 1 ≤ W.2.1 by omega)
    rw [Nat.mul_add, Nat.mul_one] at this
    exact this
  intro n
  induction n with
  | zero =>
    intro mm e1 e2 h hA
    obtain ⟨hL, -⟩ := id hA
    have e' : mm = W.2.1 := by omega
    subst e'
    refine e_iload (pc := 155) dX11_equations_155 rfl ?_
    refine e_aload_n (pc := 157) dX11_equations_157 rfl rfl ?_
    refine e_get (pc := 158) fl_X11_109 dX11_equations_158 (by repeat (first | assumption | exact hset_eq _ _ _ | (apply Lay.hd; assumption) | rw [hset_ne _ _ (by omega)])) (by rfl) ?_
    refine n_icmp_ge (pc := 161) (tgt := 283) dX11_equations_161 (by decide) (by omega) (by omega) (fun hb_ => ?_) (fun c => absurd c (by omega))
    refine V.mask [true, true, true, true, true, true, true, true, true, false] ?_
    exact kk h hA
  | succ n ih =>
    intro mm e1 e2 h hA
    have x1 := m1 i hi
    have x2 := m1 j hj
    have x3 := m1 mm (by omega)
    obtain ⟨hL, he, hE, ⟨g, v1, v2⟩⟩ := id hA
    obtain ⟨gc, c1, c2⟩ := hL.2.1
    have u1 := v2 (W.2.1 * i + mm) (by omega)
    have d1 := c2 (25 * mm + 5 * j + k) (by omega)
    refine e_iload (pc := 155) dX11_equations_155 rfl ?_
    refine e_aload_n (pc := 157) dX11_equations_157 rfl rfl ?_
    refine e_get (pc := 158) fl_X11_109 dX11_equations_158 (by repeat (first | assumption | exact hset_eq _ _ _ | (apply Lay.hd; assumption) | rw [hset_ne _ _ (by omega)])) (by rfl) ?_
    refine n_icmp_ge (pc := 161) (tgt := 283) dX11_equations_161 (by decide) (by omega) (by omega) (fun c => absurd c (by omega)) (fun hb_ => ?_)
    refine e_aload_n (pc := 164) dX11_equations_164 rfl rfl ?_
    refine e_get (pc := 165) fl_X11_52 dX11_equations_165 (by repeat (first | assumption | exact hset_eq _ _ _ | (apply Lay.hd; assumption) | rw [hset_ne _ _ (by omega)])) (by rfl) ?_
    refine e_aload_n (pc := 168) dX11_equations_168 rfl rfl ?_
    refine e_get (pc := 169) fl_X11_109 dX11_equations_169 (by repeat (first | assumption | exact hset_eq _ _ _ | (apply Lay.hd; assumption) | rw [hset_ne _ _ (by omega)])) (by rfl) ?_
    refine e_iload (pc := 172) dX11_equations_172 rfl ?_
    refine n_imul (pc := 174) dX11_equations_174 ?_
    refine e_iload (pc := 175) dX11_equations_175 rfl ?_
    refine n_iadd (pc := 177) dX11_equations_177 ?_
    refine e_dup2 (pc := 178) dX11_equations_178 rfl rfl ?_
    refine e_ialdN (pc := 179) (W.2.1 * i + mm) dX11_equations_179 (by repeat (first | assumption | exact hset_eq _ _ _ | (apply Lay.hd; assumption) | rw [hset_ne _ _ (by omega)])) (by rfl) (by omega) (by first | decide | omega) ?_
    rw [u1]
    refine e_aload_n (pc := 180) dX11_equations_180 rfl rfl ?_
    refine e_get (pc := 181) fl_X11_16 dX11_equations_181 (by repeat (first | assumption | exact hset_eq _ _ _ | (apply Lay.hd; assumption) | rw [hset_ne _ _ (by omega)])) (by rfl) ?_
    refine n_bipush (pc := 184) 25 dX11_equations_184 (by decide) ?_
    refine e_iload (pc := 186) dX11_equations_186 rfl ?_
    refine n_imul (pc := 188) dX11_equations_188 ?_
    refine n_iconst (pc := 189) 5 dX11_equations_189 (by decide) ?_
    refine e_iload (pc := 190) dX11_equations_190 rfl ?_
    refine n_imul (pc := 192) dX11_equations_192 ?_
    refine n_iadd (pc := 193) dX11_equations_193 ?_
    refine e_iload (pc := 194) dX11_equations_194 rfl ?_
    refine n_iadd (pc := 196) dX11_equations_196 ?_
    refine e_ialdN (pc := 197) (25 * mm + 5 * j + k) dX11_equations_197 (by repeat (first | assumption | exact hset_eq _ _ _ | (apply Lay.hd; assumption) | rw [hset_ne _ _ (by omega)])) (by rfl) (by omega) (by first | decide | omega) ?_
    rw [d1]
    refine e_iadd (pc := 198) dX11_equations_198 ?_
    rw [zI_add]
    refine e_iastN (pc := 199) (W.2.1 * i + mm) dX11_equations_199 (by repeat (first | assumption | exact hset_eq _ _ _ | (apply Lay.hd; assumption) | rw [hset_ne _ _ (by omega)])) (by rfl) (by omega) (by first | decide | omega) ?_
    have hA1 : EqA hh (hset h (m + 93) (aI 75 (upd g (W.2.1 * i + mm) (zI (rowZ W s1 s2 i j k mm (W.2.1 * i + mm) + (W.2.2 (25 * mm + 5 * j + k) : Nat)))))) m W s w led rows (fun t => rowZ W s1 s2 i j k mm t + (if t = W.2.1 * i + mm then (W.2.2 (25 * mm + 5 * j + k) : Int) else 0)) := hA.put (fun t ht => by
      by_cases c : t = W.2.1 * i + mm
      · rw [c, pk_us, if_pos rfl]
      · rw [pk_un c, if_neg c, v2 t ht, Int.add_zero])
    generalize hset h (m + 93) (aI 75 (upd g (W.2.1 * i + mm) (zI (rowZ W s1 s2 i j k mm (W.2.1 * i + mm) + (W.2.2 (25 * mm + 5 * j + k) : Nat))))) = h1 at hA1 ⊢
    clear hA hL he hE v1 v2 u1 c1 c2 d1
    obtain ⟨hL, he, hE, ⟨g, v1, v2⟩⟩ := id hA1
    obtain ⟨gc, c1, c2⟩ := hL.2.1
    have u1 := v2 (s1 + W.2.1 * j + mm) (by omega)
    have d1 := c2 (25 * i + 5 * mm + k) (by omega)
    refine e_aload_n (pc := 200) dX11_equations_200 rfl rfl ?_
    refine e_get (pc := 201) fl_X11_52 dX11_equations_201 (by repeat (first | assumption | exact hset_eq _ _ _ | (apply Lay.hd; assumption) | rw [hset_ne _ _ (by omega)])) (by rfl) ?_
    refine e_iload_n (pc := 204) dX11_equations_204 rfl rfl ?_
    refine e_aload_n (pc := 205) dX11_equations_205 rfl rfl ?_
    refine e_get (pc := 206) fl_X11_109 dX11_equations_206 (by repeat (first | assumption | exact hset_eq _ _ _ | (apply Lay.hd; assumption) | rw [hset_ne _ _ (by omega)])) (by rfl) ?_
    refine e_iload (pc := 209) dX11_equations_209 rfl ?_
    refine n_imul (pc := 211) dX11_equations_211 ?_
    refine n_iadd (pc := 212) dX11_equations_212 ?_
    refine e_iload (pc := 213) dX11_equations_213 rfl ?_
    refine n_iadd (pc := 215) dX11_equations_215 ?_
    refine e_dup2 (pc := 216) dX11_equations_216 rfl rfl ?_
    refine e_ialdN (pc := 217) (s1 + W.2.1 * j + mm) dX11_equations_217 (by repeat (first | assumption | exact hset_eq _ _ _ | (apply Lay.hd; assumption) | rw [hset_ne _ _ (by omega)])) (by rfl) (by omega) (by first | decide | omega) ?_
    rw [u1]
    refine e_aload_n (pc := 218) dX11_equations_218 rfl rfl ?_
    refine e_get (pc := 219) fl_X11_16 dX11_equations_219 (by repeat (first | assumption | exact hset_eq _ _ _ | (apply Lay.hd; assumption) | rw [hset_ne _ _ (by omega)])) (by rfl) ?_
    refine n_bipush (pc := 222) 25 dX11_equations_222 (by decide) ?_
    refine e_iload (pc := 224) dX11_equations_224 rfl ?_
    refine n_imul (pc := 226) dX11_equations_226 ?_
    refine n_iconst (pc := 227) 5 dX11_equations_227 (by decide) ?_
    refine e_iload (pc := 228) dX11_equations_228 rfl ?_
    refine n_imul (pc := 230) dX11_equations_230 ?_
    refine n_iadd (pc := 231) dX11_equations_231 ?_
    refine e_iload (pc := 232) dX11_equations_232 rfl ?_
    refine n_iadd (pc := 234) dX11_equations_234 ?_
    refine e_ialdN (pc := 235) (25 * i + 5 * mm + k) dX11_equations_235 (by repeat (first | assumption | exact hset_eq _ _ _ | (apply Lay.hd; assumption) | rw [hset_ne _ _ (by omega)])) (by rfl) (by omega) (by first | decide | omega) ?_
    rw [d1]
    refine e_iadd (pc := 236) dX11_equations_236 ?_
    rw [zI_add]
    refine e_iastN (pc := 237) (s1 + W.2.1 * j + mm) dX11_equations_237 (by repeat (first | assumption | exact hset_eq _ _ _ | (apply Lay.hd; assumption) | rw [hset_ne _ _ (by omega)])) (by rfl) (by omega) (by first | decide | omega) ?_
    have hA2 : EqA hh (hset h1 (m + 93) (aI 75 (upd g (s1 + W.2.1 * j + mm) (zI ((rowZ W s1 s2 i j k mm (s1 + W.2.1 * j + mm) + (if s1 + W.2.1 * j + mm = W.2.1 * i + mm then (W.2.2 (25 * mm + 5 * j + k) : Int) else 0)) + (W.2.2 (25 * i + 5 * mm + k) : Nat)))))) m W s w led rows (fun t => rowZ W s1 s2 i j k mm t + (if t = W.2.1 * i + mm then (W.2.2 (25 * mm + 5 * j + k) : Int) else 0) + (if t = s1 + W.2.1 * j + mm then (W.2.2 (25 * i + 5 * mm + k) : Int) else 0)) := hA1.put (fun t ht => by
      by_cases c : t = s1 + W.2.1 * j + mm
      · rw [c, pk_us, if_pos (show s1 + W.2.1 * j + mm = s1 + W.2.1 * j + mm from rfl)]
      · rw [pk_un c, if_neg c, v2 t ht, Int.add_zero])
    generalize hset h1 (m + 93) _ = h2 at hA2 ⊢
    clear hA1 hL he hE v1 v2 u1 c1 c2 d1
    obtain ⟨hL, he, hE, ⟨g, v1, v2⟩⟩ := id hA2
    obtain ⟨gc, c1, c2⟩ := hL.2.1
    have u1 := v2 (s2 + W.2.1 * mm + k) (by omega)
    have d1 := c2 (25 * i + 5 * j + mm) (by omega)
    refine e_aload_n (pc := 238) dX11_equations_238 rfl rfl ?_
    refine e_get (pc := 239) fl_X11_52 dX11_equations_239 (by repeat (first | assumption | exact hset_eq _ _ _ | (apply Lay.hd; assumption) | rw [hset_ne _ _ (by omega)])) (by rfl) ?_
    refine e_iload (pc := 242) dX11_equations_242 rfl ?_
    refine e_aload_n (pc := 244) dX11_equations_244 rfl rfl ?_
    refine e_get (pc := 245) fl_X11_109 dX11_equations_245 (by repeat (first | assumption | exact hset_eq _ _ _ | (apply Lay.hd; assumption) | rw [hset_ne _ _ (by omega)])) (by rfl) ?_
    refine e_iload (pc := 248) dX11_equations_248 rfl ?_
    refine n_imul (pc := 250) dX11_equations_250 ?_
    refine n_iadd (pc := 251) dX11_equations_251 ?_
    refine e_iload (pc := 252) dX11_equations_252 rfl ?_
    refine n_iadd (pc := 254) dX11_equations_254 ?_
    refine e_dup2 (pc := 255) dX11_equations_255 rfl rfl ?_
    refine e_ialdN (pc := 256) (s2 + W.2.1 * mm + k) dX11_equations_256 (by repeat (first | assumption | exact hset_eq _ _ _ | (apply Lay.hd; assumption) | rw [hset_ne _ _ (by omega)])) (by rfl) (by omega) (by first | decide | omega) ?_
    rw [u1]
    dsimp only at v2
    refine e_aload_n (pc := 257) dX11_equations_257 rfl rfl ?_
    refine e_get (pc := 258) fl_X11_16 dX11_equations_258 (by repeat (first | assumption | exact hset_eq _ _ _ | (apply Lay.hd; assumption) | rw [hset_ne _ _ (by omega)])) (by rfl) ?_
    refine n_bipush (pc := 261) 25 dX11_equations_261 (by decide) ?_
    refine e_iload (pc := 263) dX11_equations_263 rfl ?_
    refine n_imul (pc := 265) dX11_equations_265 ?_
    refine n_iconst (pc := 266) 5 dX11_equations_266 (by decide) ?_
    refine e_iload (pc := 267) dX11_equations_267 rfl ?_
    refine n_imul (pc := 269) dX11_equations_269 ?_
    refine n_iadd (pc := 270) dX11_equations_270 ?_
    refine e_iload (pc := 271) dX11_equations_271 rfl ?_
    refine n_iadd (pc := 273) dX11_equations_273 ?_
    refine e_ialdN (pc := 274) (25 * i + 5 * j + mm) dX11_equations_274 (by repeat (first | assumption | exact hset_eq _ _ _ | (apply Lay.hd; assumption) | rw [hset_ne _ _ (by omega)])) (by rfl) (by omega) (by first | decide | omega) ?_
    rw [d1]
    refine e_isub (pc := 275) dX11_equations_275 ?_
    rw [zI_sub]
    refine e_iastN (pc := 276) (s2 + W.2.1 * mm + k) dX11_equations_276 (by repeat (first | assumption | exact hset_eq _ _ _ | (apply Lay.hd; assumption) | rw [hset_ne _ _ (by omega)])) (by rfl) (by omega) (by first | decide | omega) ?_
    refine n_inc (pc := 277) dX11_equations_277 rfl (by decide) ?_
    refine e_goto (pc := 280) (tgt := 155) dX11_equations_280 (by decide) ?_
    refine ih (mm + 1) (by omega) (by omega) _ (hA2.put (fun t ht => ?_))
    show _ = zI (rowZ W s1 s2 i j k mm t + drz W s1 s2 i j k mm t)
    unfold drz
    by_cases c : t = s2 + W.2.1 * mm + k
    · rw [c, pk_us, if_pos (show s2 + W.2.1 * mm + k = s2 + W.2.1 * mm + k from rfl)]
      refine congrArg zI ?_
      dsimp only
      generalize (if s2 + W.2.1 * mm + k = W.2.1 * i + mm then (W.2.2 (25 * mm + 5 * j + k) : Int) else 0) = A1
      generalize (if s2 + W.2.1 * mm + k = s1 + W.2.1 * j + mm then (W.2.2 (25 * i + 5 * mm + k) : Int) else 0) = A2
      omega
    · rw [pk_un c, if_neg c, v2 t ht, Int.sub_zero, Int.add_assoc]
theorem l_eq_k {tb : Int32} {i j : Nat} {Pr : Int32 → AH → Prop} (hk : Wok W) (hwd : w ≤ 75) (hw1 : W.2.1 * W.2.1 ≤ w) (hw2 : s1 + W.2.1 * W.2.1 ≤ w) (hw3 : s2 + W.2.1 * W.2.1 ≤ w) (hi : i < W.2.1) (hj : j < W.2.1)
    (kk : ∀ h v, DSm h hh m W s w s1 s2 i (j + 1) 0 v → VI MX11_equations sz Pr h 307 [some (.ref m), some (.int tb), some (.int (nI w)), some (.int (nI s1)), some (.int (nI s2)), some (.int (nI v)), some (.int (nI i)), some (.int (nI j)), none, none] []) :
    ∀ (n k : Nat), n = W.2.1 - k → k ≤ W.2.1 → ∀ h v, DSm h hh m W s w s1 s2 i j k v → VI MX11_equations sz Pr h 120 [some (.ref m), some (.int tb), some (.int (nI w)), some (.int (nI s1)), some (.int (nI s2)), some (.int (nI v)), some (.int (nI i)), some (.int (nI j)), some (.int (nI k)), none] [] := by
  obtain ⟨b1, b2, b3, b4, b5⟩ := hk.b
  intro n
  induction n with
  | zero =>
    intro k e1 e2 h v hD
    obtain ⟨led, rows, R, ⟨hL, -⟩, -⟩ := id hD
    have e : k = W.2.1 := by omega
    subst e
    refine e_iload (pc := 120) dX11_equations_120 rfl ?_
    refine e_aload_n (pc := 122) dX11_equations_122 rfl rfl ?_
    refine e_get (pc := 123) fl_X11_109 dX11_equations_123 (by repeat (first | assumption | exact hset_eq _ _ _ | (apply Lay.hd; assumption) | rw [hset_ne _ _ (by omega)])) (by rfl) ?_
    refine n_icmp_ge (pc := 126) (tgt := 307) dX11_equations_126 (by decide) (by omega) (by omega) (fun hb_ => ?_) (fun c => absurd c (by omega))
    refine V.mask [true, true, true, true, true, true, true, true, false, false] ?_
    exact kk h v (hD.step (fun a b c ha hb hc => by omega))
  | succ n ih =>
    intro k e1 e2 h v hD
    obtain ⟨led, rows, R, hA, hO, rfl, a4⟩ := hD
    have rl := rk_le w led
    obtain ⟨hL, -⟩ := id hA
    refine e_iload (pc := 120) dX11_equations_120 rfl ?_
    refine e_aload_n (pc := 122) dX11_equations_122 rfl rfl ?_
    refine e_get (pc := 123) fl_X11_109 dX11_equations_123 (by repeat (first | assumption | exact hset_eq _ _ _ | (apply Lay.hd; assumption) | rw [hset_ne _ _ (by omega)])) (by rfl) ?_
    refine n_icmp_ge (pc := 126) (tgt := 307) dX11_equations_126 (by decide) (by omega) (by omega) (fun c => absurd c (by omega)) (fun hb_ => ?_)
    refine n_iconst (pc := 129) 0 dX11_equations_129 (by decide) ?_
    refine e_istore (pc := 130) dX11_equations_130 (by decide) ?_
    refine l_eq_r (led := led) (rows := rows) hwd (fun h1 hA1 => ?_) w 0 rfl (Nat.zero_le _) h R hA (fun t ht => absurd ht (Nat.not_lt_zero t))
    refine n_iconst (pc := 152) 0 dX11_equations_152 (by decide) ?_
    refine e_istore (pc := 153) dX11_equations_153 (by decide) ?_
    refine l_eq_m (led := led) (rows := rows) hk hwd hw1 hw2 hw3 hi hj (show k < W.2.1 by omega) (fun h2 hA2 => ?_) W.2.1 0 rfl (Nat.zero_le _) h1 hA1
    obtain ⟨hL2, he2, hE2, hV2⟩ := id hA2
    have hA3 : EqA h2 h2 m W s w led rows (rowZ W s1 s2 i j k W.2.1) := ⟨hL2, Er.rf _ _ _, hE2, hV2⟩
    refine e_iload (pc := 283) dX11_equations_283 rfl ?_
    refine e_aload_n (pc := 285) dX11_equations_285 rfl rfl ?_
    refine e_iload_n (pc := 286) dX11_equations_286 rfl rfl ?_
    refine n_V (pc := 287) (c_X11_isFresh hA3 hk hwd hO (fun t ht => by have := rowZ_bd (W := W) (s1 := s1) (s2 := s2) hk (i := i) (j := j) (k := k) (t := t) W.2.1; omega)) bX11_isFresh q_i_X11_isFresh q_s_X11_isFresh q_m_X11_272 dX11_equations_287 rfl rfl (by repeat (first | assumption | exact hset_eq _ _ _ | (apply Lay.hd; assumption) | rw [hset_ne _ _ (by omega)])) rfl rfl (by exact Nat.le_of_ble_eq_true rfl) ⟨by decide, by decide⟩ ⟨rfl, rfl, Nat.zero_le _, Nat.zero_le _⟩ (fun z h3 hp => ?_)
    obtain ⟨b, led2, rows2, R2, rfl, ⟨p1, p2, p3, p4⟩, q1, q2, q3⟩ := hp
    have fin : DSm h3 hh m W s w s1 s2 i j (k + 1) (rk w led2) := ⟨led2, rows2, R2, ⟨p1, he2.tr p2, p3, p4⟩, q1, rfl, fun u => by
      rw [q3 u, a4 u, dot_mod (b := der W s1 s2 i j k) u (fun t _ => by rw [rowZ_md hk]; exact Nat.mod_mod _ _)]
      constructor
      · intro ⟨y1, y2⟩ a b c ha hb hc hx
        by_cases e : a = i ∧ b = j ∧ c = k
        · obtain ⟨rfl, rfl, rfl⟩ := e; exact y2
        · exact y1 a b c ha hb hc (by omega)
      · intro y
        exact ⟨fun a b c ha hb hc hx => y a b c ha hb hc (by omega), y i j k hi hj (by omega) (by omega)⟩⟩
    refine n_bif_eq (pc := 290) (tgt := 297) dX11_equations_290 (by decide) (fun cb => ?_) (fun cb => ?_)
    · subst cb
      rw [if_neg (by decide)] at q2
      rw [q2] at fin
      refine n_iconst (pc := 297) 0 dX11_equations_297 (by decide) ?_
      refine n_iadd (pc := 298) dX11_equations_298 ?_
      refine e_istore (pc := 299) dX11_equations_299 (by decide) ?_
      refine n_inc (pc := 301) dX11_equations_301 rfl (by decide) ?_
      refine e_goto (pc := 304) (tgt := 120) dX11_equations_304 (by decide) ?_
      exact ih (k + 1) (by omega) (by omega) h3 _ fin
    · subst cb
      rw [if_pos rfl] at q2
      rw [q2] at fin
      refine n_iconst (pc := 293) 1 dX11_equations_293 (by decide) ?_
      refine e_goto (pc := 294) (tgt := 298) dX11_equations_294 (by decide) ?_
      refine n_iadd (pc := 298) dX11_equations_298 ?_
      refine e_istore (pc := 299) dX11_equations_299 (by decide) ?_
      refine n_inc (pc := 301) dX11_equations_301 rfl (by decide) ?_
      refine e_goto (pc := 304) (tgt := 120) dX11_equations_304 (by decide) ?_
      exact ih (k + 1) (by omega) (by omega) h3 _ fin
theorem l_eq_j {tb : Int32} {i : Nat} {Pr : Int32 → AH → Prop} (hk : Wok W) (hwd : w ≤ 75) (hw1 : W.2.1 * W.2.1 ≤ w) (hw2 : s1 + W.2.1 * W.2.1 ≤ w) (hw3 : s2 + W.2.1 * W.2.1 ≤ w) (hi : i < W.2.1)
    (kk : ∀ h v, DSm h hh m W s w s1 s2 (i + 1) 0 0 v → VI MX11_equations sz Pr h 313 [some (.ref m), some (.int tb), some (.int (nI w)), some (.int (nI s1)), some (.int (nI s2)), some (.int (nI v)), some (.int (nI i)), none, none, none] []) :
    ∀ (n j : Nat), n = W.2.1 - j → j ≤ W.2.1 → ∀ h v, DSm h hh m W s w s1 s2 i j 0 v → VI MX11_equations sz Pr h 108 [some (.ref m), some (.int tb), some (.int (nI w)), some (.int (nI s1)), some (.int (nI s2)), some (.int (nI v)), some (.int (nI i)), some (.int (nI j)), none, none] [] := by
  obtain ⟨b1, b2, b3, b4, b5⟩ := hk.b
  intro n
  induction n with
  | zero =>
    intro j e1 e2 h v hD
    obtain ⟨led, rows, R, ⟨hL, -⟩, -⟩ := id hD
    have e : j = W.2.1 := by omega
    subst e
    refine e_iload (pc := 108) dX11_equations_108 rfl ?_
    refine e_aload_n (pc := 110) dX11_equations_110 rfl rfl ?_
    refine e_get (pc := 111) fl_X11_109 dX11_equations_111 (by repeat (first | assumption | exact hset_eq _ _ _ | (apply Lay.hd; assumption) | rw [hset_ne _ _ (by omega)])) (by rfl) ?_
    refine n_icmp_ge (pc := 114) (tgt := 313) dX11_equations_114 (by decide) (by omega) (by omega) (fun hb_ => ?_) (fun c => absurd c (by omega))
    refine V.mask [true, true, true, true, true, true, true, false, false, false] ?_
    exact kk h v (hD.step (fun a b c ha hb hc => by omega))
  | succ n ih =>
    intro j e1 e2 h v hD
    obtain ⟨led, rows, R, ⟨hL, -⟩, -⟩ := id hD
    refine e_iload (pc := 108) dX11_equations_108 rfl ?_
    refine e_aload_n (pc := 110) dX11_equations_110 rfl rfl ?_
    refine e_get (pc := 111) fl_X11_109 dX11_equations_111 (by repeat (first | assumption | exact hset_eq _ _ _ | (apply Lay.hd; assumption) | rw [hset_ne _ _ (by omega)])) (by rfl) ?_
    refine n_icmp_ge (pc := 114) (tgt := 313) dX11_equations_114 (by decide) (by omega) (by omega) (fun c => absurd c (by omega)) (fun hb_ => ?_)
    refine n_iconst (pc := 117) 0 dX11_equations_117 (by decide) ?_
    refine e_istore (pc := 118) dX11_equations_118 (by decide) ?_
    refine l_eq_k hk hwd hw1 hw2 hw3 hi (show j < W.2.1 by omega) (fun h3 v3 hD3 => ?_) W.2.1 0 rfl (by omega) h v hD
    refine n_inc (pc := 307) dX11_equations_307 rfl (by decide) ?_
    refine e_goto (pc := 310) (tgt := 108) dX11_equations_310 (by decide) ?_
    exact ih (j + 1) (by omega) (by omega) h3 v3 hD3
theorem l_eq_i {tb : Int32} {Pr : Int32 → AH → Prop} (hk : Wok W) (hwd : w ≤ 75) (hw1 : W.2.1 * W.2.1 ≤ w) (hw2 : s1 + W.2.1 * W.2.1 ≤ w) (hw3 : s2 + W.2.1 * W.2.1 ≤ w)
    (kk : ∀ h v, DSm h hh m W s w s1 s2 W.2.1 0 0 v → Pr (nI v) h) :
    ∀ (n i : Nat), n = W.2.1 - i → i ≤ W.2.1 → ∀ h v, DSm h hh m W s w s1 s2 i 0 0 v → VI MX11_equations sz Pr h 96 [some (.ref m), some (.int tb), some (.int (nI w)), some (.int (nI s1)), some (.int (nI s2)), some (.int (nI v)), some (.int (nI i)), none, none, none] [] := by
  obtain ⟨b1, b2, b3, b4, b5⟩ := hk.b
  intro n
  induction n with
  | zero =>
    intro i e1 e2 h v hD
    obtain ⟨led, rows, R, ⟨hL, -⟩, -⟩ := id hD
    have e : i = W.2.1 := by omega
    subst e
    refine e_iload (pc := 96) dX11_equations_96 rfl ?_
    refine e_aload_n (pc := 98) dX11_equations_98 rfl rfl ?_
    refine e_get (pc := 99) fl_X11_109 dX11_equations_99 (by repeat (first | assumption | exact hset_eq _ _ _ | (apply Lay.hd; assumption) | rw [hset_ne _ _ (by omega)])) (by rfl) ?_
    refine n_icmp_ge (pc := 102) (tgt := 319) dX11_equations_102 (by decide) (by omega) (by omega) (fun hb_ => ?_) (fun c => absurd c (by omega))
    refine e_iload (pc := 319) dX11_equations_319 rfl ?_
    exact n_iret (pc := 321) dX11_equations_321 rfl (kk h v hD)
  | succ n ih =>
    intro i e1 e2 h v hD
    obtain ⟨led, rows, R, ⟨hL, -⟩, -⟩ := id hD
    refine e_iload (pc := 96) dX11_equations_96 rfl ?_
    refine e_aload_n (pc := 98) dX11_equations_98 rfl rfl ?_
    refine e_get (pc := 99) fl_X11_109 dX11_equations_99 (by repeat (first | assumption | exact hset_eq _ _ _ | (apply Lay.hd; assumption) | rw [hset_ne _ _ (by omega)])) (by rfl) ?_
    refine n_icmp_ge (pc := 102) (tgt := 319) dX11_equations_102 (by decide) (by omega) (by omega) (fun c => absurd c (by omega)) (fun hb_ => ?_)
    refine n_iconst (pc := 105) 0 dX11_equations_105 (by decide) ?_
    refine e_istore (pc := 106) dX11_equations_106 (by decide) ?_
    refine l_eq_j hk hwd hw1 hw2 hw3 (show i < W.2.1 by omega) (fun h3 v3 hD3 => ?_) W.2.1 0 rfl (by omega) h v hD
    refine n_inc (pc := 313) dX11_equations_313 rfl (by decide) ?_
    refine e_goto (pc := 316) (tgt := 96) dX11_equations_316 (by decide) ?_
    exact ih (i + 1) (by omega) (by omega) h3 v3 hD3
theorem l_eq {h : AH} {tb : Int32} (hL : Lay h m W s) (hk : Wok W) (hwd : w ≤ 75) (hw1 : W.2.1 * W.2.1 ≤ w) (hw2 : s1 + W.2.1 * W.2.1 ≤ w) (hw3 : s2 + W.2.1 * W.2.1 ≤ w) : VI MX11_equations sz (fun z h' => z = nI (rkD W w s1 s2) ∧ rkD W w s1 s2 ≤ w ∧ Lay h' m W s ∧ FmB m h h') h 67 [some (.ref m), some (.int tb), some (.int (nI w)), some (.int (nI s1)), some (.int (nI s2)), none, none, none, none, none] [] := by
  obtain ⟨b1, b2, b3, b4, b5⟩ := hk.b
  obtain ⟨g0, g1⟩ := hL.2.2.2.1
  refine n_iconst (pc := 67) 0 dX11_equations_67 (by decide) ?_
  refine e_istore (pc := 68) dX11_equations_68 (by decide) ?_
  refine n_iconst (pc := 70) 0 dX11_equations_70 (by decide) ?_
  refine e_istore (pc := 71) dX11_equations_71 (by decide) ?_
  refine l_eq_0 (hh := h) hwd (fun h1 l1 e1 z1 => ?_) w 0 rfl (Nat.zero_le _) h hL (Er.rf _ _ _) ⟨g0, g1, fun i hi => absurd hi (Nat.not_lt_zero i)⟩
  refine n_iconst (pc := 93) 0 dX11_equations_93 (by decide) ?_
  refine e_istore (pc := 94) dX11_equations_94 (by decide) ?_
  obtain ⟨g93, r93⟩ := l1.2.2.row (k := 93) (isR_r (by omega) (by omega))
  have r93 : h1 (m + 93) = some (aI 75 g93) := r93
  obtain ⟨R0, hR0⟩ : ∃ R0 : Nat → Int, ∀ t, g93 t = zI (R0 t) := ⟨fun t => (g93 t).toInt, fun t => (Int32.ofInt_toInt _).symm⟩
  refine l_eq_i (hh := h) hk hwd hw1 hw2 hw3 (fun h2 v hD => ?_) W.2.1 0 rfl (Nat.zero_le _) h1 0 ⟨fun _ => false, fun _ _ => 0, R0, ⟨l1, e1, ⟨z1, fun i hi => ?_⟩, g93, r93, fun t _ => hR0 t⟩, EOk_0 _ _, (rk_0 _).symm, fun u => ⟨fun _ a b c ha hb hc hx => absurd hx (by omega), fun _ => Sol_0 _ _ u⟩⟩
  · obtain ⟨led, rows, R, ⟨p1, p2, p3, p4⟩, p5, p6, p7⟩ := hD
    have hr : v = rkD W w s1 s2 := rkf_eq hk.1 ⟨led, rows, p5, p6, fun u => (p7 u).trans ⟨fun q a b c ha hb hc => q a b c ha hb hc (Or.inl ha), fun q a b c ha hb hc _ => q a b c ha hb hc⟩⟩
    rw [← hr]
    exact ⟨rfl, by rw [p6]; exact rk_le _ _, p1, fun b hb => p2 b (by omega)⟩
  · obtain ⟨gi, ri⟩ := l1.2.2.row (k := 18 + i) (isR_r (by omega) (by omega))
    rw [← szM_r (by omega) (by omega), ← Nat.add_assoc] at ri
    exact ⟨gi, ri, fun _ q => by cases q⟩
/-- the sizes of the two kinds of equations -/
def eqW (n : Nat) (b : Bool) : Nat := if b = true then 3 * (n * n) else n * n
def eqA (n : Nat) (b : Bool) : Nat := if b = true then n * n else 0
def eqB (n : Nat) (b : Bool) : Nat := if b = true then 2 * (n * n) else 0
theorem c_X11_equations {h : AH} {b : Bool} (hL : Lay h m W s) (hk : Wok W) : CI yX11_equations MX11_equations [.ref m, .int (bI b)] h (fun z h' => z = nI (rkD W (eqW W.2.1 b) (eqA W.2.1 b) (eqB W.2.1 b)) ∧ rkD W (eqW W.2.1 b) (eqA W.2.1 b) (eqB W.2.1 b) ≤ eqW W.2.1 b ∧ Lay h' m W s ∧ FmB m h h') := by
  obtain ⟨b1, b2, b3, b4, b5⟩ := hk.b
  have n2 : W.2.1 * W.2.1 ≤ 5 * 5 := Nat.mul_le_mul b4 b4
  refine CI.ofV (by decide) rfl rfl (by simp [Value.category]) (by exact Nat.le_of_ble_eq_true rfl) (fun sz => ?_)
  cases b with
  | false =>
    refine e_iload_n (pc := 0) dX11_equations_0 rfl rfl ?_
    refine e_if_eq (pc := 1) (tgt := 18) dX11_equations_1 (by decide) (fun _ => ?_) (fun q => absurd rfl q)
    refine e_aload_n (pc := 18) dX11_equations_18 rfl rfl ?_
    refine e_get (pc := 19) fl_X11_109 dX11_equations_19 (by repeat (first | assumption | exact hset_eq _ _ _ | (apply Lay.hd; assumption) | rw [hset_ne _ _ (by omega)])) (by rfl) ?_
    refine e_aload_n (pc := 22) dX11_equations_22 rfl rfl ?_
    refine e_get (pc := 23) fl_X11_109 dX11_equations_23 (by repeat (first | assumption | exact hset_eq _ _ _ | (apply Lay.hd; assumption) | rw [hset_ne _ _ (by omega)])) (by rfl) ?_
    refine n_imul (pc := 26) dX11_equations_26 ?_
    refine e_istore_n (pc := 27) dX11_equations_27 rfl (by decide) ?_
    refine e_iload_n (pc := 28) dX11_equations_28 rfl rfl ?_
    refine e_if_eq (pc := 29) (tgt := 44) dX11_equations_29 (by decide) (fun _ => ?_) (fun q => absurd rfl q)
    refine n_iconst (pc := 44) 0 dX11_equations_44 (by decide) ?_
    refine e_istore_n (pc := 45) dX11_equations_45 rfl (by decide) ?_
    refine e_iload_n (pc := 46) dX11_equations_46 rfl rfl ?_
    refine e_if_eq (pc := 47) (tgt := 64) dX11_equations_47 (by decide) (fun _ => ?_) (fun q => absurd rfl q)
    refine n_iconst (pc := 64) 0 dX11_equations_64 (by decide) ?_
    refine e_istore (pc := 65) dX11_equations_65 (by decide) ?_
    exact l_eq hL hk (by show W.2.1 * W.2.1 ≤ 75; omega) (Nat.le_refl _) (by show 0 + W.2.1 * W.2.1 ≤ W.2.1 * W.2.1; omega) (by show 0 + W.2.1 * W.2.1 ≤ W.2.1 * W.2.1; omega)
  | true =>
    refine e_iload_n (pc := 0) dX11_equations_0 rfl rfl ?_
    refine e_if_eq (pc := 1) (tgt := 18) dX11_equations_1 (by decide) (fun q => absurd q (by decide)) (fun _ => ?_)
    refine n_iconst (pc := 4) 3 dX11_equations_4 (by decide) ?_
    refine e_aload_n (pc := 5) dX11_equations_5 rfl rfl ?_
    refine e_get (pc := 6) fl_X11_109 dX11_equations_6 (by repeat (first | assumption | exact hset_eq _ _ _ | (apply Lay.hd; assumption) | rw [hset_ne _ _ (by omega)])) (by rfl) ?_
    refine n_imul (pc := 9) dX11_equations_9 ?_
    refine e_aload_n (pc := 10) dX11_equations_10 rfl rfl ?_
    refine e_get (pc := 11) fl_X11_109 dX11_equations_11 (by repeat (first | assumption | exact hset_eq _ _ _ | (apply Lay.hd; assumption) | rw [hset_ne _ _ (by omega)])) (by rfl) ?_
    refine n_imul (pc := 14) dX11_equations_14 ?_
    refine e_goto (pc := 15) (tgt := 27) dX11_equations_15 (by decide) ?_
    rw [show 3 * W.2.1 * W.2.1 = 3 * (W.2.1 * W.2.1) from Nat.mul_assoc _ _ _]
    refine e_istore_n (pc := 27) dX11_equations_27 rfl (by decide) ?_
    refine e_iload_n (pc := 28) dX11_equations_28 rfl rfl ?_
    refine e_if_eq (pc := 29) (tgt := 44) dX11_equations_29 (by decide) (fun q => absurd q (by decide)) (fun _ => ?_)
    refine e_aload_n (pc := 32) dX11_equations_32 rfl rfl ?_
    refine e_get (pc := 33) fl_X11_109 dX11_equations_33 (by repeat (first | assumption | exact hset_eq _ _ _ | (apply Lay.hd; assumption) | rw [hset_ne _ _ (by omega)])) (by rfl) ?_
    refine e_aload_n (pc := 36) dX11_equations_36 rfl rfl ?_
    refine e_get (pc := 37) fl_X11_109 dX11_equations_37 (by repeat (first | assumption | exact hset_eq _ _ _ | (apply Lay.hd; assumption) | rw [hset_ne _ _ (by omega)])) (by rfl) ?_
    refine n_imul (pc := 40) dX11_equations_40 ?_
    refine e_goto (pc := 41) (tgt := 45) dX11_equations_41 (by decide) ?_
    refine e_istore_n (pc := 45) dX11_equations_45 rfl (by decide) ?_
    refine e_iload_n (pc := 46) dX11_equations_46 rfl rfl ?_
    refine e_if_eq (pc := 47) (tgt := 64) dX11_equations_47 (by decide) (fun q => absurd q (by decide)) (fun _ => ?_)
    refine n_iconst (pc := 50) 2 dX11_equations_50 (by decide) ?_
    refine e_aload_n (pc := 51) dX11_equations_51 rfl rfl ?_
    refine e_get (pc := 52) fl_X11_109 dX11_equations_52 (by repeat (first | assumption | exact hset_eq _ _ _ | (apply Lay.hd; assumption) | rw [hset_ne _ _ (by omega)])) (by rfl) ?_
    refine n_imul (pc := 55) dX11_equations_55 ?_
    refine e_aload_n (pc := 56) dX11_equations_56 rfl rfl ?_
    refine e_get (pc := 57) fl_X11_109 dX11_equations_57 (by repeat (first | assumption | exact hset_eq _ _ _ | (apply Lay.hd; assumption) | rw [hset_ne _ _ (by omega)])) (by rfl) ?_
    refine n_imul (pc := 60) dX11_equations_60 ?_
    refine e_goto (pc := 61) (tgt := 65) dX11_equations_61 (by decide) ?_
    rw [show 2 * W.2.1 * W.2.1 = 2 * (W.2.1 * W.2.1) from Nat.mul_assoc _ _ _]
    refine e_istore (pc := 65) dX11_equations_65 (by decide) ?_
    exact l_eq hL hk (by show 3 * (W.2.1 * W.2.1) ≤ 75; omega) (by show W.2.1 * W.2.1 ≤ 3 * (W.2.1 * W.2.1); omega) (by show W.2.1 * W.2.1 + W.2.1 * W.2.1 ≤ 3 * (W.2.1 * W.2.1); omega) (by show 2 * (W.2.1 * W.2.1) + W.2.1 * W.2.1 ≤ 3 * (W.2.1 * W.2.1); omega)
end EQ
