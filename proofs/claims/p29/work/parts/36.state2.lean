/-! ===== State: acts, told worlds, copies ===== -/
def Sx.setWho (x : Sx) (d w : Nat) : Sx := (x.1, fun a => if a = d then w else x.2.1 a, x.2.2)
def Sx.setD (x : Sx) (d u : Nat) : Sx := (x.1, x.2.1, x.2.2.1, d, u)
def sw (i j k : Nat) : Nat := if k = i then j else if k = j then i else k
def Sx.swp (x : Sx) (i j : Nat) : Sx := (fun k => x.1 (sw i j k), x.2)
def rot (k : Nat) : Nat := if k < 6 then k else if k < 25 then k + 1 else 6
def Sx.drop (x : Sx) : Sx := (fun k => x.1 (rot k), fun a => if a < 19 then x.2.1 (a + 1) else x.2.1 a, x.2.2.1, 19, x.2.2.2.2)
def Sx.act (x : Sx) (w : Nat) (W : Wd) : Sx := (fun t => if t = w then W else if t = 6 + x.dn then x.1 w else x.1 t, fun a => if a = x.dn then w else x.2.1 a, x.2.2.1, x.dn + 1, 0)
def Sx.tellW (x : Sx) (w : Nat) (W : Wd) : Sx := if x.dn = 20 then x.drop.act w W else x.act w W
def Sx.back (x : Sx) : Sx := (x.setD (x.dn - 1) (x.un + 1)).swp (x.who (x.dn - 1)) (6 + (x.dn - 1))
def Sx.forth (x : Sx) : Sx := (x.swp (x.who x.dn) (6 + x.dn)).setD (x.dn + 1) (x.un - 1)
section SA
variable {h : AH} {S : Nat} {σ : Nat → Nat} {x : Sx}
theorem StA.congr {y : Sx} (q : StA h S σ x) (h1 : ∀ k, k < 26 → x.ws k = y.ws k) (h2 : ∀ a, a < 20 → x.who a = y.who a) (h3 : ∀ t, t < 15 → x.im t = y.im t) (h4 : x.dn = y.dn) (h5 : x.un = y.un) : StA h S σ y := by
  obtain ⟨⟨a1, a2, a3, ⟨g4, a4, a4'⟩, g5, a5, a5'⟩, p, ok, w⟩ := q
  refine ⟨⟨by rw [← h4, ← h5]; exact a1, a2, a3, ⟨g4, a4, fun a ha => by rw [← h2 a ha]; exact a4' a ha⟩, g5, a5, fun t ht => by rw [← h3 t ht]; exact a5' t ht⟩, p, ⟨fun k hk => by rw [← h1 k hk]; exact ok.1 k hk, fun a ha => by rw [← h2 a ha]; exact ok.2.1 a ha, fun t ht => by rw [← h3 t ht]; exact ok.2.2.1 t ht, by rw [← h4, ← h5]; exact ok.2.2.2⟩, fun k hk => by rw [← h1 k hk]; exact w k hk⟩
theorem StA.wset {a : Nat} {c : AE} (q : StA h S σ x) (ha : a < S + 5 ∨ S + 83 ≤ a) : ∀ k, k < 26 → ∃ f, WAt (hset h a c) (wa S σ k) (x.ws k) f ∧ fOk (x.ws k) f := fun k hk => by
  obtain ⟨f, w1, w2⟩ := q.w hk
  have bd := q.bd hk
  exact ⟨f, w1.hs (by omega), w2⟩
theorem StA.setWho {d w : Nat} {g : Nat → Int32} (q : StA h S σ x) (hg : h (S + 3) = some (aI 20 g)) (hw : w < 6) : StA (hset h (S + 3) (aI 20 (upd g d (nI w)))) S σ (x.setWho d w) := by
  have q0 := q
  obtain ⟨⟨a1, ⟨f2, a2, a2'⟩, ⟨f3, a3, a3'⟩, ⟨g4, a4, a4'⟩, g5, a5, a5'⟩, p, ok, ww⟩ := q
  have e := a4.symm.trans hg
  obtain rfl : g4 = g := by injection e with e; injection e with e; injection e with e e2; injection e2 with e2 e3; injection e3
  refine ⟨⟨by rw [hset_ne _ _ (by omega)]; exact a1, ⟨f2, by rw [hset_ne _ _ (by omega)]; exact a2, a2'⟩, ⟨f3, by rw [hset_ne _ _ (by omega)]; exact a3, a3'⟩, ⟨_, hset_eq _ _ _, fun a ha => ?_⟩, g5, by rw [hset_ne _ _ (by omega)]; exact a5, a5'⟩, p, ⟨ok.1, fun a ha => ?_, ok.2.2⟩, q0.wset (Or.inl (by omega))⟩
  · show _ = nI (if a = d then w else x.2.1 a)
    by_cases c : a = d
    · subst c; rw [pk_us, if_pos rfl]
    · rw [pk_un c, if_neg c]; exact a4' a ha
  · show (if a = d then w else x.2.1 a) < 6
    by_cases c : a = d
    · rw [if_pos c]; exact hw
    · rw [if_neg c]; exact ok.2.1 a ha
theorem StA.setD {d u : Nat} (q : StA h S σ x) (hu : d + u ≤ 20) : StA (hset h S (ob 6 [.ref (S + 1), .ref (S + 2), .ref (S + 3), .ref (S + 4), .int (nI d), .int (nI u)])) S σ (x.setD d u) := by
  have q0 := q
  obtain ⟨⟨a1, ⟨f2, a2, a2'⟩, ⟨f3, a3, a3'⟩, ⟨g4, a4, a4'⟩, g5, a5, a5'⟩, p, ok, ww⟩ := q
  exact ⟨⟨hset_eq _ _ _, ⟨f2, by rw [hset_ne _ _ (by omega)]; exact a2, a2'⟩, ⟨f3, by rw [hset_ne _ _ (by omega)]; exact a3, a3'⟩, ⟨g4, by rw [hset_ne _ _ (by omega)]; exact a4, a4'⟩, g5, by rw [hset_ne _ _ (by omega)]; exact a5, a5'⟩, p, ⟨ok.1, ok.2.1, ok.2.2.1, hu⟩, q0.wset (Or.inl (by omega))⟩
theorem sw_inv (i j k : Nat) : sw i j (sw i j k) = k := by
  unfold sw
  by_cases c : k = i
  · subst c; rw [if_pos rfl]; by_cases c2 : j = k
    · rw [if_pos c2]; exact c2
    · rw [if_neg c2, if_pos rfl]
  · rw [if_neg c]
    by_cases c2 : k = j
    · rw [if_pos c2, if_pos rfl]; exact c2.symm
    · rw [if_neg c2, if_neg c, if_neg c2]
theorem sw_lt {i j k n : Nat} (hi : i < n) (hj : j < n) (hk : k < n) : sw i j k < n := by
  unfold sw
  split
  · exact hj
  · split
    · exact hi
    · exact hk
theorem rot_lt {k : Nat} (hk : k < 26) : rot k < 26 := by unfold rot; split <;> (try split) <;> omega
theorem rot_inj {k l : Nat} (hk : k < 26) (hl : l < 26) (e : rot k = rot l) : k = l := by
  unfold rot at e
  by_cases c1 : k < 6 <;> by_cases c2 : l < 6 <;> by_cases c3 : k < 25 <;> by_cases c4 : l < 25 <;> simp only [c1, c2, c3, c4, if_true, if_false] at e <;> omega
theorem Perm26.comp {ρ : Nat → Nat} (p : Perm26 σ) (h1 : ∀ k, k < 26 → ρ k < 26) (h2 : ∀ k l, k < 26 → l < 26 → ρ k = ρ l → k = l) : Perm26 (fun k => σ (ρ k)) :=
  ⟨fun k hk => p.1 _ (h1 k hk), fun k l hk hl e => h2 k l hk hl (p.2 _ _ (h1 k hk) (h1 l hl) e)⟩
theorem l_drop {sz : Nat} {f0 : Nat → Option Nat} {g0 : Nat → Int32} (hS : StA h S σ x) (hx : x.dn = 20) (h0 : ∀ a, a < 20 → f0 a = some (wa S σ (6 + a))) (h0' : ∀ a, a < 20 → g0 a = nI (x.who a)) (h2 : h (S + 2) = some (aQ 20 f0)) :
    ∀ (n t : Nat), n = 20 - t → 1 ≤ t → t ≤ 20 → ∀ h1 f g, (∀ a, a ≠ S + 2 → a ≠ S + 3 → h1 a = h a) → h1 (S + 2) = some (aQ 20 f) → h1 (S + 3) = some (aI 20 g) → (∀ a, a < 20 → f a = if a + 1 < t then f0 (a + 1) else f0 a) → (∀ a, a < 20 → g a = if a + 1 < t then g0 (a + 1) else g0 a) →
      VV MX6_dropOldest sz (fun h' => StA h' S (fun k => σ (rot k)) x.drop ∧ Er S (S + 83) h h') h1 9 [some (.ref S), some (.ref (wa S σ 6)), some (.int (nI t))] [] := by
  intro n
  induction n with
  | zero =>
    intro t e1 e2 e3 h1 f g he hf hg hf2 hg2
    have e' : t = 20 := by omega
    subst e'
    have q0 := hS
    obtain ⟨⟨a1, ⟨f2, a2, a2'⟩, -, -, g5, a5, a5'⟩, p, ok, ww⟩ := hS
    obtain ⟨fa, ⟨wa1, -⟩, -⟩ := q0.w (show 6 < 26 by omega)
    have bd1 := q0.bd (show 6 < 26 by omega)
    have b1 := (he S (by omega) (by omega)).trans a1
    have b2 := (he (wa S σ 6) (by omega) (by omega)).trans wa1
    refine e_iload_n (pc := 9) dX6_dropOldest_9 rfl rfl ?_
    refine n_bipush (pc := 10) 20 dX6_dropOldest_10 (by decide) ?_
    refine n_icmp_ge (pc := 12) (tgt := 49) dX6_dropOldest_12 (by decide) (by omega) (by omega) (fun hb_ => ?_) (fun c => absurd c (by omega))
    refine e_aload_n (pc := 49) dX6_dropOldest_49 rfl rfl ?_
    refine e_get (pc := 50) fl_X6_17 dX6_dropOldest_50 (by repeat (first | assumption | exact hset_eq _ _ _ | rw [hset_ne _ _ (by omega)])) (by rfl) ?_
    refine n_bipush (pc := 53) 19 dX6_dropOldest_53 (by decide) ?_
    refine e_aload_n (pc := 55) dX6_dropOldest_55 rfl rfl ?_
    refine e_aastQ (pc := 56) _ dX6_dropOldest_56 (by repeat (first | assumption | exact hset_eq _ _ _ | rw [hset_ne _ _ (by omega)])) (by repeat (first | assumption | exact hset_eq _ _ _ | rw [hset_ne _ _ (by omega)])) (by rfl) (by omega) (by first | decide | omega) ?_
    refine e_aload_n (pc := 57) dX6_dropOldest_57 rfl rfl ?_
    refine n_bipush (pc := 58) 19 dX6_dropOldest_58 (by decide) ?_
    refine e_put (pc := 60) pl_X6_27 dX6_dropOldest_60 (by repeat (first | assumption | exact hset_eq _ _ _ | rw [hset_ne _ _ (by omega)])) (by rfl) (by rfl) (by exact Nat.le_of_ble_eq_true rfl) ?_
    refine n_vret (pc := 63) dX6_dropOldest_63 rfl ⟨⟨⟨?_, ⟨f2, ?_, fun k hk => ?_⟩, ⟨_, (hset_ne _ _ (by omega)).trans (hset_eq _ _ _), fun a ha => ?_⟩, ⟨g, ?_, fun a ha => ?_⟩, g5, ?_, a5'⟩, p.comp (fun k hk => rot_lt hk) (fun k l hk hl e => rot_inj hk hl e), ⟨fun k hk => ok.1 _ (rot_lt hk), fun a ha => ?_, ok.2.2.1, ?_⟩, fun k hk => ?_⟩, ?_⟩
    · rw [hset_eq]; rfl
    · rw [hset_ne _ _ (by omega), hset_ne _ _ (by omega), he _ (by omega) (by omega)]; exact a2
    · rw [a2' k hk]; show some (S + 5 + 3 * σ k) = some (S + 5 + 3 * σ (rot k)); unfold rot; rw [if_pos hk]
    · show va_up f 19 (some (wa S σ 6)) a = some (S + 5 + 3 * σ (rot (6 + a)))
      by_cases c : a = 19
      · subst c; rw [va_up_self]; rfl
      · rw [va_up_ne _ _ c, hf2 a ha, if_pos (by omega), h0 _ (by omega)]
        unfold rot
        rw [if_neg (by omega), if_pos (by omega)]
        rfl
    · rw [hset_ne _ _ (by omega), hset_ne _ _ (by omega)]; exact hg
    · show g a = nI (if a < 19 then x.2.1 (a + 1) else x.2.1 a)
      rw [hg2 a ha]
      by_cases c : a < 19
      · rw [if_pos c, if_pos (by omega), h0' _ (by omega)]
      · rw [if_neg c, if_neg (by omega), h0' _ ha]
    · rw [hset_ne _ _ (by omega), hset_ne _ _ (by omega), he _ (by omega) (by omega)]; exact a5
    · show (if a < 19 then x.2.1 (a + 1) else x.2.1 a) < 6
      by_cases c : a < 19
      · rw [if_pos c]; exact ok.2.1 _ (by omega)
      · rw [if_neg c]; exact ok.2.1 _ ha
    · have := ok.2.2.2
      show 19 + x.un ≤ 20
      omega
    · obtain ⟨f', w1, w2⟩ := ww _ (rot_lt hk)
      have bd := q0.bd (rot_lt hk)
      have w3 : WAt h1 (wa S σ (rot k)) (x.ws (rot k)) f' := by
        obtain ⟨c1, c2, gg, c3⟩ := w1
        exact ⟨by rw [he _ (by omega) (by omega)]; exact c1, by rw [he _ (by omega) (by omega)]; exact c2, gg, by rw [he _ (by omega) (by omega)]; exact c3⟩
      exact ⟨f', (w3.hs (by omega)).hs (by omega), w2⟩
    · intro a ha
      rw [hset_ne _ _ (by omega), hset_ne _ _ (by omega)]
      exact he a (by omega) (by omega)
  | succ n ih =>
    intro t e1 e2 e3 h1 f g he hf hg hf2 hg2
    have q0 := hS
    obtain ⟨⟨a1, -⟩, -⟩ := hS
    have ht : t < 20 := by omega
    obtain ⟨fa, ⟨wa1, -⟩, -⟩ := q0.w (show 6 + t < 26 by omega)
    have bd1 := q0.bd (show 6 + t < 26 by omega)
    have b1 := (he S (by omega) (by omega)).trans a1
    have b2 := (he (wa S σ (6 + t)) (by omega) (by omega)).trans wa1
    have b3 : f t = some (wa S σ (6 + t)) := by rw [hf2 t ht, if_neg (by omega)]; exact h0 t ht
    have b4 : g t = g0 t := by rw [hg2 t ht, if_neg (by omega)]
    refine e_iload_n (pc := 9) dX6_dropOldest_9 rfl rfl ?_
    refine n_bipush (pc := 10) 20 dX6_dropOldest_10 (by decide) ?_
    refine n_icmp_ge (pc := 12) (tgt := 49) dX6_dropOldest_12 (by decide) (by omega) (by omega) (fun c => absurd c (by omega)) (fun hb_ => ?_)
    refine e_aload_n (pc := 15) dX6_dropOldest_15 rfl rfl ?_
    refine e_get (pc := 16) fl_X6_17 dX6_dropOldest_16 (by repeat (first | assumption | exact hset_eq _ _ _ | rw [hset_ne _ _ (by omega)])) (by rfl) ?_
    refine e_iload_n (pc := 19) dX6_dropOldest_19 rfl rfl ?_
    refine n_iconst (pc := 20) 1 dX6_dropOldest_20 (by decide) ?_
    refine n_isub (pc := 21) dX6_dropOldest_21 (by omega) ?_
    refine e_aload_n (pc := 22) dX6_dropOldest_22 rfl rfl ?_
    refine e_get (pc := 23) fl_X6_17 dX6_dropOldest_23 (by repeat (first | assumption | exact hset_eq _ _ _ | rw [hset_ne _ _ (by omega)])) (by rfl) ?_
    refine e_iload_n (pc := 26) dX6_dropOldest_26 rfl rfl ?_
    refine e_aldQS (pc := 27) _ dX6_dropOldest_27 (by repeat (first | assumption | exact hset_eq _ _ _ | rw [hset_ne _ _ (by omega)])) (by rfl) (by omega) (by first | decide | omega) (by assumption) ?_
    refine e_aastQ (pc := 28) _ dX6_dropOldest_28 (by repeat (first | assumption | exact hset_eq _ _ _ | rw [hset_ne _ _ (by omega)])) (by repeat (first | assumption | exact hset_eq _ _ _ | rw [hset_ne _ _ (by omega)])) (by rfl) (by omega) (by first | decide | omega) ?_
    refine e_aload_n (pc := 29) dX6_dropOldest_29 rfl rfl ?_
    refine e_get (pc := 30) fl_X6_20 dX6_dropOldest_30 (by repeat (first | assumption | exact hset_eq _ _ _ | rw [hset_ne _ _ (by omega)])) (by rfl) ?_
    refine e_iload_n (pc := 33) dX6_dropOldest_33 rfl rfl ?_
    refine n_iconst (pc := 34) 1 dX6_dropOldest_34 (by decide) ?_
    refine n_isub (pc := 35) dX6_dropOldest_35 (by omega) ?_
    refine e_aload_n (pc := 36) dX6_dropOldest_36 rfl rfl ?_
    refine e_get (pc := 37) fl_X6_20 dX6_dropOldest_37 (by repeat (first | assumption | exact hset_eq _ _ _ | rw [hset_ne _ _ (by omega)])) (by rfl) ?_
    refine e_iload_n (pc := 40) dX6_dropOldest_40 rfl rfl ?_
    refine e_ialdN (pc := 41) _ dX6_dropOldest_41 (by repeat (first | assumption | exact hset_eq _ _ _ | rw [hset_ne _ _ (by omega)])) (by rfl) (by omega) (by first | decide | omega) ?_
    rw [b4]
    refine e_iastN (pc := 42) _ dX6_dropOldest_42 (by repeat (first | assumption | exact hset_eq _ _ _ | rw [hset_ne _ _ (by omega)])) (by rfl) (by omega) (by first | decide | omega) ?_
    refine n_inc (pc := 43) dX6_dropOldest_43 rfl (by decide) ?_
    refine e_goto (pc := 46) (tgt := 9) dX6_dropOldest_46 (by decide) ?_
    refine ih (t + 1) (by omega) (by omega) (by omega) _ _ _ (fun a c1 c2 => ?_) ((hset_ne _ _ (by omega)).trans (hset_eq _ _ _)) (hset_eq _ _ _) (fun a ha => ?_) (fun a ha => ?_)
    · rw [hset_ne _ _ c2, hset_ne _ _ c1]; exact he a c1 c2
    · by_cases c : a = t - 1
      · subst c; rw [va_up_self, if_pos (by omega), show t - 1 + 1 = t by omega]; exact (h0 t ht).symm
      · rw [va_up_ne _ _ c, hf2 a ha]
        by_cases c2 : a + 1 < t
        · rw [if_pos c2, if_pos (by omega)]
        · rw [if_neg c2, if_neg (by omega)]
    · by_cases c : a = t - 1
      · subst c; rw [pk_us, if_pos (by omega), show t - 1 + 1 = t by omega]
      · rw [pk_un c, hg2 a ha]
        by_cases c2 : a + 1 < t
        · rw [if_pos c2, if_pos (by omega)]
        · rw [if_neg c2, if_neg (by omega)]
theorem c_X6_dropOldest (hS : StA h S σ x) (hx : x.dn = 20) : CV yX6_dropOldest MX6_dropOldest [.ref S] h (fun h' => StA h' S (fun k => σ (rot k)) x.drop ∧ Er S (S + 83) h h') := by
  obtain ⟨⟨a1, ⟨f2, a2, a2'⟩, ⟨f3, a3, a3'⟩, ⟨g4, a4, a4'⟩, g5, a5, a5'⟩, p, ok, ww⟩ := id hS
  have e0 := a3' 0 (by omega)
  refine CV.ofV (by decide) rfl rfl (by simp [Value.category]) (by exact Nat.le_of_ble_eq_true rfl) (fun sz => ?_)
  refine e_aload_n (pc := 0) dX6_dropOldest_0 rfl rfl ?_
  refine e_get (pc := 1) fl_X6_17 dX6_dropOldest_1 (by repeat (first | assumption | exact hset_eq _ _ _ | rw [hset_ne _ _ (by omega)])) (by rfl) ?_
  refine n_iconst (pc := 4) 0 dX6_dropOldest_4 (by decide) ?_
  refine e_aldQS (pc := 5) _ dX6_dropOldest_5 (by repeat (first | assumption | exact hset_eq _ _ _ | rw [hset_ne _ _ (by omega)])) (by rfl) (by omega) (by first | decide | omega) (by assumption) ?_
  refine e_astore_n (pc := 6) dX6_dropOldest_6 rfl (by decide) ?_
  refine n_iconst (pc := 7) 1 dX6_dropOldest_7 (by decide) ?_
  refine e_istore_n (pc := 8) dX6_dropOldest_8 rfl (by decide) ?_
  exact l_drop hS hx a3' a4' a3 19 1 rfl (by omega) (by omega) h f3 g4 (fun _ _ _ => rfl) a3 a4 (fun a ha => (if_neg (by omega)).symm) (fun a ha => (if_neg (by omega)).symm)
theorem l_tell {sz w o2 : Nat} {W2 : Wd} {f2 : Int32} {hh : AH} (hS : StA h S σ x) (hx : x.dn < 20) (hw : w < 6) (hW2 : WAt h o2 W2 f2) (hk2 : Wok W2) (hf2 : fOk W2 f2) (d : o2 + 3 ≤ S ∨ S + 83 ≤ o2) (he : Er S (S + 83) hh h) : VV MX6_tell sz (fun h' => StA h' S σ (x.act w W2) ∧ WAt h' o2 W2 f2 ∧ Er S (S + 83) hh h') h 28 [some (.ref S), some (.int (nI w)), some (.ref o2)] [] := by
  obtain ⟨⟨a1, ⟨f2', a2, a2'⟩, ⟨f3, a3, a3'⟩, -⟩, p, ok, ww⟩ := id hS
  obtain ⟨fa, wfa, -⟩ := hS.w (show 6 + x.dn < 26 by omega)
  obtain ⟨fb, wfb, wfb2⟩ := hS.w (show w < 26 by omega)
  have bd1 := hS.bd (show 6 + x.dn < 26 by omega)
  have bd2 := hS.bd (show w < 26 by omega)
  have ap := hS.ap (show 6 + x.dn < 26 by omega) (show w < 26 by omega) (by omega)
  obtain ⟨wa1, -⟩ := id wfa
  have e1 := a3' x.dn hx
  have e2 := a2' w hw
  refine e_aload_n (pc := 28) dX6_tell_28 rfl rfl ?_
  refine e_get (pc := 29) fl_X6_17 dX6_tell_29 (by repeat (first | assumption | exact hset_eq _ _ _ | rw [hset_ne _ _ (by omega)])) (by rfl) ?_
  refine e_aload_n (pc := 32) dX6_tell_32 rfl rfl ?_
  refine e_get (pc := 33) fl_X6_27 dX6_tell_33 (by repeat (first | assumption | exact hset_eq _ _ _ | rw [hset_ne _ _ (by omega)])) (by rfl) ?_
  refine e_aldQS (pc := 36) _ dX6_tell_36 (by repeat (first | assumption | exact hset_eq _ _ _ | rw [hset_ne _ _ (by omega)])) (by rfl) (by omega) (by first | decide | omega) (by assumption) ?_
  refine e_aload_n (pc := 37) dX6_tell_37 rfl rfl ?_
  refine e_get (pc := 38) fl_X6_11 dX6_tell_38 (by repeat (first | assumption | exact hset_eq _ _ _ | rw [hset_ne _ _ (by omega)])) (by rfl) ?_
  refine e_iload_n (pc := 41) dX6_tell_41 rfl rfl ?_
  refine e_aldQS (pc := 42) _ dX6_tell_42 (by repeat (first | assumption | exact hset_eq _ _ _ | rw [hset_ne _ _ (by omega)])) (by rfl) (by omega) (by first | decide | omega) (by assumption) ?_
  refine n_Vv (pc := 43) (c_X9_copy wfa wfb (hS.ok (by omega)) (hS.ok (by omega)) ap) bX9_copy q_i_X9_copy q_s_X9_copy q_m_X6_35 dX6_tell_43 rfl rfl (by repeat (first | assumption | exact hset_eq _ _ _ | rw [hset_ne _ _ (by omega)])) rfl rfl (by exact Nat.le_of_ble_eq_true rfl) ⟨by decide, by decide⟩ ⟨rfl, rfl, Nat.zero_le _, Nat.zero_le _⟩ (fun h3 hp => ?_)
  obtain ⟨p1, p2⟩ := hp
  have hS3 := hS.put (show 6 + x.dn < 26 by omega) (fun a _ _ c1 c2 c3 => p2 a c1 c2 c3) p1 wfb2 (hS.ok (show w < 26 by omega))
  obtain ⟨⟨b1, ⟨f2'', b2, b2'⟩, ⟨f3', b3, b3'⟩, ⟨g4, b4, b4'⟩, -⟩, -⟩ := id hS3
  have b1 : h3 S = some (ob 6 [.ref (S + 1), .ref (S + 2), .ref (S + 3), .ref (S + 4), .int (nI x.dn), .int (nI x.un)]) := b1
  refine e_aload_n (pc := 46) dX6_tell_46 rfl rfl ?_
  refine e_get (pc := 47) fl_X6_20 dX6_tell_47 (by repeat (first | assumption | exact hset_eq _ _ _ | rw [hset_ne _ _ (by omega)])) (by rfl) ?_
  refine e_aload_n (pc := 50) dX6_tell_50 rfl rfl ?_
  refine e_get (pc := 51) fl_X6_27 dX6_tell_51 (by repeat (first | assumption | exact hset_eq _ _ _ | rw [hset_ne _ _ (by omega)])) (by rfl) ?_
  refine e_iload_n (pc := 54) dX6_tell_54 rfl rfl ?_
  refine e_iastN (pc := 55) _ dX6_tell_55 (by repeat (first | assumption | exact hset_eq _ _ _ | rw [hset_ne _ _ (by omega)])) (by rfl) (by omega) (by first | decide | omega) ?_
  refine e_aload_n (pc := 56) dX6_tell_56 rfl rfl ?_
  refine e_dup (pc := 57) dX6_tell_57 rfl ?_
  refine e_get (pc := 58) fl_X6_27 dX6_tell_58 (by repeat (first | assumption | exact hset_eq _ _ _ | rw [hset_ne _ _ (by omega)])) (by rfl) ?_
  refine n_iconst (pc := 61) 1 dX6_tell_61 (by decide) ?_
  refine n_iadd (pc := 62) dX6_tell_62 ?_
  refine e_put (pc := 63) pl_X6_27 dX6_tell_63 (by repeat (first | assumption | exact hset_eq _ _ _ | rw [hset_ne _ _ (by omega)])) (by rfl) (by rfl) (by exact Nat.le_of_ble_eq_true rfl) ?_
  refine e_aload_n (pc := 66) dX6_tell_66 rfl rfl ?_
  refine n_iconst (pc := 67) 0 dX6_tell_67 (by decide) ?_
  refine e_put (pc := 68) pl_X6_31 dX6_tell_68 (by repeat (first | assumption | exact hset_eq _ _ _ | rw [hset_ne _ _ (by omega)])) (by rfl) (by rfl) (by exact Nat.le_of_ble_eq_true rfl) ?_
  simp only [hset_hset]
  have hS4 := (hS3.setWho (d := x.dn) b4 hw).setD (d := x.dn + 1) (u := 0) (by omega)
  obtain ⟨⟨c1, ⟨f6, c2, c2'⟩, -⟩, -⟩ := id hS4
  obtain ⟨fc, wfc, -⟩ := hS4.w (show w < 26 by omega)
  obtain ⟨wc1, -⟩ := id wfc
  have e3 := c2' w hw
  have hW4 : WAt (hset (hset h3 (S + 3) (aI 20 (upd g4 x.dn (nI w)))) S (ob 6 [.ref (S + 1), .ref (S + 2), .ref (S + 3), .ref (S + 4), .int (nI (x.dn + 1)), .int (nI 0)])) o2 W2 f2 := (((hW2.far p2 (by omega)).hs (by omega)).hs (by omega))
  refine e_aload_n (pc := 71) dX6_tell_71 rfl rfl ?_
  refine e_get (pc := 72) fl_X6_11 dX6_tell_72 (by repeat (first | assumption | exact hset_eq _ _ _ | rw [hset_ne _ _ (by omega)])) (by rfl) ?_
  refine e_iload_n (pc := 75) dX6_tell_75 rfl rfl ?_
  refine e_aldQS (pc := 76) _ dX6_tell_76 (by repeat (first | assumption | exact hset_eq _ _ _ | rw [hset_ne _ _ (by omega)])) (by rfl) (by omega) (by first | decide | omega) (by assumption) ?_
  refine e_aload_n (pc := 77) dX6_tell_77 rfl rfl ?_
  refine n_Vv (pc := 78) (c_X9_copy wfc hW4 (hS4.ok (by omega)) hk2 (by omega)) bX9_copy q_i_X9_copy q_s_X9_copy q_m_X6_35 dX6_tell_78 rfl rfl (by repeat (first | assumption | exact hset_eq _ _ _ | rw [hset_ne _ _ (by omega)])) rfl rfl (by exact Nat.le_of_ble_eq_true rfl) ⟨by decide, by decide⟩ ⟨rfl, rfl, Nat.zero_le _, Nat.zero_le _⟩ (fun h5 hp => ?_)
  obtain ⟨p3, p4⟩ := hp
  have hS5 := hS4.put (show w < 26 by omega) (fun a _ _ c1 c2 c3 => p4 a c1 c2 c3) p3 hf2 hk2
  refine n_vret (pc := 81) dX6_tell_81 rfl ⟨hS5.congr (fun k hk => ?_) (fun a ha => ?_) (fun t ht => rfl) rfl rfl, hW4.far p4 (by omega), ?_⟩
  · show (if k = w then W2 else if k = 6 + x.dn then x.ws w else x.ws k) = (if k = w then W2 else if k = 6 + x.dn then x.1 w else x.1 k)
    rfl
  · rfl
  · refine he.tr (fun a ha => ?_)
    rw [p4 a (by omega) (by omega) (by omega), hset_ne _ _ (by omega), hset_ne _ _ (by omega)]
    exact p2 a (by omega) (by omega) (by omega)
theorem c_X6_tell {w o2 : Nat} {W2 : Wd} {f2 : Int32} (hS : StA h S σ x) (hw : w < 6) (hW2 : WAt h o2 W2 f2) (hk2 : Wok W2) (hf2 : fOk W2 f2) (d : o2 + 3 ≤ S ∨ S + 83 ≤ o2) : CV yX6_tell MX6_tell [.ref S, .int (nI w), .ref o2] h (fun h' => (∃ τ, StA h' S τ (x.tellW w W2)) ∧ WAt h' o2 W2 f2 ∧ Er S (S + 83) h h') := by
  obtain ⟨⟨a1, -⟩, p, ok, ww⟩ := id hS
  have hu := ok.2.2.2
  refine CV.ofV (by decide) rfl rfl (by simp [Value.category]) (by exact Nat.le_of_ble_eq_true rfl) (fun sz => ?_)
  refine e_iload_n (pc := 0) dX6_tell_0 rfl rfl ?_
  refine n_if_lt (pc := 1) (tgt := 14) dX6_tell_1 (by omega) ?_ (by decide)
  refine e_iload_n (pc := 4) dX6_tell_4 rfl rfl ?_
  refine n_bipush (pc := 5) 6 dX6_tell_5 (by decide) ?_
  refine n_icmp_ge (pc := 7) (tgt := 14) dX6_tell_7 (by decide) (by omega) (by omega) (fun c => absurd c (by omega)) (fun hb_ => ?_)
  refine e_aload_n (pc := 10) dX6_tell_10 rfl rfl ?_
  refine e_ifnonnull (pc := 11) (tgt := 15) dX6_tell_11 (by decide) ?_
  refine e_aload_n (pc := 15) dX6_tell_15 rfl rfl ?_
  refine e_get (pc := 16) fl_X6_27 dX6_tell_16 (by repeat (first | assumption | exact hset_eq _ _ _ | rw [hset_ne _ _ (by omega)])) (by rfl) ?_
  refine n_bipush (pc := 19) 20 dX6_tell_19 (by decide) ?_
  refine n_icmp_lt (pc := 21) (tgt := 28) dX6_tell_21 (by decide) (by omega) (by omega) (fun hc => ?_) (fun hc => ?_)
  · refine V.post ?_ (l_tell (hh := h) hS hc hw hW2 hk2 hf2 d (Er.rf _ _ h))
    intro r h' z q
    obtain ⟨q1, q2, q3, q4⟩ := q
    refine ⟨q1, q2, ⟨σ, ?_⟩, q4⟩
    unfold Sx.tellW
    rw [if_neg (by omega)]
    exact q3
  · refine e_aload_n (pc := 24) dX6_tell_24 rfl rfl ?_
    refine n_Vv (pc := 25) (c_X6_dropOldest hS (show x.dn = 20 by omega)) bX6_dropOldest q_i_X6_dropOldest q_s_X6_dropOldest q_m_X6_45 dX6_tell_25 rfl rfl (by repeat (first | assumption | exact hset_eq _ _ _ | rw [hset_ne _ _ (by omega)])) rfl rfl (by exact Nat.le_of_ble_eq_true rfl) ⟨by decide, by decide⟩ ⟨rfl, rfl, Nat.zero_le _, Nat.zero_le _⟩ (fun h2 hp => ?_)
    obtain ⟨p1, p2⟩ := hp
    refine V.post ?_ (l_tell (hh := h) p1 (show 19 < 20 by omega) hw (hW2.er p2 (by omega)) hk2 hf2 d p2)
    intro r h' z q
    obtain ⟨q1, q2, q3, q4⟩ := q
    refine ⟨q1, q2, ⟨fun k => σ (rot k), ?_⟩, q4⟩
    unfold Sx.tellW
    rw [if_pos (by omega)]
    exact q3
def cpW (x y : Sx) (m : Nat) : Nat → Wd := fun k => if k < m then y.1 k else x.1 k
def cpS (x y : Sx) (m a : Nat) : Sx := (cpW x y m, fun b => if b < a then y.2.1 b else x.2.1 b, x.2.2)
end SA
