/-! ===== the reference: what two elements span ===== -/
theorem settle_ex2 {p w : Nat} {led : Nat → Bool} {rows : Nat → Nat → Nat} (hp : Pm p) (hO : EOk p w led rows) (v0 : Nat → Nat) : ∀ (n c : Nat) (v : Nat → Nat), n = w - c → c ≤ w → (∀ t, t < w → v t < p) → (∀ t, t < c → v t = 0) → (∀ u, Sol p w led rows u → (dot w v u % p = 0 ↔ dot w v0 u % p = 0)) → ∃ led2 rows2, EOk p w led2 rows2 ∧ rk w led2 ≤ rk w led + 1 ∧ ∀ u, Sol p w led2 rows2 u ↔ Sol p w led rows u ∧ dot w v0 u % p = 0 := by
  have hp' : 2 ≤ p ∧ p ≤ 5 := by rcases hp with rfl | rfl | rfl <;> decide
  intro n
  induction n with
  | zero =>
    intro c v e1 e2 hv hz hd
    have e : c = w := by omega
    subst e
    exact ⟨led, rows, hO, Nat.le_succ _, fun u => ⟨fun q => ⟨q, (hd u q).mp (by rw [dot_zero u hz, Nat.zero_mod])⟩, fun q => q.1⟩⟩
  | succ n ih =>
    intro c v e1 e2 hv hz hd
    have a3 := hv c (by omega)
    by_cases hv0 : v c = 0
    · refine ih (c + 1) v (by omega) (by omega) hv (fun t ht => ?_) hd
      by_cases e : t = c
      · subst e; exact hv0
      · exact hz t (by omega)
    · cases hl : led c with
      | true =>
        obtain ⟨o1, o2, o3⟩ := hO c (by omega) hl
        refine ih (c + 1) (redv p v (rows c) c) (by omega) (by omega) (fun t ht => ?_) (fun t ht => ?_) (fun u hu => ?_)
        · unfold redv
          by_cases e : c ≤ t
          · rw [if_pos e]; exact Nat.mod_lt _ (by omega)
          · rw [if_neg e]; exact hv t ht
        · unfold redv
          by_cases e : c ≤ t
          · have e3 : t = c := by omega
            subst e3
            rw [if_pos e, o1, Nat.mul_one, Nat.add_sub_cancel' (by omega), Nat.mod_self]
          · rw [if_neg e]; exact hz t (by omega)
        · rw [redv_dot o2 (hu c (by omega) hl)]
          exact hd u hu
      | false =>
        obtain ⟨i1, i2, i3⟩ := inv_ok (v := v c) hp (by omega) a3
        refine ⟨fun t => if t = c then true else led t, fun i => if i = c then (fun t => v t * inv p (v c) % p) else rows i, fun i hi hli => ?_, Nat.le_of_eq (rk_put (by omega) hl), fun u => ?_⟩
        · show (if i = c then (fun t => v t * inv p (v c) % p) else rows i) i = 1 ∧ (∀ t, t < i → (if i = c then (fun t => v t * inv p (v c) % p) else rows i) t = 0) ∧ ∀ t, t < w → (if i = c then (fun t => v t * inv p (v c) % p) else rows i) t < p
          by_cases e : i = c
          · subst e
            simp only [if_pos]
            refine ⟨i3, fun t ht => by rw [hz t ht, Nat.zero_mul, Nat.zero_mod], fun t _ => Nat.mod_lt _ (by omega)⟩
          · dsimp only at hli
            rw [if_neg e] at hli
            simp only [if_neg e]
            exact hO i hi hli
        · have key : dot w (fun t => v t * inv p (v c) % p) u % p = 0 ↔ dot w v u % p = 0 := by
            rw [dot_mod (b := fun t => inv p (v c) * v t) u (fun t _ => by rw [Nat.mod_mod, Nat.mul_comm])]
            have : dot w (fun t => inv p (v c) * v t) u = inv p (v c) * dot w v u := by
              unfold dot
              rw [← sg_mul]
              exact sg_congr (fun t _ => Nat.mul_assoc _ _ _)
            rw [this]
            exact unit_dot hp i1 i2
          constructor
          · intro q
            have q1 : Sol p w led rows u := fun i hi hli => by
              have := q i hi
              by_cases e : i = c
              · subst e; rw [hl] at hli; cases hli
              · simp only [if_neg e] at this
                exact this hli
            have q2 := q c (by omega) (if_pos rfl)
            simp only [if_pos] at q2
            exact ⟨q1, (hd u q1).mp (key.mp q2)⟩
          · intro q i hi hli
            by_cases e : i = c
            · subst e
              simp only [if_pos]
              exact key.mpr ((hd u q.1).mpr q.2)
            · simp only [if_neg e] at hli ⊢
              exact q.1 i hi hli

/-- one more row: the rank stays or is one more -/
theorem SM_rank {p n mm x r : Nat} {ms : Nat → Nat} (hp : Pm p) (h : isRank p n (SM p n mm ms) mm) (h2 : isRank p n (SM p n (mm + 1) (msp x mm ms)) r) : r = mm ∨ r = mm + 1 := by
  have hp1 : 1 < p := by rcases hp with rfl | rfl | rfl <;> decide
  have hp0 : 0 < p := by omega
  have sub : ∀ u, SM p n (mm + 1) (msp x mm ms) u → SM p n mm ms u := fun u q => ((SM_succ u).mp q).1
  have c1 := cnt_S (T := fun z => SM p n mm ms (dg p z)) hp h (fun _ _ => Iff.rfl)
  have c2 := cnt_S (T := fun z => SM p n (mm + 1) (msp x mm ms) (dg p z)) hp h2 (fun _ _ => Iff.rfl)
  have c3 : p ^ (n - r) ≤ p ^ (n - mm) := by
    rw [c1.2, c2.2]
    exact cn_id (fun z _ q => bl_t (sub _ (bl_iff.mp q)))
  have c4 : n - r ≤ n - mm := (Nat.pow_le_pow_iff_right hp1).mp c3
  obtain ⟨led, rows, o1, o2, o3⟩ := h
  obtain ⟨led2, rows2, q1, q2, q3⟩ := settle_ex2 hp o1 (dg p x) n 0 (dg p x) rfl (Nat.zero_le _) (fun t _ => dg_lt hp0 x t) (fun t ht => absurd ht (Nat.not_lt_zero t)) (fun u _ => Iff.rfl)
  have e : r = rk n led2 := rank_uniq hp h2 ⟨led2, rows2, q1, rfl, fun u => by rw [q3 u, o3 u, ← SM_succ u]⟩ (fun _ => Iff.rfl)
  omega
theorem full_dot {p n : Nat} {S : (Nat → Nat) → Prop} (hp : Pm p) (h : isRank p n S n) (h0 : S (fun _ => 0)) (v u : Nat → Nat) (hu : S u) : dot n v u % p = 0 := by
  have hp0 : 0 < p := by rcases hp with rfl | rfl | rfl <;> decide
  have k := (rank_full hp h h0).mp rfl
  have hy : num p n (fun t => u t % p) < p ^ n := num_lt (fun _ _ => Nat.mod_lt _ hp0)
  obtain ⟨led, rows, o1, o2, o3⟩ := h
  have y1 : S (dg p (num p n (fun t => u t % p))) := by rw [← o3, Sol_red hp0, o3]; exact hu
  have y0 : num p n (fun t => u t % p) = 0 := Nat.eq_zero_of_not_pos (fun z => k _ z hy y1)
  rw [← dot_red hp0 v u, y0]
  have : dot n v (dg p 0) = 0 := sg_zero (fun t _ => by rw [dg_0, Nat.mul_zero])
  rw [this, Nat.zero_mod]
abbrev Ms.sp (s : Ms) : Nat := s.2.2.2.2.2.2.2.2.2.2.2.1
def Ms.setSp (s : Ms) (v : Nat) : Ms := (s.1, s.2.1, s.2.2.1, s.2.2.2.1, s.2.2.2.2.1, s.2.2.2.2.2.1, s.2.2.2.2.2.2.1, s.2.2.2.2.2.2.2.1, s.2.2.2.2.2.2.2.2.1, s.2.2.2.2.2.2.2.2.2.1, s.2.2.2.2.2.2.2.2.2.2.1, v, s.2.2.2.2.2.2.2.2.2.2.2.2)
/-- digits, matrix, what is spanned have changed -/
def FmS (m : Nat) (h h' : AH) : Prop := ∀ b, b ≠ m → (b < m + 4 ∨ (m + 7 ≤ b ∧ b < m + 11) ∨ (m + 17 ≤ b ∧ b ≠ m + 96)) → h' b = h b
theorem FmS.rf (m : Nat) (h : AH) : FmS m h h := fun _ _ _ => rfl
theorem FmS.tr {m : Nat} {h h1 h2 : AH} (a : FmS m h h1) (b : FmS m h1 h2) : FmS m h h2 := fun q x y => (b q x y).trans (a q x y)
theorem FmA.s {m : Nat} {h h1 : AH} (a : FmA m h h1) : FmS m h h1 := fun b _ y => a b (by omega)
/-- so many independent members stand in their row -/
def SpI (h : AH) (m : Nat) (W : Wd) (s : Ms) (mm : Nat) (ms : Nat → Nat) : Prop := Lay h m W s ∧ s.sp = mm ∧ (∃ g, h (m + 96) = some (aI 5 g) ∧ ∀ i, i < mm → g i = nI (ms i)) ∧ (∀ i, i < mm → ms i < W.1 ^ W.2.1) ∧ isRank W.1 W.2.1 (SM W.1 W.2.1 mm ms) mm
section MS
variable {m : Nat} {s : Ms} {W : Wd} {sz : Nat} {hh : AH}
theorem SpI.le {h : AH} {mm : Nat} {ms : Nat → Nat} (hk : Wok W) (q : SpI h m W s mm ms) : mm ≤ W.2.1 := (cnt_sol hk.1 q.2.2.2.2).1
theorem SpI.keep {h h2 : AH} {mm : Nat} {ms : Nat → Nat} (q : SpI h m W s mm ms) (l : Lay h2 m W s) (e : h2 (m + 96) = h (m + 96)) : SpI h2 m W s mm ms := by
  obtain ⟨q1, q2, ⟨g, q3, q4⟩, q5, q6⟩ := q
  exact ⟨l, q2, ⟨g, e.trans q3, q4⟩, q5, q6⟩
theorem l_sp_zk {π : Nat → Nat} {i : Nat} {x1 : Option Value} {Pr : AH → Prop} (hM : MH hh m W.1 W.2.1 (W.1 ^ W.2.1) s) (hn : W.2.1 ≤ 5) (hπ : Pi5 π) (hi : i < W.2.1)
    (kk : ∀ h G, Er (m + 11) (m + 17) hh h → MxI h m π G → (∀ a b, a < i + 1 → b < W.2.1 → G a b = nI 0) → VV MX11_spans sz Pr h 47 [some (.ref m), x1, some (.int (nI i)), none] []) :
    ∀ (t j : Nat), t = W.2.1 - j → j ≤ W.2.1 → ∀ h G, Er (m + 11) (m + 17) hh h → MxI h m π G → (∀ a b, (a < i ∨ a = i ∧ b < j) → b < W.2.1 → G a b = nI 0) → VV MX11_spans sz Pr h 24 [some (.ref m), x1, some (.int (nI i)), some (.int (nI j))] [] := by
  intro t
  induction t with
  | zero =>
    intro j e1 e2 h G er hx hG
    have e' : j = W.2.1 := by omega
    subst e'
    have hM1 : MH h m W.1 W.2.1 (W.1 ^ W.2.1) s := (er _ (by omega)).trans hM
    refine e_iload_n (pc := 24) dX11_spans_24 rfl rfl ?_
    refine e_aload_n (pc := 25) dX11_spans_25 rfl rfl ?_
    refine e_get (pc := 26) fl_X11_109 dX11_spans_26 (by repeat (first | assumption | exact hset_eq _ _ _ | (apply Lay.hd; assumption) | rw [hset_ne _ _ (by omega)])) (by rfl) ?_
    refine n_icmp_ge (pc := 29) (tgt := 47) dX11_spans_29 (by decide) (by omega) (by omega) (fun hb_ => ?_) (fun c => absurd c (by omega))
    refine V.mask [true, true, true, false] ?_
    exact kk h G er hx (fun a b h1 h2 => hG a b (by omega) h2)
  | succ t ih =>
    intro j e1 e2 h G er hx hG
    have hM1 : MH h m W.1 W.2.1 (W.1 ^ W.2.1) s := (er _ (by omega)).trans hM
    obtain ⟨⟨f, f1, f2⟩, x3⟩ := id hx
    have r1 := x3 i (by omega)
    have pi := hπ.1 i (by omega)
    refine e_iload_n (pc := 24) dX11_spans_24 rfl rfl ?_
    refine e_aload_n (pc := 25) dX11_spans_25 rfl rfl ?_
    refine e_get (pc := 26) fl_X11_109 dX11_spans_26 (by repeat (first | assumption | exact hset_eq _ _ _ | (apply Lay.hd; assumption) | rw [hset_ne _ _ (by omega)])) (by rfl) ?_
    refine n_icmp_ge (pc := 29) (tgt := 47) dX11_spans_29 (by decide) (by omega) (by omega) (fun c => absurd c (by omega)) (fun hb_ => ?_)
    refine e_aload_n (pc := 32) dX11_spans_32 rfl rfl ?_
    refine e_get (pc := 33) fl_X11_46 dX11_spans_33 (by repeat (first | assumption | exact hset_eq _ _ _ | (apply Lay.hd; assumption) | rw [hset_ne _ _ (by omega)])) (by rfl) ?_
    refine e_iload_n (pc := 36) dX11_spans_36 rfl rfl ?_
    refine e_aldGS (pc := 37) i dX11_spans_37 (by repeat (first | assumption | exact hset_eq _ _ _ | (apply Lay.hd; assumption) | rw [hset_ne _ _ (by omega)])) (by rfl) (by omega) (by first | decide | omega) (f2 i (by omega)) ?_
    refine e_iload_n (pc := 38) dX11_spans_38 rfl rfl ?_
    refine n_iconst (pc := 39) 0 dX11_spans_39 (by decide) ?_
    refine e_iastN (pc := 40) j dX11_spans_40 (by repeat (first | assumption | exact hset_eq _ _ _ | (apply Lay.hd; assumption) | rw [hset_ne _ _ (by omega)])) (by rfl) (by omega) (by first | decide | omega) ?_
    refine n_inc (pc := 41) dX11_spans_41 rfl (by decide) ?_
    refine e_goto (pc := 44) (tgt := 24) dX11_spans_44 (by decide) ?_
    refine ih (j + 1) (by omega) (by omega) _ _ (er.set (by omega)) (hx.put hπ (by omega)) (fun a b h1 h2 => ?_)
    show (if a = i then upd (G i) j _ else G a) b = _
    by_cases ea : a = i
    · subst ea
      rw [if_pos rfl]
      by_cases eb : b = j
      · subst eb; rw [pk_us]
      · rw [pk_un eb]; exact hG a b (by omega) h2
    · rw [if_neg ea]; exact hG a b (by omega) h2
theorem l_sp_zi {π : Nat → Nat} {x1 : Option Value} {Pr : AH → Prop} (hM : MH hh m W.1 W.2.1 (W.1 ^ W.2.1) s) (hn : W.2.1 ≤ 5) (hπ : Pi5 π)
    (kk : ∀ h G, Er (m + 11) (m + 17) hh h → MxI h m π G → (∀ a b, a < W.2.1 → b < W.2.1 → G a b = nI 0) → VV MX11_spans sz Pr h 53 [some (.ref m), x1, none, none] []) :
    ∀ (t i : Nat), t = W.2.1 - i → i ≤ W.2.1 → ∀ h G, Er (m + 11) (m + 17) hh h → MxI h m π G → (∀ a b, a < i → b < W.2.1 → G a b = nI 0) → VV MX11_spans sz Pr h 14 [some (.ref m), x1, some (.int (nI i)), none] [] := by
  intro t
  induction t with
  | zero =>
    intro i e1 e2 h G er hx hG
    have e' : i = W.2.1 := by omega
    subst e'
    have hM1 : MH h m W.1 W.2.1 (W.1 ^ W.2.1) s := (er _ (by omega)).trans hM
    refine e_iload_n (pc := 14) dX11_spans_14 rfl rfl ?_
    refine e_aload_n (pc := 15) dX11_spans_15 rfl rfl ?_
    refine e_get (pc := 16) fl_X11_109 dX11_spans_16 (by repeat (first | assumption | exact hset_eq _ _ _ | (apply Lay.hd; assumption) | rw [hset_ne _ _ (by omega)])) (by rfl) ?_
    refine n_icmp_ge (pc := 19) (tgt := 53) dX11_spans_19 (by decide) (by omega) (by omega) (fun hb_ => ?_) (fun c => absurd c (by omega))
    refine V.mask [true, true, false, false] ?_
    exact kk h G er hx hG
  | succ t ih =>
    intro i e1 e2 h G er hx hG
    have hM1 : MH h m W.1 W.2.1 (W.1 ^ W.2.1) s := (er _ (by omega)).trans hM
    refine e_iload_n (pc := 14) dX11_spans_14 rfl rfl ?_
    refine e_aload_n (pc := 15) dX11_spans_15 rfl rfl ?_
    refine e_get (pc := 16) fl_X11_109 dX11_spans_16 (by repeat (first | assumption | exact hset_eq _ _ _ | (apply Lay.hd; assumption) | rw [hset_ne _ _ (by omega)])) (by rfl) ?_
    refine n_icmp_ge (pc := 19) (tgt := 53) dX11_spans_19 (by decide) (by omega) (by omega) (fun c => absurd c (by omega)) (fun hb_ => ?_)
    refine n_iconst (pc := 22) 0 dX11_spans_22 (by decide) ?_
    refine e_istore_n (pc := 23) dX11_spans_23 rfl (by decide) ?_
    refine l_sp_zk hM hn hπ (show i < W.2.1 by omega) (fun h2 G2 er2 hx2 hG2 => ?_) W.2.1 0 rfl (Nat.zero_le _) h G er hx (fun a b h1 h2 => hG a b (by omega) h2)
    refine n_inc (pc := 47) dX11_spans_47 rfl (by decide) ?_
    refine e_goto (pc := 50) (tgt := 14) dX11_spans_50 (by decide) ?_
    exact ih (i + 1) (by omega) (by omega) h2 G2 er2 hx2 hG2
theorem l_sp_fk {π : Nat → Nat} {i : Nat} {R : Nat → Nat} {x1 : Option Value} {Pr : AH → Prop} {B : Nat → Nat → Int32} (hM : MH hh m W.1 W.2.1 (W.1 ^ W.2.1) s) (hn : W.2.1 ≤ 5) (hπ : Pi5 π) (hi : i < W.2.1) (hd : ∃ g, hh (m + 4) = some (aI 5 g) ∧ ∀ j, j < W.2.1 → g j = nI (R j))
    (kk : ∀ h G, Er (m + 11) (m + 17) hh h → MxI h m π G → (∀ a b, a < W.2.1 → b < W.2.1 → G a b = if a = i then nI (R b) else B a b) → VV MX11_spans sz Pr h 119 [some (.ref m), x1, some (.int (nI i)), none] []) :
    ∀ (t j : Nat), t = W.2.1 - j → j ≤ W.2.1 → ∀ h G, Er (m + 11) (m + 17) hh h → MxI h m π G → (∀ a b, a < W.2.1 → b < W.2.1 → G a b = if a = i ∧ b < j then nI (R b) else B a b) → VV MX11_spans sz Pr h 91 [some (.ref m), x1, some (.int (nI i)), some (.int (nI j))] [] := by
  intro t
  induction t with
  | zero =>
    intro j e1 e2 h G er hx hG
    have e' : j = W.2.1 := by omega
    subst e'
    have hM1 : MH h m W.1 W.2.1 (W.1 ^ W.2.1) s := (er _ (by omega)).trans hM
    refine e_iload_n (pc := 91) dX11_spans_91 rfl rfl ?_
    refine e_aload_n (pc := 92) dX11_spans_92 rfl rfl ?_
    refine e_get (pc := 93) fl_X11_109 dX11_spans_93 (by repeat (first | assumption | exact hset_eq _ _ _ | (apply Lay.hd; assumption) | rw [hset_ne _ _ (by omega)])) (by rfl) ?_
    refine n_icmp_ge (pc := 96) (tgt := 119) dX11_spans_96 (by decide) (by omega) (by omega) (fun hb_ => ?_) (fun c => absurd c (by omega))
    refine V.mask [true, true, true, false] ?_
    refine kk h G er hx (fun a b h1 h2 => ?_)
    rw [hG a b h1 h2]
    by_cases ea : a = i
    · rw [if_pos ⟨ea, h2⟩, if_pos ea]
    · rw [if_neg (fun q => ea q.1), if_neg ea]
  | succ t ih =>
    intro j e1 e2 h G er hx hG
    have hM1 : MH h m W.1 W.2.1 (W.1 ^ W.2.1) s := (er _ (by omega)).trans hM
    obtain ⟨⟨f, f1, f2⟩, x3⟩ := id hx
    have r1 := x3 i (by omega)
    have pi := hπ.1 i (by omega)
    obtain ⟨gd, d1, d2⟩ := id hd
    have d1' : h (m + 4) = some (aI 5 gd) := (er _ (by omega)).trans d1
    have z := d2 j (by omega)
    refine e_iload_n (pc := 91) dX11_spans_91 rfl rfl ?_
    refine e_aload_n (pc := 92) dX11_spans_92 rfl rfl ?_
    refine e_get (pc := 93) fl_X11_109 dX11_spans_93 (by repeat (first | assumption | exact hset_eq _ _ _ | (apply Lay.hd; assumption) | rw [hset_ne _ _ (by omega)])) (by rfl) ?_
    refine n_icmp_ge (pc := 96) (tgt := 119) dX11_spans_96 (by decide) (by omega) (by omega) (fun c => absurd c (by omega)) (fun hb_ => ?_)
    refine e_aload_n (pc := 99) dX11_spans_99 rfl rfl ?_
    refine e_get (pc := 100) fl_X11_46 dX11_spans_100 (by repeat (first | assumption | exact hset_eq _ _ _ | (apply Lay.hd; assumption) | rw [hset_ne _ _ (by omega)])) (by rfl) ?_
    refine e_iload_n (pc := 103) dX11_spans_103 rfl rfl ?_
    refine e_aldGS (pc := 104) i dX11_spans_104 (by repeat (first | assumption | exact hset_eq _ _ _ | (apply Lay.hd; assumption) | rw [hset_ne _ _ (by omega)])) (by rfl) (by omega) (by first | decide | omega) (f2 i (by omega)) ?_
    refine e_iload_n (pc := 105) dX11_spans_105 rfl rfl ?_
    refine e_aload_n (pc := 106) dX11_spans_106 rfl rfl ?_
    refine e_get (pc := 107) fl_X11_19 dX11_spans_107 (by repeat (first | assumption | exact hset_eq _ _ _ | (apply Lay.hd; assumption) | rw [hset_ne _ _ (by omega)])) (by rfl) ?_
    refine e_iload_n (pc := 110) dX11_spans_110 rfl rfl ?_
    refine e_ialdN (pc := 111) j dX11_spans_111 (by repeat (first | assumption | exact hset_eq _ _ _ | (apply Lay.hd; assumption) | rw [hset_ne _ _ (by omega)])) (by rfl) (by omega) (by first | decide | omega) ?_
    rw [z]
    refine e_iastN (pc := 112) j dX11_spans_112 (by repeat (first | assumption | exact hset_eq _ _ _ | (apply Lay.hd; assumption) | rw [hset_ne _ _ (by omega)])) (by rfl) (by omega) (by first | decide | omega) ?_
    refine n_inc (pc := 113) dX11_spans_113 rfl (by decide) ?_
    refine e_goto (pc := 116) (tgt := 91) dX11_spans_116 (by decide) ?_
    refine ih (j + 1) (by omega) (by omega) _ _ (er.set (by omega)) (hx.put hπ (by omega)) (fun a b h1 h2 => ?_)
    show (if a = i then upd (G i) j _ else G a) b = _
    by_cases ea : a = i
    · subst ea
      rw [if_pos rfl]
      by_cases eb : b = j
      · subst eb; rw [pk_us, if_pos ⟨rfl, by omega⟩]
      · rw [pk_un eb, hG a b h1 h2]
        by_cases e5 : b < j
        · rw [if_pos ⟨rfl, e5⟩, if_pos ⟨rfl, by omega⟩]
        · rw [if_neg (fun q => e5 q.2), if_neg (fun q => by omega)]
    · rw [if_neg ea, hG a b h1 h2, if_neg (fun q => ea q.1), if_neg (fun q => ea q.1)]
/-- the frame while the matrix is laid -/
def FmD (m : Nat) (h h' : AH) : Prop := ∀ b, b ≠ m + 4 → (b < m + 11 ∨ m + 17 ≤ b) → h' b = h b
theorem l_sp_fi {π : Nat → Nat} {x mm : Nat} {ms : Nat → Nat} {Pr : AH → Prop} (hL : Lay hh m W s) (hk : Wok W) (hπ : Pi5 π) (hmm : mm < W.2.1) (hs : s.sp = mm) (hx : x < W.1 ^ W.2.1) (hg : ∃ g, hh (m + 96) = some (aI 5 g) ∧ ∀ i, i < mm → g i = nI (ms i)) (hms : ∀ i, i < mm → ms i < W.1 ^ W.2.1)
    (kk : ∀ h G, FmD m hh h → MRo h m → MxI h m π G → (∀ a b, a < W.2.1 → b < W.2.1 → G a b = nI (if a < mm + 1 then dg W.1 (msp x mm ms a) b else 0)) → VV MX11_spans sz Pr h 125 [some (.ref m), some (.int (nI x)), none, none] []) :
    ∀ (t i : Nat), t = mm + 1 - i → i ≤ mm + 1 → ∀ h G, FmD m hh h → (∃ g, h (m + 4) = some (aI 5 g)) → MxI h m π G → (∀ a b, a < W.2.1 → b < W.2.1 → G a b = nI (if a < i then dg W.1 (msp x mm ms a) b else 0)) → VV MX11_spans sz Pr h 55 [some (.ref m), some (.int (nI x)), some (.int (nI i)), none] [] := by
  obtain ⟨b1, b2, b3, b4, b5⟩ := hk.b
  obtain ⟨g, g1, g2⟩ := hg
  have ro : ∀ h G, FmD m hh h → (∃ g, h (m + 4) = some (aI 5 g)) → MxI h m π G → MRo h m := fun h G fd q4 hx => by
    obtain ⟨g4, q4⟩ := q4
    have r1 : MRo (hset hh (m + 4) (aI 5 g4)) m := hL.2.2.set (isR_d 4 (by decide)) rfl
    refine r1.mx (n := 0) (r := 0) (A := fun _ _ => 0) (fun b hb => ?_) (hx.mxa hπ (Nat.zero_le _) (fun i j hi => absurd hi (Nat.not_lt_zero i))) hπ
    by_cases e : b = m + 4
    · subst e; rw [hset_eq]; exact q4
    · rw [hset_ne _ _ e]; exact fd b e (by omega)
  intro t
  induction t with
  | zero =>
    intro i e1 e2 h G fd h4 hX hG
    have e' : i = mm + 1 := by omega
    subst e'
    have hM1 : MH h m W.1 W.2.1 (W.1 ^ W.2.1) s := (fd _ (by omega) (by omega)).trans hL.1
    refine e_iload_n (pc := 55) dX11_spans_55 rfl rfl ?_
    refine e_aload_n (pc := 56) dX11_spans_56 rfl rfl ?_
    refine e_get (pc := 57) fl_X11_315 dX11_spans_57 (by repeat (first | assumption | exact hset_eq _ _ _ | (apply Lay.hd; assumption) | rw [hset_ne _ _ (by omega)])) (by rfl) ?_
    refine e_top (congrArg nI hs) ?_
    refine n_icmp_gt (pc := 60) (tgt := 125) dX11_spans_60 (by decide) (by omega) (by omega) (fun hb_ => ?_) (fun c => absurd c (by omega))
    refine V.mask [true, true, false, false] ?_
    exact kk h G fd (ro h G fd h4 hX) hX hG
  | succ t ih =>
    intro i e1 e2 h G fd h4 hX hG
    have hM1 : MH h m W.1 W.2.1 (W.1 ^ W.2.1) s := (fd _ (by omega) (by omega)).trans hL.1
    obtain ⟨g4, r4⟩ := h4
    have vl : msp x mm ms i < W.1 ^ W.2.1 := by
      by_cases e : i = mm
      · rw [e, msp_at]; exact hx
      · rw [msp_ne e]; exact hms i (by omega)
    have step : VV MX11_spans sz Pr h 82 [some (.ref m), some (.int (nI x)), some (.int (nI i)), none] [.int (nI (msp x mm ms i)), .ref m] := by
      refine e_aload_n (pc := 82) dX11_spans_82 rfl rfl ?_
      refine e_get (pc := 83) fl_X11_19 dX11_spans_83 (by repeat (first | assumption | exact hset_eq _ _ _ | (apply Lay.hd; assumption) | rw [hset_ne _ _ (by omega)])) (by rfl) ?_
      refine n_Vv (pc := 86) (c_X11_digits hM1 ⟨b1, b2⟩ b4 (show msp x mm ms i < 2 ^ 31 by omega) (by omega) r4) bX11_digits q_i_X11_digits q_s_X11_digits q_m_X11_115 dX11_spans_86 rfl rfl (by repeat (first | assumption | exact hset_eq _ _ _ | (apply Lay.hd; assumption) | rw [hset_ne _ _ (by omega)])) rfl rfl (by exact Nat.le_of_ble_eq_true rfl) ⟨by decide, by decide⟩ ⟨rfl, rfl, Nat.zero_le _, Nat.zero_le _⟩ (fun h2 hp => ?_)
      obtain ⟨gx, rfl, x2⟩ := hp
      have hM2 : MH (hset h (m + 4) (aI 5 gx)) m W.1 W.2.1 (W.1 ^ W.2.1) s := (hset_ne _ _ (by omega)).trans hM1
      refine n_iconst (pc := 89) 0 dX11_spans_89 (by decide) ?_
      refine e_istore_n (pc := 90) dX11_spans_90 rfl (by decide) ?_
      refine l_sp_fk (R := dg W.1 (msp x mm ms i)) (B := G) hM2 b4 hπ (show i < W.2.1 by omega) ⟨gx, hset_eq _ _ _, fun j hj => by rw [x2 j (by omega)]; unfold dgn; rw [if_pos hj]⟩ (fun h2 G2 er2 hx2 hG2 => ?_) W.2.1 0 rfl (Nat.zero_le _) _ G (Er.rf _ _ _) (hX.keep hπ (fun a a1 a2 => hset_ne _ _ (by omega))) (fun a b h1 h2 => by rw [if_neg (fun q => absurd q.2 (Nat.not_lt_zero b))])
      refine n_inc (pc := 119) dX11_spans_119 rfl (by decide) ?_
      refine e_goto (pc := 122) (tgt := 55) dX11_spans_122 (by decide) ?_
      refine ih (i + 1) (by omega) (by omega) h2 G2 (fun b q1 q2 => ((er2 b (by omega)).trans (hset_ne _ _ q1)).trans (fd b q1 q2)) ⟨gx, (er2 _ (by omega)).trans (hset_eq _ _ _)⟩ hx2 (fun a b h1 h2 => ?_)
      rw [hG2 a b h1 h2]
      by_cases ea : a = i
      · rw [if_pos ea, if_pos (by omega), ea]
      · rw [if_neg ea, hG a b h1 h2]
        by_cases e5 : a < i
        · rw [if_pos e5, if_pos (by omega)]
        · rw [if_neg e5, if_neg (by omega)]
    refine e_iload_n (pc := 55) dX11_spans_55 rfl rfl ?_
    refine e_aload_n (pc := 56) dX11_spans_56 rfl rfl ?_
    refine e_get (pc := 57) fl_X11_315 dX11_spans_57 (by repeat (first | assumption | exact hset_eq _ _ _ | (apply Lay.hd; assumption) | rw [hset_ne _ _ (by omega)])) (by rfl) ?_
    refine e_top (congrArg nI hs) ?_
    refine n_icmp_gt (pc := 60) (tgt := 125) dX11_spans_60 (by decide) (by omega) (by omega) (fun c => absurd c (by omega)) (fun hb_ => ?_)
    refine e_aload_n (pc := 63) dX11_spans_63 rfl rfl ?_
    refine e_iload_n (pc := 64) dX11_spans_64 rfl rfl ?_
    refine e_aload_n (pc := 65) dX11_spans_65 rfl rfl ?_
    refine e_get (pc := 66) fl_X11_315 dX11_spans_66 (by repeat (first | assumption | exact hset_eq _ _ _ | (apply Lay.hd; assumption) | rw [hset_ne _ _ (by omega)])) (by rfl) ?_
    refine e_top (congrArg nI hs) ?_
    refine n_icmp_ne (pc := 69) (tgt := 76) dX11_spans_69 (by decide) (by omega) (by omega) (fun c => ?_) (fun c => ?_)
    · have g1' : h (m + 96) = some (aI 5 g) := (fd _ (by omega) (by omega)).trans g1
      have z := g2 i (by omega)
      refine e_aload_n (pc := 76) dX11_spans_76 rfl rfl ?_
      refine e_get (pc := 77) fl_X11_62 dX11_spans_77 (by repeat (first | assumption | exact hset_eq _ _ _ | (apply Lay.hd; assumption) | rw [hset_ne _ _ (by omega)])) (by rfl) ?_
      refine e_iload_n (pc := 80) dX11_spans_80 rfl rfl ?_
      refine e_ialdN (pc := 81) i dX11_spans_81 (by repeat (first | assumption | exact hset_eq _ _ _ | (apply Lay.hd; assumption) | rw [hset_ne _ _ (by omega)])) (by rfl) (by omega) (by first | decide | omega) ?_
      rw [z, ← msp_ne (x := x) (ms := ms) c]
      exact step
    · refine e_iload_n (pc := 72) dX11_spans_72 rfl rfl ?_
      refine e_goto (pc := 73) (tgt := 82) dX11_spans_73 (by decide) ?_
      refine e_top (show nI x = nI (msp x mm ms i) by rw [c, msp_at]) ?_
      exact step
theorem c_X11_spans {h : AH} {x mm : Nat} {ms : Nat → Nat} (hS : SpI h m W s mm ms) (hk : Wok W) (hx : x < W.1 ^ W.2.1) : CV yX11_spans MX11_spans [.ref m, .int (nI x)] h (fun h' => ∃ v m2 ms2, SpI h' m W (s.setSp v) m2 ms2 ∧ mm ≤ m2 ∧ (∀ i, i < mm → ms2 i = ms i) ∧ (∀ i, mm ≤ i → i < m2 → ms2 i = x) ∧ (∀ u, SM W.1 W.2.1 m2 ms2 u → SM W.1 W.2.1 mm ms u ∧ dot W.2.1 (dg W.1 x) u % W.1 = 0) ∧ FmS m h h') := by
  obtain ⟨b1, b2, b3, b4, b5⟩ := hk.b
  have le := hS.le hk
  obtain ⟨hL, hs, ⟨g, g1, g2⟩, hms, hr⟩ := id hS
  have sp0 : s.setSp mm = s := by rw [← hs]; rfl
  refine CV.ofV (by decide) rfl rfl (by simp [Value.category]) (by exact Nat.le_of_ble_eq_true rfl) (fun sz => ?_)
  refine e_aload_n (pc := 0) dX11_spans_0 rfl rfl ?_
  refine e_get (pc := 1) fl_X11_315 dX11_spans_1 (by repeat (first | assumption | exact hset_eq _ _ _ | (apply Lay.hd; assumption) | rw [hset_ne _ _ (by omega)])) (by rfl) ?_
  refine e_top (congrArg nI hs) ?_
  refine e_aload_n (pc := 4) dX11_spans_4 rfl rfl ?_
  refine e_get (pc := 5) fl_X11_109 dX11_spans_5 (by repeat (first | assumption | exact hset_eq _ _ _ | (apply Lay.hd; assumption) | rw [hset_ne _ _ (by omega)])) (by rfl) ?_
  refine n_icmp_ne (pc := 8) (tgt := 12) dX11_spans_8 (by decide) (by omega) (by omega) (fun c => ?_) (fun c => ?_)
  · obtain ⟨π, G, hπ, hG⟩ := hL.2.2.mxi
    refine n_iconst (pc := 12) 0 dX11_spans_12 (by decide) ?_
    refine e_istore_n (pc := 13) dX11_spans_13 rfl (by decide) ?_
    refine l_sp_zi (hh := h) hL.1 b4 hπ (fun h2 G2 er2 hx2 hG2 => ?_) W.2.1 0 rfl (Nat.zero_le _) h G (Er.rf _ _ _) hG (fun a b h1 => absurd h1 (Nat.not_lt_zero a))
    obtain ⟨g4, r4⟩ := hL.2.2.row (k := 4) (isR_d _ (by decide))
    refine n_iconst (pc := 53) 0 dX11_spans_53 (by decide) ?_
    refine e_istore_n (pc := 54) dX11_spans_54 rfl (by decide) ?_
    refine l_sp_fi (hh := h) (x := x) (mm := mm) (ms := ms) hL hk hπ (show mm < W.2.1 by omega) hs hx ⟨g, g1, g2⟩ hms (fun h3 G3 fd3 r3 hx3 hG3 => ?_) (mm + 1) 0 rfl (Nat.zero_le _) h2 G2 (fun b q1 q2 => er2 b (by omega)) ⟨g4, (er2 _ (by omega)).trans r4⟩ hx2 (fun a b h1 h2 => by rw [if_neg (Nat.not_lt_zero a)]; exact hG2 a b h1 h2)
    have hM3 : MH h3 m W.1 W.2.1 (W.1 ^ W.2.1) s := (fd3 _ (by omega) (by omega)).trans hL.1
    have A := hx3.mxa (A := fun a b => if a < mm + 1 then dg W.1 (msp x mm ms a) b else 0) hπ b4 hG3
    have Alt : ∀ i j, i < W.2.1 → j < W.2.1 → (fun a b => if a < mm + 1 then dg W.1 (msp x mm ms a) b else 0) i j < W.1 := fun i j _ _ => by
      show (if i < mm + 1 then dg W.1 (msp x mm ms i) j else 0) < W.1
      by_cases e : i < mm + 1
      · rw [if_pos e]; exact dg_lt (by omega) _ _
      · rw [if_neg e]; omega
    refine e_aload_n (pc := 125) dX11_spans_125 rfl rfl ?_
    refine n_V (pc := 126) (c_X11_rank hM3 r3 hk.1 b4 ⟨π, hπ, A⟩ Alt) bX11_rank q_i_X11_rank q_s_X11_rank q_m_X11_260 dX11_spans_126 rfl rfl (by repeat (first | assumption | exact hset_eq _ _ _ | (apply Lay.hd; assumption) | rw [hset_ne _ _ (by omega)])) rfl rfl (by exact Nat.le_of_ble_eq_true rfl) ⟨by decide, by decide⟩ ⟨rfl, rfl, Nat.zero_le _, Nat.zero_le _⟩ (fun z h4 hp => ?_)
    obtain ⟨r, rfl, rn, k1, k2, k3⟩ := hp
    have k4 : isRank W.1 W.2.1 (SM W.1 W.2.1 (mm + 1) (msp x mm ms)) r := k1.congr (fun u => by
      constructor
      · intro q i hi
        have := q i (by omega)
        have e : (fun b => if i < mm + 1 then dg W.1 (msp x mm ms i) b else 0) = dg W.1 (msp x mm ms i) := by funext b; exact if_pos hi
        exact (congrArg (fun v => dot W.2.1 v u % W.1) e).symm.trans this
      · intro q i hi
        by_cases e5 : i < mm + 1
        · have e : (fun b => if i < mm + 1 then dg W.1 (msp x mm ms i) b else 0) = dg W.1 (msp x mm ms i) := by funext b; exact if_pos e5
          exact (congrArg (fun v => dot W.2.1 v u % W.1) e).trans (q i e5)
        · have e : dot W.2.1 (fun b => if i < mm + 1 then dg W.1 (msp x mm ms i) b else 0) u = 0 := dot_zero u (fun t _ => if_neg e5)
          exact (congrArg (· % W.1) e).trans (Nat.zero_mod _))
    have hM4 : MH h4 m W.1 W.2.1 (W.1 ^ W.2.1) s := (k3 _ (by omega)).trans hM3
    have fr4 : ∀ b, b ≠ m + 4 → (b < m + 11 ∨ m + 17 ≤ b) → h4 b = h b := fun b q1 q2 => (k3 b (by omega)).trans (fd3 b q1 q2)
    have hL4 : Lay h4 m W s := ⟨hM4, hL.2.1.keep (fr4 _ (by omega) (by omega)), k2⟩
    have fs4 : FmS m h h4 := fun b _ q2 => fr4 b (by omega) (by omega)
    have g14 : h4 (m + 96) = some (aI 5 g) := (fr4 _ (by omega) (by omega)).trans g1
    refine e_aload_n (pc := 129) dX11_spans_129 rfl rfl ?_
    refine e_get (pc := 130) fl_X11_315 dX11_spans_130 (by repeat (first | assumption | exact hset_eq _ _ _ | (apply Lay.hd; assumption) | rw [hset_ne _ _ (by omega)])) (by rfl) ?_
    refine e_top (congrArg nI hs) ?_
    refine n_icmp_ne (pc := 133) (tgt := 137) dX11_spans_133 (by decide) (by omega) (by omega) (fun c2 => ?_) (fun c2 => ?_)
    · have er : r = mm + 1 := by
        rcases SM_rank hk.1 hr k4 with z | z
        · exact absurd z c2
        · exact z
      subst er
      refine e_aload_n (pc := 137) dX11_spans_137 rfl rfl ?_
      refine e_get (pc := 138) fl_X11_62 dX11_spans_138 (by repeat (first | assumption | exact hset_eq _ _ _ | (apply Lay.hd; assumption) | rw [hset_ne _ _ (by omega)])) (by rfl) ?_
      refine e_aload_n (pc := 141) dX11_spans_141 rfl rfl ?_
      refine e_get (pc := 142) fl_X11_315 dX11_spans_142 (by repeat (first | assumption | exact hset_eq _ _ _ | (apply Lay.hd; assumption) | rw [hset_ne _ _ (by omega)])) (by rfl) ?_
      refine e_top (congrArg nI hs) ?_
      refine e_iload_n (pc := 145) dX11_spans_145 rfl rfl ?_
      refine e_iastN (pc := 146) mm dX11_spans_146 (by repeat (first | assumption | exact hset_eq _ _ _ | (apply Lay.hd; assumption) | rw [hset_ne _ _ (by omega)])) (by rfl) (by omega) (by first | decide | omega) ?_
      refine e_aload_n (pc := 147) dX11_spans_147 rfl rfl ?_
      refine e_dup (pc := 148) dX11_spans_148 rfl ?_
      refine e_get (pc := 149) fl_X11_315 dX11_spans_149 (by repeat (first | assumption | exact hset_eq _ _ _ | (apply Lay.hd; assumption) | rw [hset_ne _ _ (by omega)])) (by rfl) ?_
      refine e_top (congrArg nI hs) ?_
      refine n_iconst (pc := 152) 1 dX11_spans_152 (by decide) ?_
      refine n_iadd (pc := 153) dX11_spans_153 ?_
      refine e_put (pc := 154) pl_X11_315 dX11_spans_154 (by repeat (first | assumption | exact hset_eq _ _ _ | (apply Lay.hd; assumption) | rw [hset_ne _ _ (by omega)])) (by rfl) (by rfl) (by exact Nat.le_of_ble_eq_true rfl) ?_
      refine n_vret (pc := 157) dX11_spans_157 rfl ⟨mm + 1, mm + 1, msp x mm ms, ⟨⟨hset_eq _ _ _, hL4.2.1.keep ((hset_ne _ _ (by omega)).trans (hset_ne _ _ (by omega))), (k2.set (isR_d 96 (by decide)) rfl).hd⟩, rfl, ⟨_, (hset_ne _ _ (by omega)).trans (hset_eq _ _ _), fun i hi => ?_⟩, fun i hi => ?_, k4⟩, Nat.le_succ _, fun i hi => msp_ne (by omega), fun i i1 i2 => by rw [show i = mm by omega, msp_at], fun u q => (SM_succ u).mp q, fun b q1 q2 => ((hset_ne _ _ q1).trans (hset_ne _ _ (by omega))).trans (fs4 b q1 q2)⟩
      · by_cases e : i = mm
        · subst e; rw [pk_us, msp_at]
        · rw [pk_un e, msp_ne e]; exact g2 i (by omega)
      · by_cases e : i = mm
        · rw [e, msp_at]; exact hx
        · rw [msp_ne e]; exact hms i (by omega)
    · have er : r = mm := by omega
      subst er
      have sub := sub_rank hk.1 hr k4 (fun u q => ((SM_succ u).mp q).1)
      refine n_vret (pc := 136) dX11_spans_136 rfl ⟨r, r, ms, by rw [sp0]; exact hS.keep hL4 (fr4 _ (by omega) (by omega)), Nat.le_refl _, fun i _ => rfl, fun i i1 i2 => absurd i2 (by omega), fun u q => ⟨q, ((SM_succ u).mp (sub u q)).2⟩, fs4⟩
  · have en : mm = W.2.1 := by omega
    refine n_vret (pc := 11) dX11_spans_11 rfl ⟨mm, mm, ms, by rw [sp0]; exact hS, Nat.le_refl _, fun i _ => rfl, fun i i1 i2 => absurd i2 (by omega), fun u q => ⟨q, ?_⟩, FmS.rf _ _⟩
    have hr' := hr
    rw [en] at hr' q
    exact full_dot hk.1 hr' (fun i _ => by rw [show dot W.2.1 (mrow W.1 ms i) (fun _ => 0) = 0 from sg_zero (fun t _ => Nat.mul_zero _), Nat.zero_mod]) _ u q
end MS
