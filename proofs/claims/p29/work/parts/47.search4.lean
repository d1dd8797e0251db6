/-! ===== Search: a basis is chosen ===== -/
def szS (k : Nat) : Nat := match k with
  | 1 => 729 | 2 => 729 | 3 => 27 | 4 => 27 | 5 => 27 | 6 => 27 | 7 => 5 | 8 => 5 | 9 => 5 | 10 => 25 | 11 => 25 | 12 => 5 | _ => 27
/-- the Search's own rows, whatever they hold -/
def SRo (h : AH) (B : Nat) : Prop := ∀ k, 1 ≤ k → k ≤ 13 → ∃ g, h (B + k) = some (aI (szS k) g)
theorem SRo.far {h h2 : AH} {B : Nat} (q : SRo h B) (e : ∀ a, B < a → a < B + 14 → h2 a = h a) : SRo h2 B := fun k k1 k2 => by
  obtain ⟨g, hg⟩ := q k k1 k2
  exact ⟨g, (e _ (by omega) (by omega)).trans hg⟩
theorem SRo.set {h : AH} {B k n : Nat} {g : Nat → Int32} (q : SRo h B) (hn : n = szS k) : SRo (hset h (B + k) (aI n g)) B := fun j j1 j2 => by
  by_cases e : j = k
  · subst e; subst hn; exact ⟨g, hset_eq _ _ _⟩
  · obtain ⟨g', hg⟩ := q j j1 j2
    exact ⟨g', (hset_ne _ _ (by omega)).trans hg⟩
theorem SRo.hd {h : AH} {B : Nat} {x : AE} (q : SRo h B) : SRo (hset h B x) B := q.far (fun a y _ => hset_ne _ _ (by omega))
/-- a basis so far, its sums and their numbers -/
def EnC (g : Nat → Int32) (W : Wd) (b : Nat → Nat) (z : Nat) : Prop := ∀ x, x < W.1 ^ W.2.1 → (∃ t, t < z ∧ lin W.1 W.2.1 b t = x ∧ g x = nI t) ∨ ((∀ t, t < z → lin W.1 W.2.1 b t ≠ x) ∧ g x = -1)
def EnA (h : AH) (B : Nat) (W : Wd) (b : Nat → Nat) (m : Nat) : Prop := AV h (B + 7) 5 m (fun t => nI (b t)) ∧ AV h (B + 5) 27 (W.1 ^ m) (fun z => nI (lin W.1 W.2.1 b z)) ∧ ∃ g, h (B + 6) = some (aI 27 g) ∧ EnC g W b (W.1 ^ m)
def SumT (h : AH) (B : Nat) (W : Wd) : Prop := ∃ g, h (B + 1) = some (aI 729 g) ∧ ∀ x y, x < W.1 ^ W.2.1 → y < W.1 ^ W.2.1 → g (x * W.1 ^ W.2.1 + y) = nI (ad W.1 x y)
/-- unchanged but for the rows that choosing writes, and the sums of the world asked -/
def Fb (B o : Nat) (h h' : AH) : Prop := ∀ a, (a < B + 5 ∨ B + 12 ≤ a) → a ≠ o + 2 → h' a = h a
theorem Fb.rf (B o : Nat) (h : AH) : Fb B o h h := fun _ _ _ => rfl
theorem Fb.tr {B o : Nat} {h h1 h2 : AH} (a : Fb B o h h1) (b : Fb B o h1 h2) : Fb B o h h2 := fun q x y => (b q x y).trans (a q x y)
theorem Fb.set {B o a : Nat} {x : AE} {h h1 : AH} (e : Fb B o h h1) (ha : B + 5 ≤ a ∧ a < B + 12) : Fb B o h (hset h1 a x) := fun q p1 p2 => by
  rw [hset_ne _ _ (by omega)]; exact e q p1 p2
theorem Es.fb {B o : Nat} {h h1 : AH} (e : Es o h h1) : Fb B o h h1 := fun a _ x => e a x
section CB
variable {h : AH} {B o : Nat} {W : Wd} {f : Int32} {b : Nat → Nat} {cnt : Nat} {fx : Int32}
theorem EnA.far {h2 : AH} {m : Nat} (q : EnA h B W b m) (e : ∀ a, B + 5 ≤ a → a < B + 8 → h2 a = h a) : EnA h2 B W b m := by
  obtain ⟨a1, a2, g, a3, a4⟩ := q
  exact ⟨a1.keep (e _ (by omega) (by omega)), a2.keep (e _ (by omega) (by omega)), g, (e _ (by omega) (by omega)).trans a3, a4⟩
/-- a basis so far: who its members' parents are -/
def BMath (W : Wd) (b : Nat → Nat) (lp rp : Nat → Int32) (m : Nat) : Prop := (∀ t, b t < W.1 ^ W.2.1) ∧ Ind W.1 W.2.1 b m ∧ (0 < m → b 0 = 1) ∧ ∀ l, l < m → (lp l = -1 ∧ rp l = -1) ∨ ∃ i j, i < l ∧ j < l ∧ lp l = nI i ∧ rp l = nI j ∧ b l = mul W (b i) (b j)
def BAt (h : AH) (B : Nat) (W : Wd) (b : Nat → Nat) (m : Nat) : Prop := SRo h B ∧ EnA h B W b m ∧ ∃ gl gr, h (B + 8) = some (aI 5 gl) ∧ h (B + 9) = some (aI 5 gr) ∧ BMath W b gl gr m
theorem BAt.far {h2 : AH} {m : Nat} (q : BAt h B W b m) (e : ∀ a, B < a → a < B + 14 → h2 a = h a) : BAt h2 B W b m := by
  obtain ⟨a1, a2, gl, gr, a3, a4, a5⟩ := q
  exact ⟨a1.far e, a2.far (fun a x y => e a (by omega) (by omega)), gl, gr, (e _ (by omega) (by omega)).trans a3, (e _ (by omega) (by omega)).trans a4, a5⟩
theorem BMath.next {gl gr gl2 gr2 : Nat → Int32} {l x : Nat} (hk : Wok W) (hM : BMath W b gl gr l) (hx : x < W.1 ^ W.2.1) (hn : ∀ z, z < W.1 ^ l → lin W.1 W.2.1 b z ≠ x) (h0 : l = 0 → x = 1) (hg : ∀ t, t < l → gl2 t = gl t ∧ gr2 t = gr t) (hp : (gl2 l = -1 ∧ gr2 l = -1) ∨ ∃ i j, i < l ∧ j < l ∧ gl2 l = nI i ∧ gr2 l = nI j ∧ x = mul W (b i) (b j)) : BMath W (cput b l x) gl2 gr2 (l + 1) := by
  obtain ⟨m1, m2, m3, m4⟩ := hM
  have hp0 : 0 < W.1 := by have := hk.b; omega
  refine ⟨fun t => ?_, fun t ht z hz e => ?_, fun _ => ?_, fun t ht => ?_⟩
  · by_cases e : t = l
    · rw [e, cput_at]; exact hx
    · rw [cput_ne e]; exact m1 t
  · by_cases e2 : t = l
    · subst e2; rw [cput_at, cput_lin hk hz] at e; exact hn z hz e
    · rw [cput_ne e2] at e
      have e4 : lin W.1 W.2.1 (cput b l x) z = lin W.1 W.2.1 b z := lin_low hp0 hz (fun i hi => cput_ne (by omega))
      exact m2 t (by omega) z hz (e4.symm.trans e)
  · by_cases e : l = 0
    · subst e; rw [cput_at]; exact h0 rfl
    · rw [cput_ne (by omega)]; exact m3 (by omega)
  · by_cases e : t = l
    · subst e
      rcases hp with hp | ⟨i, j, hi, hj, p1, p2, p3⟩
      · exact Or.inl hp
      · exact Or.inr ⟨i, j, hi, hj, p1, p2, by rw [cput_at, cput_ne (by omega), cput_ne (by omega)]; exact p3⟩
    · obtain ⟨q1, q2⟩ := hg t (by omega)
      rcases m4 t (by omega) with hp | ⟨i, j, hi, hj, p1, p2, p3⟩
      · exact Or.inl ⟨by rw [q1]; exact hp.1, by rw [q2]; exact hp.2⟩
      · exact Or.inr ⟨i, j, hi, hj, by rw [q1]; exact p1, by rw [q2]; exact p2, by rw [cput_ne (by omega), cput_ne (by omega), cput_ne (by omega)]; exact p3⟩
section CP1
variable {sz l : Nat} {hh : AH} {Pr : Int32 → AH → Prop}
end CP1
end CB
