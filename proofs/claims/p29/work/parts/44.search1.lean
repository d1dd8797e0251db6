/-! ===== Search: maps, image by image ===== -/
def AV (h : AH) (a N m : Nat) (v : Nat → Int32) : Prop := ∃ g, h a = some (aI N g) ∧ ∀ t, t < m → g t = v t
abbrev SHd (h : AH) (B p n q c : Nat) (fx : Int32) : Prop := h B = some (ob 5 [.int (nI p), .int (nI n), .int (nI q), .int (nI c), .int fx, .ref (B + 1), .ref (B + 2), .ref (B + 3), .ref (B + 4), .ref (B + 5), .ref (B + 6), .ref (B + 7), .ref (B + 8), .ref (B + 9), .ref (B + 10), .ref (B + 11), .ref (B + 12), .ref (B + 13)])
/-- tables of sums and products, and where the factors are looked up -/
def STab (h : AH) (B : Nat) (W W2 : Wd) (bf af : Nat → Nat) : Prop :=
  (∃ g, h (B + 1) = some (aI 729 g) ∧ ∀ x y, x < W.1 ^ W.2.1 → y < W.1 ^ W.2.1 → g (x * W.1 ^ W.2.1 + y) = nI (ad W.1 x y)) ∧
  (∃ g, h (B + 2) = some (aI 729 g) ∧ ∀ x y, x < W.1 ^ W.2.1 → y < W.1 ^ W.2.1 → g (x * W.1 ^ W.2.1 + y) = nI (mul W2 x y)) ∧
  AV h (B + 3) 27 (W.1 ^ W.2.1) (fun x => nI (bf x)) ∧ AV h (B + 4) 27 (W.1 ^ W.2.1) (fun x => nI (af x)) ∧
  ∀ x, x < W.1 ^ W.2.1 → bf x < W.1 ^ W.2.1 ∧ af x < W.1 ^ W.2.1
def SBas (h : AH) (B : Nat) (W : Wd) (lp rp : Nat → Int32) (cod lev : Nat → Nat → Nat) : Prop :=
  AV h (B + 8) 5 W.2.1 lp ∧ AV h (B + 9) 5 W.2.1 rp ∧
  (∃ g, h (B + 10) = some (aI 25 g) ∧ ∀ i j, i < W.2.1 → j < W.2.1 → g (5 * i + j) = nI (cod i j)) ∧
  ∃ g, h (B + 11) = some (aI 25 g) ∧ ∀ i j, i < W.2.1 → j < W.2.1 → g (5 * i + j) = nI (lev i j)
def SMath (W : Wd) (b cd : Nat → Nat) (lp rp : Nat → Int32) (lev : Nat → Nat → Nat) : Prop :=
  Bas W.1 W.2.1 b cd ∧ (∀ i j, i < W.2.1 → j < W.2.1 → i ≤ lev i j ∧ j ≤ lev i j ∧ lev i j < W.2.1 ∧ cd (mul W (b i) (b j)) < W.1 ^ (lev i j + 1)) ∧
  ∀ l, l < W.2.1 → (lp l = -1 ∧ rp l = -1) ∨ ∃ i j, i < l ∧ j < l ∧ lp l = nI i ∧ rp l = nI j ∧ b l = mul W (b i) (b j)
def Sf (B : Nat) (h h' : AH) : Prop := ∀ a, a ≠ B → a ≠ B + 12 → a ≠ B + 13 → h' a = h a
theorem Sf.rf (B : Nat) (h : AH) : Sf B h h := fun _ _ _ _ => rfl
theorem Sf.tr {B : Nat} {h h1 h2 : AH} (a : Sf B h h1) (b : Sf B h1 h2) : Sf B h h2 := fun q x y z => (b q x y z).trans (a q x y z)
theorem Sf.set {B a : Nat} {x : AE} {h h1 : AH} (e : Sf B h h1) (ha : a = B ∨ a = B + 12 ∨ a = B + 13) : Sf B h (hset h1 a x) := fun q p1 p2 p3 => by
  rw [hset_ne _ _ (by omega)]; exact e q p1 p2 p3
theorem AV.keep {h h2 : AH} {a N m : Nat} {v : Nat → Int32} (q : AV h a N m v) (e : h2 a = h a) : AV h2 a N m v := by
  obtain ⟨g, g1, g2⟩ := q
  exact ⟨g, e.trans g1, g2⟩
theorem STab.sf {h h2 : AH} {B : Nat} {W W2 : Wd} {bf af : Nat → Nat} (q : STab h B W W2 bf af) (e : ∀ a, B < a → a < B + 5 → h2 a = h a) : STab h2 B W W2 bf af := by
  obtain ⟨⟨g1, a1, a2⟩, ⟨g2, a3, a4⟩, a5, a6, a7⟩ := q
  exact ⟨⟨g1, (e _ (by omega) (by omega)).trans a1, a2⟩, ⟨g2, (e _ (by omega) (by omega)).trans a3, a4⟩, a5.keep (e _ (by omega) (by omega)), a6.keep (e _ (by omega) (by omega)), a7⟩
theorem SBas.sf {h h2 : AH} {B : Nat} {W : Wd} {lp rp : Nat → Int32} {cod lev : Nat → Nat → Nat} (q : SBas h B W lp rp cod lev) (e : ∀ a, B + 8 ≤ a → a < B + 12 → h2 a = h a) : SBas h2 B W lp rp cod lev := by
  obtain ⟨a1, a2, ⟨g1, a3, a4⟩, g2, a5, a6⟩ := q
  exact ⟨a1.keep (e _ (by omega) (by omega)), a2.keep (e _ (by omega) (by omega)), ⟨g1, (e _ (by omega) (by omega)).trans a3, a4⟩, g2, (e _ (by omega) (by omega)).trans a5, a6⟩
section SS
variable {h : AH} {B : Nat} {W W2 : Wd} {bf af : Nat → Nat} {c : Nat → Nat} {cnt : Nat} {fx : Int32}
theorem ix_lt {x y q : Nat} (hx : x < q) (hy : y < q) (hq : q ≤ 27) : x * q + y < 729 := by
  have h1 : x * q + y < q * q := by
    have := Nat.mul_le_mul_right q (show x + 1 ≤ q from hx)
    rw [Nat.add_mul] at this
    omega
  have h2 : q * q ≤ 27 * 27 := Nat.mul_le_mul hq hq
  omega
def Agr (W2 : Wd) (p n : Nat) (bf af c : Nat → Nat) (cod lev : Nat → Nat → Nat) (l i j : Nat) : Prop := lev i j = l → mul W2 (bf (c i)) (af (c j)) = lin p n c (cod i j)
section AG
variable {sz l : Nat} {lp rp : Nat → Int32} {cod lev : Nat → Nat → Nat} {Pr : Int32 → AH → Prop}
end AG
end SS
