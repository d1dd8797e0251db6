/-! ===== Search: all is made ready ===== -/
section PR
variable {h : AH} {B o o2 : Nat} {W W2 : Wd} {f f2 : Int32} {fx : Int32}
/-- the object that seeks maps, whatever it held -/
def ShS (h : AH) (B : Nat) : Prop := (∃ p n q c fx, SHd h B p n q c (nI fx)) ∧ SRo h B
def Fz (B o o2 : Nat) (h h' : AH) : Prop := ∀ a, (a < B ∨ B + 14 ≤ a) → a ≠ o + 2 → a ≠ o2 + 2 → h' a = h a
theorem Fz.rf (B o o2 : Nat) (h : AH) : Fz B o o2 h h := fun _ _ _ _ => rfl
theorem Fz.tr {B o o2 : Nat} {h h1 h2 : AH} (a : Fz B o o2 h h1) (b : Fz B o o2 h1 h2) : Fz B o o2 h h2 := fun q x y z => (b q x y z).trans (a q x y z)
theorem Fz.set {B o o2 a : Nat} {x : AE} {h h1 : AH} (e : Fz B o o2 h h1) (ha : B ≤ a ∧ a < B + 14) : Fz B o o2 h (hset h1 a x) := fun q p1 p2 p3 => by
  rw [hset_ne _ _ (by omega)]; exact e q p1 p2 p3
theorem Es.fz {B o o2 : Nat} {h h1 : AH} (e : Es o2 h h1) : Fz B o o2 h h1 := fun a _ _ x => e a x
def TabU (h : AH) (B : Nat) (W W2 : Wd) (x y : Nat) : Prop := ∃ g1 g2, h (B + 1) = some (aI 729 g1) ∧ h (B + 2) = some (aI 729 g2) ∧ ∀ a b, a < W.1 ^ W.2.1 → b < W.1 ^ W.2.1 → (a < x ∨ a = x ∧ b < y) → g1 (a * W.1 ^ W.2.1 + b) = nI (ad W.1 a b) ∧ g2 (a * W.1 ^ W.2.1 + b) = nI (mul W2 a b)
theorem ix_inj {q a b x y : Nat} (hb : b < q) (hy : y < q) (h : a * q + b = x * q + y) : a = x ∧ b = y := by
  have h1 : (q * a + b) / q = a ∧ (q * a + b) % q = b := q_div hb
  have h2 : (q * x + y) / q = x ∧ (q * x + y) % q = y := q_div hy
  have e : q * a + b = q * x + y := by rw [Nat.mul_comm q a, Nat.mul_comm q x]; exact h
  rw [e] at h1
  exact ⟨h1.1.symm.trans h2.1, h1.2.symm.trans h2.2⟩
/-- what stands between the steps of prepare -/
def PrS (hh h1 : AH) (B o o2 : Nat) (W W2 : Wd) (f f2 : Int32) (x y : Nat) : Prop := SRo h1 B ∧ (∃ fx, SHd h1 B W.1 W.2.1 (W.1 ^ W.2.1) 0 (nI fx)) ∧ WAt h1 o W f ∧ WAt h1 o2 W2 f2 ∧ Fz B o o2 hh h1 ∧ (∃ g, h1 (B + 13) = some (aI 27 g) ∧ g 0 = nI 0) ∧ TabU h1 B W W2 x y
section PR1
variable {sz : Nat} {hh : AH} {Pr : Int32 → AH → Prop} {gr : Nat}
end PR1
/-- what prepare leaves behind -/
def Ready (h : AH) (B : Nat) (W W2 : Wd) : Prop := SRo h B ∧ (∃ fx, SHd h B W.1 W.2.1 (W.1 ^ W.2.1) 0 (nI fx)) ∧ (∃ g, h (B + 13) = some (aI 27 g) ∧ g 0 = nI 0) ∧ (∃ g1 g2, h (B + 1) = some (aI 729 g1) ∧ h (B + 2) = some (aI 729 g2) ∧ ∀ a b, a < W.1 ^ W.2.1 → b < W.1 ^ W.2.1 → g1 (a * W.1 ^ W.2.1 + b) = nI (ad W.1 a b) ∧ g2 (a * W.1 ^ W.2.1 + b) = nI (mul W2 a b)) ∧ ∃ b cd lp rp lev, SMath W b cd lp rp lev ∧ SBas h B W lp rp (fun i j => cd (mul W (b i) (b j))) lev
end PR
