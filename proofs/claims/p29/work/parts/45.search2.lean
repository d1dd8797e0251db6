/-! ===== Search: attempt and extend, by recursion ===== -/
/-- what lies still while images are sought -/
def SCtx (hh : AH) (B : Nat) (W W2 : Wd) (b cd : Nat → Nat) (bf af : Nat → Nat) (lp rp : Nat → Int32) (lev : Nat → Nat → Nat) (fx : Nat) : Prop :=
  STab hh B W W2 bf af ∧ SBas hh B W lp rp (fun i j => cd (mul W (b i) (b j))) lev ∧ SMath W b cd lp rp lev ∧ Wok W ∧ Wok W2 ∧ W.1 ^ W.2.1 ≤ 27 ∧ (W2.1 = W.1 ∧ W2.2.1 = W.2.1) ∧ fx < W.1 ^ W.2.1
def Dy (h1 : AH) (B : Nat) (W : Wd) (fx l : Nat) (c : Nat → Nat) (cnt : Nat) : Prop :=
  SHd h1 B W.1 W.2.1 (W.1 ^ W.2.1) cnt (nI fx) ∧ AV h1 (B + 12) 5 l (fun t => nI (c t)) ∧ AV h1 (B + 13) 27 (W.1 ^ l) (fun z => nI (lin W.1 W.2.1 c z))
def Pre (W W2 : Wd) (bf af b cd : Nat → Nat) (lev : Nat → Nat → Nat) (fx l : Nat) (c : Nat → Nat) : Prop :=
  (∀ t, c t < W.1 ^ W.2.1) ∧ Ind W.1 W.2.1 c l ∧ (0 < l → 0 < fx → c 0 = fx) ∧ ∀ i j, i < W.2.1 → j < W.2.1 → lev i j < l → mul W2 (bf (c i)) (af (c j)) = lin W.1 W.2.1 c (cd (mul W (b i) (b j)))
def tT (W2 : Wd) (bf af : Nat → Nat) (x y : Nat) : Nat := mul W2 (bf x) (af y)
section ET
variable {B : Nat} {W W2 : Wd} {bf af b cd : Nat → Nat} {lp rp : Nat → Int32} {lev : Nat → Nat → Nat} {fx : Nat} {hh : AH}
theorem cput_at (c : Nat → Nat) (l x : Nat) : cput c l x l = x := if_pos rfl
theorem cput_ne {c : Nat → Nat} {l x t : Nat} (h : t ≠ l) : cput c l x t = c t := if_neg h
theorem cput_lin (hk : Wok W) {c : Nat → Nat} {l x z : Nat} (hz : z < W.1 ^ l) : lin W.1 W.2.1 (cput c l x) z = lin W.1 W.2.1 c z := lin_low (by have := hk.b; omega) hz (fun i hi => cput_ne (by omega))
theorem at_none (hk : Wok W) {c : Nat → Nat} {l x z : Nat} (hl : l < W.2.1) (hz : z < W.1 ^ l) (e : lin W.1 W.2.1 c z = x) : TC (W.1 ^ W.2.1) W.2.1 (l + 1) (cput c l x) (PM W (tT W2 bf af) b cd fx) = 0 := by
  have hp0 : 0 < W.1 := by have := hk.b; omega
  refine TC_0 (fun d hd ⟨_, hI, _⟩ => hI l hl z hz ?_)
  rw [hd l (by omega), cput_at, ← e]
  exact lin_low hp0 hz (fun i hi => by rw [hd i (by omega), cput_ne (by omega)])
section AT
variable {l x d cnt sz : Nat} {c : Nat → Nat}
end AT
end ET
