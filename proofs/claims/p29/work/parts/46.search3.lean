/-! ===== Search: extend ===== -/
section EX
variable {B : Nat} {W W2 : Wd} {bf af b cd : Nat → Nat} {lp rp : Nat → Int32} {lev : Nat → Nat → Nat} {fx : Nat} {hh : AH} {l d cnt sz : Nat} {c : Nat → Nat}
theorem cd_b (hk : Wok W) (hB : Bas W.1 W.2.1 b cd) {l : Nat} (hl : l < W.2.1) : cd (b l) = W.1 ^ l := by
  obtain ⟨b1, b2, b3, b4, b5⟩ := hk.b
  obtain ⟨h1, h2, h3, h4⟩ := hB
  have q5 : W.1 ^ W.2.1 ≤ W.1 ^ 5 := Nat.pow_le_pow_right (by omega) b4
  refine Ind_inj hk.1 b4 (Nat.le_refl _) h1 h2 _ _ (h4 _ (h1 l hl)).1 (pow_q hk hl) ?_
  rw [(h4 _ (h1 l hl)).2, lin_pow (by omega) hl (Nat.lt_of_lt_of_le (h1 l hl) q5)]
end EX
