/-! ===== the number of maps does not depend on the basis ===== -/
noncomputable def NM (W : Wd) (T : Nat → Nat → Nat) (b cd : Nat → Nat) (fx : Nat) : Nat := TC (W.1 ^ W.2.1) W.2.1 0 (fun _ => 0) (PM W T b cd fx)
section NN
variable {W : Wd} {T : Nat → Nat → Nat} {b cd b2 cd2 : Nat → Nat} {fx : Nat}
def conv (W : Wd) (c cd b2 : Nat → Nat) : Nat → Nat := fun i => lin W.1 W.2.1 c (cd (b2 i))
theorem conv_lt (hk : Wok W) {c : Nat → Nat} (hc : ∀ i, i < W.2.1 → c i < W.1 ^ W.2.1) (i : Nat) : conv W c cd b2 i < W.1 ^ W.2.1 := lin_lt (by have := hk.b; omega) (by have := hk.b; omega) hc
theorem conv_lin (hk : Wok W) (hB : Bas W.1 W.2.1 b cd) (hB2 : Bas W.1 W.2.1 b2 cd2) {c : Nat → Nat} {x : Nat} (hx : x < W.1 ^ W.2.1) : lin W.1 W.2.1 (conv W c cd b2) (cd2 x) = lin W.1 W.2.1 c (cd x) := by
  obtain ⟨b1, b2', b3, b4, b5⟩ := hk.b
  obtain ⟨h1, h2, h3, h4⟩ := hB
  obtain ⟨g1, g2, g3, g4⟩ := hB2
  have e1 : lin W.1 W.2.1 (conv W c cd b2) (cd2 x) = lin W.1 W.2.1 c (lin W.1 W.2.1 (fun i => cd (b2 i)) (cd2 x)) := (lin_lin (by omega) b4).symm
  rw [e1]
  refine congrArg _ (Ind_inj hk.1 b4 (Nat.le_refl _) h1 h2 _ _ (lin_lt (by omega) b4 (fun i hi => (h4 _ (g1 i hi)).1)) (h4 x hx).1 ?_)
  rw [(h4 x hx).2, lin_lin (by omega) b4, lin_congr (cs := b2) (fun i hi => (h4 _ (g1 i hi)).2), (g4 x hx).2]
theorem NM_le (hk : Wok W) (hT : Bil W.1 W.2.1 T) (hB : Bas W.1 W.2.1 b cd) (hB2 : Bas W.1 W.2.1 b2 cd2) : NM W T b cd fx ≤ NM W T b2 cd2 fx := by
  obtain ⟨b1, b2', b3, b4, b5⟩ := hk.b
  have hq := hk.pos
  unfold NM TC
  rw [Nat.sub_zero]
  have q5 : W.1 ^ W.2.1 ≤ W.1 ^ 5 := Nat.pow_le_pow_right (by omega) b4
  have tup : ∀ y, (fun t => if t < 0 then (fun _ => 0) t else dg (W.1 ^ W.2.1) y (W.2.1 - 1 - t)) = fun t => dg (W.1 ^ W.2.1) y (W.2.1 - 1 - t) := fun y => funext (fun t => if_neg (Nat.not_lt_zero t))
  have dgl : ∀ y i, dg (W.1 ^ W.2.1) y i < W.1 ^ W.2.1 := fun y i => dg_lt hq y i
  have σd : ∀ y t, t < W.2.1 → dg (W.1 ^ W.2.1) (num (W.1 ^ W.2.1) W.2.1 (fun s => conv W (fun t => dg (W.1 ^ W.2.1) y (W.2.1 - 1 - t)) cd b2 (W.2.1 - 1 - s))) (W.2.1 - 1 - t) = conv W (fun t => dg (W.1 ^ W.2.1) y (W.2.1 - 1 - t)) cd b2 t := fun y t ht => by
    rw [dg_num hq (by omega) (fun s _ => conv_lt hk (fun i _ => dgl _ _) _), show W.2.1 - 1 - (W.2.1 - 1 - t) = t by omega]
  refine cn_inj _ _ _ _ (fun y => num (W.1 ^ W.2.1) W.2.1 (fun s => conv W (fun t => dg (W.1 ^ W.2.1) y (W.2.1 - 1 - t)) cd b2 (W.2.1 - 1 - s))) (fun y hy hP => ⟨num_lt (fun s _ => conv_lt hk (fun i _ => dgl _ _) _), ?_⟩) (fun y y' hy hy' hP hP' e => ?_)
  · have hP2 := bl_iff.mp hP
    rw [tup] at hP2
    refine bl_t ?_
    rw [tup]
    refine ((PM_loc (W := W) (T := T) (b := b2) (cd := cd2) (fx := fx) (by omega)) _ _ (fun t ht => σd y t ht)).mpr ?_
    exact PM_all hk hT hB hB2 (fun i _ => dgl _ _) (fun i _ => conv_lt hk (fun i _ => dgl _ _) _) (fun x hx => conv_lin hk hB hB2 hx) hP2
  · refine num_ext hy hy' (fun i hi => ?_)
    have key : ∀ t, t < W.2.1 → conv W (fun t => dg (W.1 ^ W.2.1) y (W.2.1 - 1 - t)) cd b2 t = conv W (fun t => dg (W.1 ^ W.2.1) y' (W.2.1 - 1 - t)) cd b2 t := fun t ht => by
      rw [← σd y t ht, ← σd y' t ht, e]
    have hi2 : W.2.1 - 1 - i < W.2.1 := by omega
    have f1 : ∀ y, dg (W.1 ^ W.2.1) y i = lin W.1 W.2.1 (conv W (fun t => dg (W.1 ^ W.2.1) y (W.2.1 - 1 - t)) cd b2) (cd2 (lin W.1 W.2.1 b (W.1 ^ (W.2.1 - 1 - i)))) := fun y => by
      have l1 : lin W.1 W.2.1 b (W.1 ^ (W.2.1 - 1 - i)) < W.1 ^ W.2.1 := lin_lt (by omega) b4 hB.1
      rw [conv_lin hk hB hB2 l1]
      have e9 : cd (lin W.1 W.2.1 b (W.1 ^ (W.2.1 - 1 - i))) = W.1 ^ (W.2.1 - 1 - i) := Ind_inj hk.1 b4 (Nat.le_refl _) hB.1 hB.2.1 _ _ (hB.2.2.2 _ l1).1 (pow_q hk hi2) (hB.2.2.2 _ l1).2
      rw [e9, lin_pow (bs := fun t => dg (W.1 ^ W.2.1) y (W.2.1 - 1 - t)) (by omega) hi2 (Nat.lt_of_lt_of_le (dgl _ _) q5)]
      show dg (W.1 ^ W.2.1) y i = dg (W.1 ^ W.2.1) y (W.2.1 - 1 - (W.2.1 - 1 - i))
      rw [show W.2.1 - 1 - (W.2.1 - 1 - i) = i by omega]
    rw [f1 y, f1 y', lin_congr key]
theorem NM_eq (hk : Wok W) (hT : Bil W.1 W.2.1 T) (hB : Bas W.1 W.2.1 b cd) (hB2 : Bas W.1 W.2.1 b2 cd2) : NM W T b cd fx = NM W T b2 cd2 fx := Nat.le_antisymm (NM_le hk hT hB hB2) (NM_le hk hT hB2 hB)
/-- the number of maps, told by base elements -/
noncomputable def NMs (W : Wd) (T : Nat → Nat → Nat) (fx : Nat) : Nat := NM W T (fun i => W.1 ^ i) id fx
theorem Bil_mul {W2 : Wd} (hk2 : Wok W2) : Bil W2.1 W2.2.1 (mul W2) := ⟨fun x y _ _ => mul_lt hk2 x y, fun bs z w _ _ => mul_lin_c hk2 bs z w, fun bs z w _ _ => mul_lin_d hk2 bs z w⟩
theorem qz_lin {W2 : Wd} (hk2 : Wok W2) (hD : Div W2) {e : Nat} (h0 : 0 < e) (he : e < W2.1 ^ W2.2.1) (l : Bool) {bs : Nat → Nat} {z : Nat} (hb : ∀ i, i < W2.2.1 → bs i < W2.1 ^ W2.2.1) : qz W2 e l (lin W2.1 W2.2.1 bs z) = lin W2.1 W2.2.1 (fun i => qz W2 e l (bs i)) z := by
  obtain ⟨b1, b2', b3, b4, b5⟩ := hk2.b
  have e1 : ∀ i, i < W2.2.1 → qz W2 e l (bs i) < W2.1 ^ W2.2.1 := fun i hi => (qz_ok hk2 hD h0 he l (hb i hi)).1
  have l2 : lin W2.1 W2.2.1 (fun i => qz W2 e l (bs i)) z < W2.1 ^ W2.2.1 := lin_lt (by omega) b4 e1
  refine (qz_eq hk2 hD h0 he l2 ?_).symm
  cases l with
  | true =>
    show mul W2 e _ = _
    rw [mul_lin_d hk2]
    exact lin_congr (fun i hi => (qz_ok hk2 hD h0 he true (hb i hi)).2)
  | false =>
    show mul W2 _ e = _
    rw [mul_lin_c hk2]
    exact lin_congr (fun i hi => (qz_ok hk2 hD h0 he false (hb i hi)).2)
/-- products turned back by v from the right, by u from the left -/
noncomputable def tw (W2 : Wd) (u v x y : Nat) : Nat := mul W2 (qz W2 v false x) (qz W2 u true y)
theorem Bil_tw {W2 : Wd} (hk2 : Wok W2) (hD : Div W2) {u v : Nat} (hu0 : 0 < u) (hu : u < W2.1 ^ W2.2.1) (hv0 : 0 < v) (hv : v < W2.1 ^ W2.2.1) : Bil W2.1 W2.2.1 (tw W2 u v) := by
  refine ⟨fun x y _ _ => mul_lt hk2 _ _, fun bs z w hb hw => ?_, fun bs z w hb hw => ?_⟩
  · unfold tw
    rw [qz_lin hk2 hD hv0 hv false hb, mul_lin_c hk2]
  · unfold tw
    rw [qz_lin hk2 hD hu0 hu true hb, mul_lin_d hk2]
end NN
