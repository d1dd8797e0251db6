/-! ===== the law: nuclei, counted ===== -/
def FlJ (X : Wd) (w a b d : Nat) : Prop := ∀ u v, u < X.1 ^ X.2.1 → v < X.1 ^ X.2.1 → (u < b ∨ u = b ∧ v < d) → eJ X w a u v = lJ X w a u v
def FlC (X : Wd) (a b : Nat) : Prop := ∀ u, u < b → mul X a u = mul X u a
def Cm (X : Wd) (a b : Nat) : Prop := ∀ u v, u < X.1 ^ X.2.1 → v < X.1 ^ X.2.1 → (u < a ∨ u = a ∧ v < b) → mul X u v = mul X v u
theorem FlJ.up {X : Wd} {w a b d : Nat} (hb : b < X.1 ^ X.2.1) (hd : d < X.1 ^ X.2.1) : (FlJ X w a b d ∧ eJ X w a b d = lJ X w a b d) ↔ FlJ X w a b (d + 1) := by
  constructor
  · rintro ⟨h1, h2⟩ u v hu hv e
    by_cases c : u = b ∧ v = d
    · rw [c.1, c.2]; exact h2
    · exact h1 u v hu hv (by omega)
  · intro h
    exact ⟨fun u v hu hv e => h u v hu hv (by omega), h b d hb hd (by omega)⟩
theorem FlJ.nx {X : Wd} {w a b : Nat} : FlJ X w a b (X.1 ^ X.2.1) ↔ FlJ X w a (b + 1) 0 := ⟨fun h u v hu hv e => h u v hu hv (by omega), fun h u v hu hv e => h u v hu hv (by omega)⟩
theorem FlJ.all {X : Wd} {w a : Nat} (hk : Wok X) : FlJ X w a (X.1 ^ X.2.1) 0 ↔ Joins X w a := by
  rw [joins_all hk]
  exact ⟨fun h u v hu hv => h u v hu hv (by omega), fun h u v hu hv _ => h u v hu hv⟩
theorem FlC.up {X : Wd} {a b : Nat} : (FlC X a b ∧ mul X a b = mul X b a) ↔ FlC X a (b + 1) := by
  constructor
  · rintro ⟨h1, h2⟩ u hu
    by_cases c : u = b
    · rw [c]; exact h2
    · exact h1 u (by omega)
  · intro h
    exact ⟨fun u hu => h u (by omega), h b (by omega)⟩
theorem FlC.all {X : Wd} {a : Nat} (hk : Wok X) : FlC X a (X.1 ^ X.2.1) ↔ Comm X a := by
  rw [comm_all hk]
  exact Iff.rfl
theorem Cm.up {X : Wd} {a b : Nat} (ha : a < X.1 ^ X.2.1) (hb : b < X.1 ^ X.2.1) : (Cm X a b ∧ mul X a b = mul X b a) ↔ Cm X a (b + 1) := by
  constructor
  · rintro ⟨h1, h2⟩ u v hu hv e
    by_cases c : u = a ∧ v = b
    · rw [c.1, c.2]; exact h2
    · exact h1 u v hu hv (by omega)
  · intro h
    exact ⟨fun u v hu hv e => h u v hu hv (by omega), h a b ha hb (by omega)⟩
theorem Cm.nx {X : Wd} {a : Nat} : Cm X a (X.1 ^ X.2.1) ↔ Cm X (a + 1) 0 := ⟨fun h u v hu hv e => h u v hu hv (by omega), fun h u v hu hv e => h u v hu hv (by omega)⟩
theorem Cm.all {X : Wd} (hk : Wok X) : Cm X (X.1 ^ X.2.1) 0 ↔ Wcom X := by
  rw [wcom_all hk]
  exact ⟨fun h u v hu hv => h u v hu hv (by omega), fun h u v hu hv _ => h u v hu hv⟩
/-- the four marks of one element, so far -/
def NuS (h h2 : AH) (ib : Nat) (X : Wd) (a b d e : Nat) : Prop := (∀ q, q ≠ ib → h2 q = h q) ∧ ∃ gi, h2 ib = some (aZ 4 gi) ∧ (∀ w, w < 3 → gi w = tI (FlJ X w a b d)) ∧ gi 3 = tI (FlC X a e)
section LX
variable {ro : RT} {Post : Option Value → AH → Nat → Prop} {h h2 : AH} {sb o r w tb z z0 z2 c s ib nb a b d : Nat} {X : Wd} {v6 v7 : Value}
theorem l_nu_d (hR : Rt h o w tb z0 X) (hib : z0 ≤ ib) (hk : Wok X) (hq : X.1 ^ X.2.1 ≤ 27) (ha : a < X.1 ^ X.2.1) (hb : b < X.1 ^ X.2.1)
    (kk : ∀ h2, NuS h h2 ib X a (b + 1) 0 (b + 1) → VS ro ML_law Post (z, c, s) h2 361 [some (.ref sb), some (.ref o), some (.int (nI r)), some (.ref w), some (.int (nI (X.1 ^ X.2.1))), some (.ref tb), some (v6), some (v7), some (.ref nb), some (.int (nI a)), some (.ref ib), some (.int (nI b)), none, none, none, none, none] []) :
    ∀ (m d : Nat), m = X.1 ^ X.2.1 - d → d ≤ X.1 ^ X.2.1 → ∀ h2, NuS h h2 ib X a b d (b + 1) → VS ro ML_law Post (z, c, s) h2 207 [some (.ref sb), some (.ref o), some (.int (nI r)), some (.ref w), some (.int (nI (X.1 ^ X.2.1))), some (.ref tb), some (v6), some (v7), some (.ref nb), some (.int (nI a)), some (.ref ib), some (.int (nI b)), some (.int (nI d)), none, none, none, none] [] := by
  intro m
  induction m with
  | zero =>
    intro d e1 e2 h2 hN
    have : d = X.1 ^ X.2.1 := by omega
    subst this
    refine ze_iload (pc := 207) dL_law_207 rfl ?_
    refine ze_iload (pc := 209) dL_law_209 rfl ?_
    refine zn_icmp_ge (pc := 211) (tgt := 361) dL_law_211 (by decide) (by omega) (by omega) (fun cc => ?_) (fun c => absurd c (by omega))
    refine VS.mask [true, true, true, true, true, true, true, true, true, true, true, true, false, false, false, false, false] ?_
    obtain ⟨n1, gi, n2, n3, n4⟩ := hN
    exact kk h2 ⟨n1, gi, n2, fun u hu => (n3 u hu).trans (tI_c FlJ.nx), n4⟩
  | succ m ih =>
    intro d e1 e2 h2 hN
    obtain ⟨n1, gi, n2, n3, n4⟩ := hN
    have hd : d < X.1 ^ X.2.1 := by omega
    have hR2 : ∀ h3, (∀ q, q ≠ ib → h3 q = h q) → Rt h3 o w tb z0 X := fun h3 e => hR.kept (Nat.le_refl _) (fun q _ q2 => e q (by omega))
    have st : ∀ (h3 : AH) x, (∀ q, q ≠ ib → h3 q = h q) → ∀ q, q ≠ ib → hset h3 ib x q = h q := fun h3 x e q hq => (hset_ne _ _ hq).trans (e q hq)
    refine ze_iload (pc := 207) dL_law_207 rfl ?_
    refine ze_iload (pc := 209) dL_law_209 rfl ?_
    refine zn_icmp_ge (pc := 211) (tgt := 361) dL_law_211 (by decide) (by omega) (by omega) (fun c => absurd c (by omega)) (fun cc => ?_)
    refine l_nu_0 (hR2 _ n1) hk hq n2 (n3 0 (by omega)) ha hb hd ?_
    refine l_nu_1 (hR2 _ (st _ _ n1)) hk hq (hset_eq _ _ _) (n3 1 (by omega)) ha hb hd ?_
    refine l_nu_2 (hR2 _ (st _ _ (st _ _ n1))) hk hq (hset_eq _ _ _) (n3 2 (by omega)) ha hb hd ?_
    refine zn_inc (pc := 355) dL_law_355 rfl (by decide) ?_
    refine ze_goto (pc := 358) (tgt := 207) dL_law_358 (by decide) ?_
    refine ih (d + 1) (by omega) (by omega) _ ⟨st _ _ (st _ _ (st _ _ n1)), _, hset_eq _ _ _, fun u hu => ?_, n4⟩
    match u, hu with
    | 0, _ => exact tI_c (FlJ.up hb hd)
    | 1, _ => exact tI_c (FlJ.up hb hd)
    | 2, _ => exact tI_c (FlJ.up hb hd)
theorem l_nu_b (hR : Rt h o w tb z0 X) (hib : z0 ≤ ib) (hk : Wok X) (hq : X.1 ^ X.2.1 ≤ 27) (ha : a < X.1 ^ X.2.1)
    (kk : ∀ h2, NuS h h2 ib X a (X.1 ^ X.2.1) 0 (X.1 ^ X.2.1) → VS ro ML_law Post (z, c, s) h2 367 [some (.ref sb), some (.ref o), some (.int (nI r)), some (.ref w), some (.int (nI (X.1 ^ X.2.1))), some (.ref tb), some (.int (tI (Cm X (a + 1) 0))), some (v7), some (.ref nb), some (.int (nI a)), some (.ref ib), none, none, none, none, none, none] []) :
    ∀ (m b : Nat), m = X.1 ^ X.2.1 - b → b ≤ X.1 ^ X.2.1 → ∀ h2, NuS h h2 ib X a b 0 b → VS ro ML_law Post (z, c, s) h2 170 [some (.ref sb), some (.ref o), some (.int (nI r)), some (.ref w), some (.int (nI (X.1 ^ X.2.1))), some (.ref tb), some (.int (tI (Cm X a b))), some (v7), some (.ref nb), some (.int (nI a)), some (.ref ib), some (.int (nI b)), none, none, none, none, none] [] := by
  intro m
  induction m with
  | zero =>
    intro b e1 e2 h2 hN
    have : b = X.1 ^ X.2.1 := by omega
    subst this
    rw [tI_c Cm.nx]
    refine ze_iload (pc := 170) dL_law_170 rfl ?_
    refine ze_iload (pc := 172) dL_law_172 rfl ?_
    refine zn_icmp_ge (pc := 174) (tgt := 367) dL_law_174 (by decide) (by omega) (by omega) (fun cc => ?_) (fun c => absurd c (by omega))
    refine VS.mask [true, true, true, true, true, true, true, true, true, true, true, false, false, false, false, false, false] ?_
    exact kk h2 hN
  | succ m ih =>
    intro b e1 e2 h2 hN
    obtain ⟨n1, gi, n2, n3, n4⟩ := hN
    have hb : b < X.1 ^ X.2.1 := by omega
    have hR2 : Rt h2 o w tb z0 X := hR.kept (Nat.le_refl _) (fun q _ q2 => n1 q (by omega))
    obtain ⟨-, ⟨t1, t2⟩, -⟩ := id hR2
    obtain ⟨ga, ga1, ga2⟩ := t2 _ ha
    obtain ⟨gb, gb1, gb2⟩ := t2 _ hb
    have m1 := mul_lt hk a b
    have m2 := mul_lt hk b a
    have go : ∀ h3, NuS h h3 ib X a b 0 (b + 1) → VS ro ML_law Post (z, c, s) h3 204 [some (.ref sb), some (.ref o), some (.int (nI r)), some (.ref w), some (.int (nI (X.1 ^ X.2.1))), some (.ref tb), some (.int (tI (Cm X a (b + 1)))), some (v7), some (.ref nb), some (.int (nI a)), some (.ref ib), some (.int (nI b)), none, none, none, none, none] [] := fun h3 hN3 => by
      refine zn_iconst (pc := 204) 0 dL_law_204 (by decide) ?_
      refine ze_istore (pc := 205) dL_law_205 (by decide) ?_
      refine l_nu_d hR hib hk hq ha hb (fun h4 hN4 => ?_) (X.1 ^ X.2.1) 0 (by omega) (by omega) h3 hN3
      refine zn_inc (pc := 361) dL_law_361 rfl (by decide) ?_
      refine ze_goto (pc := 364) (tgt := 170) dL_law_364 (by decide) ?_
      exact ih (b + 1) (by omega) (by omega) h4 hN4
    refine ze_iload (pc := 170) dL_law_170 rfl ?_
    refine ze_iload (pc := 172) dL_law_172 rfl ?_
    refine zn_icmp_ge (pc := 174) (tgt := 367) dL_law_174 (by decide) (by omega) (by omega) (fun c => absurd c (by omega)) (fun cc => ?_)
    refine ze_aload (pc := 177) dL_law_177 rfl ?_
    refine ze_iload (pc := 179) dL_law_179 rfl ?_
    refine ze_aldGS (pc := 181) (a) dL_law_181 (by repeat (first | assumption | exact hset_eq _ _ _ | rw [hset_ne _ _ (by omega)])) (by rfl) (by omega) (by first | decide | omega) (by exact if_pos ha) ?_
    refine ze_iload (pc := 182) dL_law_182 rfl ?_
    refine ze_ialdN (pc := 184) (b) dL_law_184 (by repeat (first | assumption | exact hset_eq _ _ _ | rw [hset_ne _ _ (by omega)])) (by rfl) (by omega) (by first | decide | omega) ?_
    refine ze_top (ga2 b hb) ?_
    refine ze_aload (pc := 185) dL_law_185 rfl ?_
    refine ze_iload (pc := 187) dL_law_187 rfl ?_
    refine ze_aldGS (pc := 189) (b) dL_law_189 (by repeat (first | assumption | exact hset_eq _ _ _ | rw [hset_ne _ _ (by omega)])) (by rfl) (by omega) (by first | decide | omega) (by exact if_pos hb) ?_
    refine ze_iload (pc := 190) dL_law_190 rfl ?_
    refine ze_ialdN (pc := 192) (a) dL_law_192 (by repeat (first | assumption | exact hset_eq _ _ _ | rw [hset_ne _ _ (by omega)])) (by rfl) (by omega) (by first | decide | omega) ?_
    refine ze_top (gb2 a ha) ?_
    refine zn_icmp_eq (pc := 193) (tgt := 204) dL_law_193 (by decide) (by omega) (by omega) (fun q => ?_) (fun q => ?_)
    · rw [tI_c (show Cm X a b ↔ Cm X a (b + 1) from ⟨fun z => (Cm.up ha hb).mp ⟨z, q⟩, fun z => ((Cm.up ha hb).mpr z).1⟩)]
      exact go h2 ⟨n1, gi, n2, n3, n4.trans (tI_c ⟨fun z => FlC.up.mp ⟨z, q⟩, fun z => (FlC.up.mpr z).1⟩)⟩
    · refine zn_iconst (pc := 196) 0 dL_law_196 (by decide) ?_
      refine ze_top (tI_f (P := Cm X a (b + 1)) (fun z => q ((Cm.up ha hb).mpr z).2)).symm ?_
      refine ze_istore (pc := 197) dL_law_197 (by decide) ?_
      refine ze_aload (pc := 199) dL_law_199 rfl ?_
      refine zn_iconst (pc := 201) 3 dL_law_201 (by decide) ?_
      refine zn_iconst (pc := 202) 0 dL_law_202 (by decide) ?_
      refine ze_top (tI_f (P := FlC X a (b + 1)) (fun z => q (FlC.up.mpr z).2)).symm ?_
      refine ze_zastN (pc := 203) 3 dL_law_203 n2 rfl (by omega) (by decide) ?_
      rw [tI_nar]
      refine go _ ⟨fun q hq => (hset_ne _ _ hq).trans (n1 q hq), _, hset_eq _ _ _, fun u hu => ?_, rfl⟩
      match u, hu with
      | 0, _ => exact n3 0 (by omega)
      | 1, _ => exact n3 1 (by omega)
      | 2, _ => exact n3 2 (by omega)
/-- how many elements are in the nuclei, k of them counted to a -/
def Ng (X : Wd) (g : Nat → Int32) (k a : Nat) : Prop := (∀ u, u < 3 → g u = nI (cn (if u < k then a + 1 else a) (fun x => bl (Joins X u x)))) ∧ g 3 = nI (cn a (fun x => bl (InC X x)))
theorem cn_s (a : Nat) (P : Nat → Prop) : cn (a + 1) (fun x => bl (P x)) = cn a (fun x => bl (P x)) + if bl (P a) = true then 1 else 0 := rfl
theorem l_nu_k {gi : Nat → Int32} (hgi : ∀ u, u < 3 → gi u = tI (Joins X u a)) (hni : nb ≠ ib)
    (kk : ∀ h2 g, (∀ q, q ≠ nb → h2 q = h q) → h2 nb = some (aI 4 g) → Ng X g 3 a → VS ro ML_law Post (z, c, s) h2 399 [some (.ref sb), some (.ref o), some (.int (nI r)), some (.ref w), some (.int (nI (X.1 ^ X.2.1))), some (.ref tb), some (v6), some (v7), some (.ref nb), some (.int (nI a)), some (.ref ib), none, none, none, none, none, none] []) (hi : h ib = some (aZ 4 gi)) :
    ∀ (m k : Nat), m = 3 - k → k ≤ 3 → ∀ h2 g, (∀ q, q ≠ nb → h2 q = h q) → h2 nb = some (aI 4 g) → Ng X g k a → VS ro ML_law Post (z, c, s) h2 370 [some (.ref sb), some (.ref o), some (.int (nI r)), some (.ref w), some (.int (nI (X.1 ^ X.2.1))), some (.ref tb), some (v6), some (v7), some (.ref nb), some (.int (nI a)), some (.ref ib), some (.int (nI k)), none, none, none, none, none] [] := by
  intro m
  induction m with
  | zero =>
    intro k e1 e2 h2 g he hg hN
    have : k = 3 := by omega
    subst this
    refine ze_iload (pc := 370) dL_law_370 rfl ?_
    refine zn_iconst (pc := 372) 3 dL_law_372 (by decide) ?_
    refine zn_icmp_ge (pc := 373) (tgt := 399) dL_law_373 (by decide) (by omega) (by omega) (fun cc => ?_) (fun c => absurd c (by omega))
    refine VS.mask [true, true, true, true, true, true, true, true, true, true, true, false, false, false, false, false, false] ?_
    exact kk h2 g he hg hN
  | succ m ih =>
    intro k e1 e2 h2 g he hg hN
    have hi2 : h2 ib = some (aZ 4 gi) := (he ib (fun z => hni z.symm)).trans hi
    have hgk := hN.1 k (by omega)
    rw [if_neg (by omega)] at hgk
    refine ze_iload (pc := 370) dL_law_370 rfl ?_
    refine zn_iconst (pc := 372) 3 dL_law_372 (by decide) ?_
    refine zn_icmp_ge (pc := 373) (tgt := 399) dL_law_373 (by decide) (by omega) (by omega) (fun c => absurd c (by omega)) (fun cc => ?_)
    refine ze_aload (pc := 376) dL_law_376 rfl ?_
    refine ze_iload (pc := 378) dL_law_378 rfl ?_
    refine ze_zaldN (pc := 380) (k) dL_law_380 (by repeat (first | assumption | exact hset_eq _ _ _ | rw [hset_ne _ _ (by omega)])) (by rfl) (by omega) (by first | decide | omega) ?_
    by_cases hP : Joins X k a
    · refine ze_top ((hgi k (by omega)).trans (tI_t hP)) ?_
      refine zn_if_eq (pc := 381) (tgt := 393) dL_law_381 (by decide) (by omega) (fun q => absurd q (by omega)) (fun _ => ?_)
      refine ze_aload (pc := 384) dL_law_384 rfl ?_
      refine ze_iload (pc := 386) dL_law_386 rfl ?_
      refine ze_dup2 (pc := 388) dL_law_388 rfl rfl ?_
      refine ze_ialdN (pc := 389) (k) dL_law_389 (by repeat (first | assumption | exact hset_eq _ _ _ | rw [hset_ne _ _ (by omega)])) (by rfl) (by omega) (by first | decide | omega) ?_
      refine ze_top hgk ?_
      refine zn_iconst (pc := 390) 1 dL_law_390 (by decide) ?_
      refine zn_iadd (pc := 391) dL_law_391 ?_
      refine ze_iastN (pc := 392) (k) dL_law_392 (by repeat (first | assumption | exact hset_eq _ _ _ | rw [hset_ne _ _ (by omega)])) (by rfl) (by omega) (by first | decide | omega) ?_
      refine zn_inc (pc := 393) dL_law_393 rfl (by decide) ?_
      refine ze_goto (pc := 396) (tgt := 370) dL_law_396 (by decide) ?_
      refine ih (k + 1) (by omega) (by omega) _ _ (fun q hq => (hset_ne _ _ hq).trans (he q hq)) (hset_eq _ _ _) ⟨fun u hu => ?_, ?_⟩
      · unfold upd
        by_cases e : u = k
        · rw [if_pos e, if_pos (by omega), e, cn_s, if_pos (bl_t hP)]
        · rw [if_neg e, hN.1 u hu]
          by_cases e2 : u < k
          · rw [if_pos e2, if_pos (by omega)]
          · rw [if_neg e2, if_neg (by omega)]
      · unfold upd
        rw [if_neg (by omega)]
        exact hN.2
    · refine ze_top ((hgi k (by omega)).trans (tI_f hP)) ?_
      refine zn_if_eq (pc := 381) (tgt := 393) dL_law_381 (by decide) (by omega) (fun _ => ?_) (fun q => absurd rfl q)
      refine zn_inc (pc := 393) dL_law_393 rfl (by decide) ?_
      refine ze_goto (pc := 396) (tgt := 370) dL_law_396 (by decide) ?_
      refine ih (k + 1) (by omega) (by omega) _ _ he hg ⟨fun u hu => ?_, hN.2⟩
      by_cases e : u = k
      · rw [if_pos (by omega), e, hgk, cn_s, if_neg (by rw [bl_f hP]; decide), Nat.add_zero]
      · rw [hN.1 u hu]
        by_cases e2 : u < k
        · rw [if_pos e2, if_pos (by omega)]
        · rw [if_neg e2, if_neg (by omega)]
theorem l_nu_a (hR : Rt h o w tb nb X) (hk : Wok X) (hq : X.1 ^ X.2.1 ≤ 27) (hc : c + 30 ≤ 600000) (hs : s + 200 ≤ 7302250)
    (kk : ∀ z2 h2 g, nb < z2 → (∀ q, q < nb → h2 q = h q) → h2 nb = some (aI 4 g) → Ng X g 0 (X.1 ^ X.2.1) → VS ro ML_law Post (z2, c + 30, s + 200) h2 441 [some (.ref sb), some (.ref o), some (.int (nI r)), some (.ref w), some (.int (nI (X.1 ^ X.2.1))), some (.ref tb), some (.int (tI (Wcom X))), some (.int (nI (cn (X.1 ^ X.2.1) (fun x => decide (mul X x x = x))))), some (.ref nb), none, none, none, none, none, none, none, none] []) :
    ∀ (m a : Nat), m = X.1 ^ X.2.1 - a → a ≤ X.1 ^ X.2.1 → ∀ z h2 g, nb < z → (∀ q, q < nb → h2 q = h q) → h2 nb = some (aI 4 g) → Ng X g 0 a → VS ro ML_law Post (z, c + a, s + 4 * a) h2 123 [some (.ref sb), some (.ref o), some (.int (nI r)), some (.ref w), some (.int (nI (X.1 ^ X.2.1))), some (.ref tb), some (.int (tI (Cm X a 0))), some (.int (nI (cn a (fun x => decide (mul X x x = x))))), some (.ref nb), some (.int (nI a)), none, none, none, none, none, none, none] [] := by
  intro m
  induction m with
  | zero =>
    intro a e1 e2 z h2 g hz he hg hN
    have : a = X.1 ^ X.2.1 := by omega
    subst this
    rw [tI_c (Cm.all hk)]
    refine ze_iload (pc := 123) dL_law_123 rfl ?_
    refine ze_iload (pc := 125) dL_law_125 rfl ?_
    refine zn_icmp_ge (pc := 127) (tgt := 441) dL_law_127 (by decide) (by omega) (by omega) (fun cc => ?_) (fun c => absurd c (by omega))
    refine VS.mask [true, true, true, true, true, true, true, true, true, false, false, false, false, false, false, false, false] ?_
    refine VS.widen (c2 := c + 30) (s2 := s + 200) (by first | (dsimp only; omega) | dsimp only) (by first | (dsimp only; omega) | dsimp only) ?_
    exact kk z h2 g hz he hg hN
  | succ m ih =>
    intro a e1 e2 z h2 g hz he hg hN
    have ha : a < X.1 ^ X.2.1 := by omega
    have hR2 : Rt h2 o w tb nb X := hR.kept (Nat.le_refl _) (fun q _ q2 => he q q2)
    obtain ⟨-, ⟨t1, t2⟩, -⟩ := id hR2
    obtain ⟨ga, ga1, ga2⟩ := t2 _ ha
    have m1 := mul_lt hk a a
    have go : VS ro ML_law Post (z, c + a, s + 4 * a) h2 146 [some (.ref sb), some (.ref o), some (.int (nI r)), some (.ref w), some (.int (nI (X.1 ^ X.2.1))), some (.ref tb), some (.int (tI (Cm X a 0))), some (.int (nI (cn (a + 1) (fun x => decide (mul X x x = x))))), some (.ref nb), some (.int (nI a)), none, none, none, none, none, none, none] [] := by
      refine zn_iconst (pc := 146) 4 dL_law_146 (by decide) ?_
      refine ze_newZ (pc := 147) dL_law_147 rfl (by omega) ⟨by show c + a + 1 ≤ 600000; omega, by show s + 4 * a + 4 ≤ 7302250; omega⟩ ?_
      dsimp only
      refine ze_dup (pc := 149) dL_law_149 rfl ?_
      refine zn_iconst (pc := 150) 0 dL_law_150 (by decide) ?_
      refine zn_iconst (pc := 151) 1 dL_law_151 (by decide) ?_
      refine ze_zastN (pc := 152) (0) dL_law_152 (by repeat (first | assumption | exact hset_eq _ _ _ | rw [hset_ne _ _ (by omega)])) (by rfl) (by omega) (by first | decide | omega) ?_
      refine ze_dup (pc := 153) dL_law_153 rfl ?_
      refine zn_iconst (pc := 154) 1 dL_law_154 (by decide) ?_
      refine zn_iconst (pc := 155) 1 dL_law_155 (by decide) ?_
      refine ze_zastN (pc := 156) (1) dL_law_156 (by repeat (first | assumption | exact hset_eq _ _ _ | rw [hset_ne _ _ (by omega)])) (by rfl) (by omega) (by first | decide | omega) ?_
      refine ze_dup (pc := 157) dL_law_157 rfl ?_
      refine zn_iconst (pc := 158) 2 dL_law_158 (by decide) ?_
      refine zn_iconst (pc := 159) 1 dL_law_159 (by decide) ?_
      refine ze_zastN (pc := 160) (2) dL_law_160 (by repeat (first | assumption | exact hset_eq _ _ _ | rw [hset_ne _ _ (by omega)])) (by rfl) (by omega) (by first | decide | omega) ?_
      refine ze_dup (pc := 161) dL_law_161 rfl ?_
      refine zn_iconst (pc := 162) 3 dL_law_162 (by decide) ?_
      refine zn_iconst (pc := 163) 1 dL_law_163 (by decide) ?_
      refine ze_zastN (pc := 164) (3) dL_law_164 (by repeat (first | assumption | exact hset_eq _ _ _ | rw [hset_ne _ _ (by omega)])) (by rfl) (by omega) (by first | decide | omega) ?_
      refine ze_astore (pc := 165) dL_law_165 (by decide) ?_
      refine zn_iconst (pc := 167) 0 dL_law_167 (by decide) ?_
      refine ze_istore (pc := 168) dL_law_168 (by decide) ?_
      refine l_nu_b (h := hset (hset (hset (hset (hset h2 z (aZ 4 (fun _ => 0))) z (aZ 4 (upd (fun _ => 0) 0 (vp_nar .boolean (nI 1))))) z (aZ 4 (upd (upd (fun _ => 0) 0 (vp_nar .boolean (nI 1))) 1 (vp_nar .boolean (nI 1))))) z (aZ 4 (upd (upd (upd (fun _ => 0) 0 (vp_nar .boolean (nI 1))) 1 (vp_nar .boolean (nI 1))) 2 (vp_nar .boolean (nI 1))))) z (aZ 4 (upd (upd (upd (upd (fun _ => 0) 0 (vp_nar .boolean (nI 1))) 1 (vp_nar .boolean (nI 1))) 2 (vp_nar .boolean (nI 1))) 3 (vp_nar .boolean (nI 1))))) (z0 := nb) (hR2.kept (Nat.le_refl _) (fun q _ q2 => by rw [hset_ne _ _ (by omega), hset_ne _ _ (by omega), hset_ne _ _ (by omega), hset_ne _ _ (by omega), hset_ne _ _ (by omega)])) (by omega) hk hq ha (fun h3 hN3 => ?_) (X.1 ^ X.2.1) 0 (by omega) (by omega) _ ⟨fun _ _ => rfl, _, hset_eq _ _ _, fun u hu => ?_, ?_⟩
      · obtain ⟨n1, gi, n2, n3, n4⟩ := hN3
        have e3 : ∀ q, q ≠ z → h3 q = h2 q := fun q hq2 => by rw [n1 q hq2, hset_ne _ _ hq2, hset_ne _ _ hq2, hset_ne _ _ hq2, hset_ne _ _ hq2, hset_ne _ _ hq2]
        refine zn_iconst (pc := 367) 0 dL_law_367 (by decide) ?_
        refine ze_istore (pc := 368) dL_law_368 (by decide) ?_
        refine l_nu_k (h := h3) (gi := gi) (fun u hu => (n3 u hu).trans (tI_c (FlJ.all hk))) (show nb ≠ z by omega) (fun h4 g4 he4 hg4 hN4 => ?_) n2 3 0 (by omega) (by omega) h3 g (fun _ _ => rfl) ((e3 nb (by omega)).trans hg) hN
        have i4 : h4 z = some (aZ 4 gi) := (he4 z (by omega)).trans n2
        have j0 := (n3 0 (by omega)).trans (tI_c (FlJ.all hk))
        have j1 := (n3 1 (by omega)).trans (tI_c (FlJ.all hk))
        have j2 := (n3 2 (by omega)).trans (tI_c (FlJ.all hk))
        have j3 := n4.trans (tI_c (FlC.all hk))
        have fe : ∀ h5 : AH, (∀ q, q ≠ nb → h5 q = h4 q) → ∀ q, q < nb → h5 q = h q := fun h5 q5 q hq => by rw [q5 q (by omega), he4 q (by omega), e3 q (by omega), he q hq]
        have no : ¬ InC X a → VS ro ML_law Post (z + 1, c + a + 1, s + 4 * a + 4) h4 435 [some (.ref sb), some (.ref o), some (.int (nI r)), some (.ref w), some (.int (nI (X.1 ^ X.2.1))), some (.ref tb), some (.int (tI (Cm X (a + 1) 0))), some (.int (nI (cn (a + 1) (fun x => decide (mul X x x = x))))), some (.ref nb), some (.int (nI a)), none, none, none, none, none, none, none] [] := fun hnc => by
          refine zn_inc (pc := 435) dL_law_435 rfl (by decide) ?_
          refine ze_goto (pc := 438) (tgt := 123) dL_law_438 (by decide) ?_
          refine VS.widen (c2 := c + (a + 1)) (s2 := s + 4 * (a + 1)) (by first | (dsimp only; omega) | dsimp only) (by first | (dsimp only; omega) | dsimp only) ?_
          refine ih (a + 1) (by omega) (by omega) (z + 1) h4 g4 (by omega) (fe h4 (fun _ _ => rfl)) hg4 ⟨fun u hu => ?_, ?_⟩
          · rw [hN4.1 u hu, if_pos hu, if_neg (by omega)]
          · rw [hN4.2, cn_s, if_neg (by rw [bl_f hnc]; decide), Nat.add_zero]
        refine ze_aload (pc := 399) dL_law_399 rfl ?_
        refine zn_iconst (pc := 401) 0 dL_law_401 (by decide) ?_
        refine ze_zaldN (pc := 402) (0) dL_law_402 (by repeat (first | assumption | exact hset_eq _ _ _ | rw [hset_ne _ _ (by omega)])) (by rfl) (by omega) (by first | decide | omega) ?_
        by_cases p0 : Joins X 0 a
        · refine ze_top (j0.trans (tI_t p0)) ?_
          refine zn_if_eq (pc := 403) (tgt := 435) dL_law_403 (by decide) (by omega) (fun q => absurd q (by omega)) (fun _ => ?_)
          refine ze_aload (pc := 406) dL_law_406 rfl ?_
          refine zn_iconst (pc := 408) 1 dL_law_408 (by decide) ?_
          refine ze_zaldN (pc := 409) (1) dL_law_409 (by repeat (first | assumption | exact hset_eq _ _ _ | rw [hset_ne _ _ (by omega)])) (by rfl) (by omega) (by first | decide | omega) ?_
          by_cases p1 : Joins X 1 a
          · refine ze_top (j1.trans (tI_t p1)) ?_
            refine zn_if_eq (pc := 410) (tgt := 435) dL_law_410 (by decide) (by omega) (fun q => absurd q (by omega)) (fun _ => ?_)
            refine ze_aload (pc := 413) dL_law_413 rfl ?_
            refine zn_iconst (pc := 415) 2 dL_law_415 (by decide) ?_
            refine ze_zaldN (pc := 416) (2) dL_law_416 (by repeat (first | assumption | exact hset_eq _ _ _ | rw [hset_ne _ _ (by omega)])) (by rfl) (by omega) (by first | decide | omega) ?_
            by_cases p2 : Joins X 2 a
            · refine ze_top (j2.trans (tI_t p2)) ?_
              refine zn_if_eq (pc := 417) (tgt := 435) dL_law_417 (by decide) (by omega) (fun q => absurd q (by omega)) (fun _ => ?_)
              refine ze_aload (pc := 420) dL_law_420 rfl ?_
              refine zn_iconst (pc := 422) 3 dL_law_422 (by decide) ?_
              refine ze_zaldN (pc := 423) (3) dL_law_423 (by repeat (first | assumption | exact hset_eq _ _ _ | rw [hset_ne _ _ (by omega)])) (by rfl) (by omega) (by first | decide | omega) ?_
              by_cases p3 : Comm X a
              · refine ze_top (j3.trans (tI_t p3)) ?_
                refine zn_if_eq (pc := 424) (tgt := 435) dL_law_424 (by decide) (by omega) (fun q => absurd q (by omega)) (fun _ => ?_)
                refine ze_aload (pc := 427) dL_law_427 rfl ?_
                refine zn_iconst (pc := 429) 3 dL_law_429 (by decide) ?_
                refine ze_dup2 (pc := 430) dL_law_430 rfl rfl ?_
                refine ze_ialdN (pc := 431) (3) dL_law_431 (by repeat (first | assumption | exact hset_eq _ _ _ | rw [hset_ne _ _ (by omega)])) (by rfl) (by omega) (by first | decide | omega) ?_
                refine ze_top hN4.2 ?_
                refine zn_iconst (pc := 432) 1 dL_law_432 (by decide) ?_
                refine zn_iadd (pc := 433) dL_law_433 ?_
                refine ze_iastN (pc := 434) (3) dL_law_434 (by repeat (first | assumption | exact hset_eq _ _ _ | rw [hset_ne _ _ (by omega)])) (by rfl) (by omega) (by first | decide | omega) ?_
                refine zn_inc (pc := 435) dL_law_435 rfl (by decide) ?_
                refine ze_goto (pc := 438) (tgt := 123) dL_law_438 (by decide) ?_
                refine VS.widen (c2 := c + (a + 1)) (s2 := s + 4 * (a + 1)) (by first | (dsimp only; omega) | dsimp only) (by first | (dsimp only; omega) | dsimp only) ?_
                refine VS.mask [true, true, true, true, true, true, true, true, true, true, false, false, false, false, false, false, false] ?_
                refine ih (a + 1) (by omega) (by omega) (z + 1) _ _ (by omega) (fe _ (fun q hq => hset_ne _ _ hq)) (hset_eq _ _ _) ⟨fun u hu => ?_, ?_⟩
                · unfold upd
                  rw [if_neg (by omega), hN4.1 u hu, if_pos hu, if_neg (by omega)]
                · unfold upd
                  rw [if_pos rfl, cn_s, if_pos (bl_t (show InC X a from ⟨p0, p1, p2, p3⟩))]
              · refine ze_top (j3.trans (tI_f p3)) ?_
                refine zn_if_eq (pc := 424) (tgt := 435) dL_law_424 (by decide) (by omega) (fun _ => ?_) (fun q => absurd rfl q)
                refine VS.mask [true, true, true, true, true, true, true, true, true, true, false, false, false, false, false, false, false] ?_
                exact no (fun q => p3 q.2.2.2)
            · refine ze_top (j2.trans (tI_f p2)) ?_
              refine zn_if_eq (pc := 417) (tgt := 435) dL_law_417 (by decide) (by omega) (fun _ => ?_) (fun q => absurd rfl q)
              refine VS.mask [true, true, true, true, true, true, true, true, true, true, false, false, false, false, false, false, false] ?_
              exact no (fun q => p2 q.2.2.1)
          · refine ze_top (j1.trans (tI_f p1)) ?_
            refine zn_if_eq (pc := 410) (tgt := 435) dL_law_410 (by decide) (by omega) (fun _ => ?_) (fun q => absurd rfl q)
            refine VS.mask [true, true, true, true, true, true, true, true, true, true, false, false, false, false, false, false, false] ?_
            exact no (fun q => p1 q.2.1)
        · refine ze_top (j0.trans (tI_f p0)) ?_
          refine zn_if_eq (pc := 403) (tgt := 435) dL_law_403 (by decide) (by omega) (fun _ => ?_) (fun q => absurd rfl q)
          refine VS.mask [true, true, true, true, true, true, true, true, true, true, false, false, false, false, false, false, false] ?_
          exact no (fun q => p0 q.1)
      · rw [tI_t (show FlJ X u a 0 0 from fun u v _ _ e => absurd e (by omega))]
        match u, hu with
        | 0, _ => rfl
        | 1, _ => rfl
        | 2, _ => rfl
      · rw [tI_t (show FlC X a 0 from fun u hu => absurd hu (by omega))]
        rfl
    refine ze_iload (pc := 123) dL_law_123 rfl ?_
    refine ze_iload (pc := 125) dL_law_125 rfl ?_
    refine zn_icmp_ge (pc := 127) (tgt := 441) dL_law_127 (by decide) (by omega) (by omega) (fun c => absurd c (by omega)) (fun cc => ?_)
    refine ze_aload (pc := 130) dL_law_130 rfl ?_
    refine ze_iload (pc := 132) dL_law_132 rfl ?_
    refine ze_aldGS (pc := 134) (a) dL_law_134 (by repeat (first | assumption | exact hset_eq _ _ _ | rw [hset_ne _ _ (by omega)])) (by rfl) (by omega) (by first | decide | omega) (by exact if_pos ha) ?_
    refine ze_iload (pc := 135) dL_law_135 rfl ?_
    refine ze_ialdN (pc := 137) (a) dL_law_137 (by repeat (first | assumption | exact hset_eq _ _ _ | rw [hset_ne _ _ (by omega)])) (by rfl) (by omega) (by first | decide | omega) ?_
    refine ze_top (ga2 a ha) ?_
    refine ze_iload (pc := 138) dL_law_138 rfl ?_
    refine zn_icmp_ne (pc := 140) (tgt := 146) dL_law_140 (by decide) (by omega) (by omega) (fun q => ?_) (fun q => ?_)
    · have e : cn (a + 1) (fun x => decide (mul X x x = x)) = cn a (fun x => decide (mul X x x = x)) := by
        show cn a _ + (if decide (mul X a a = a) = true then 1 else 0) = _
        rw [if_neg (by rw [decide_eq_false q]; decide), Nat.add_zero]
      rw [← e]
      exact go
    · refine zn_inc (pc := 143) dL_law_143 rfl (by decide) ?_
      have e : cn (a + 1) (fun x => decide (mul X x x = x)) = cn a (fun x => decide (mul X x x = x)) + 1 := by
        show cn a _ + (if decide (mul X a a = a) = true then 1 else 0) = _
        rw [if_pos (decide_eq_true q)]
      rw [e] at go
      exact go
end LX
