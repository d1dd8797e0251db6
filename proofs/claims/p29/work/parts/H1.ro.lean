/-! ===== the cells that nobody writes ===== -/
/-- an array has one type, one length, one content -/
theorem vaT_ty {ty ty2 : FieldType} {a n n2 : Nat} {f f2 : Nat → Value} {A : Nat → Prop} {U : State} {H : Heap} (h : va_T ty a n f A U H) (h2 : va_T ty2 a n2 f2 A U H) : ty = ty2 := by
  obtain ⟨c, c1, ⟨-, k, k1, comp, k2⟩, -⟩ := h
  obtain ⟨d, d1, ⟨-, j, j1, comp2, j2⟩, -⟩ := h2
  have e := Option.some.inj (c1.symm.trans d1)
  subst e
  have e := Option.some.inj (k1.symm.trans j1)
  subst e
  rw [k2] at j2
  injection j2
theorem vaT_uni {ty : FieldType} {a n n2 : Nat} {f f2 : Nat → Value} {A : Nat → Prop} {U : State} {H : Heap} (hn : n < 2 ^ 31) (hn2 : n2 < 2 ^ 31) (h : va_T ty a n f A U H) (h2 : va_T ty a n2 f2 A U H) : n = n2 ∧ ∀ j, j < n → f j = f2 j := by
  obtain ⟨c, c1, -, -, -, c5, c6, -⟩ := h
  obtain ⟨d, d1, -, -, -, d5, d6, -⟩ := h2
  have e := Option.some.inj (c1.symm.trans d1)
  subst e
  have en : n = n2 := (nI_eq hn hn2).mp (c5.symm.trans d5)
  subst en
  exact ⟨rfl, fun j hj => Option.some.inj ((c6 j hj).symm.trans (d6 j hj))⟩
theorem vaT_O {ty : FieldType} {E : String} {a n : Nat} {f : Nat → Value} {A : Nat → Prop} {U : State} {H : Heap} {c : ClassId} {k : Class} (hc : U.vm.findClass E = some c) (hk : U.vm.classes[c]? = some k) (hkind : k.kind = .ordinary) (h : va_T ty a n f A U H) (h2 : va_O E a A U H) : False := by
  obtain ⟨cell, c1, ⟨-, j, j1, comp, j2⟩, -⟩ := h
  obtain ⟨cell2, d1, -, d3, -⟩ := h2
  have e := Option.some.inj (c1.symm.trans d1)
  subst e
  have e := Option.some.inj (hc.symm.trans d3)
  subst e
  have e := Option.some.inj (hk.symm.trans j1)
  subst e
  rw [hkind] at j2
  cases j2
noncomputable def kx (P : Nat → Prop) : Nat := Classical.epsilon P
theorem kx_ok {P : Nat → Prop} {i : Nat} (h : P i) : P (kx P) := Classical.epsilon_spec ⟨i, h⟩
noncomputable def ro1 (b L : Nat) (xs : Nat → Int32) (adK adV : Nat → Nat) (t1 t2 : Nat) : AH := fun a =>
  if a = b then some (aI L xs)
  else if bl (∃ i, i < 8 ∧ adK i = a) = true then some (ob 11 [.ref (adV (kx (fun i => i < 8 ∧ adK i = a))), .int 0])
  else if bl (∃ i, i < 8 ∧ adV i = a) = true then some (aB (ln8.getD (kx (fun i => i < 8 ∧ adV i = a)) 0) (fun j => (by8.getD (kx (fun i => i < 8 ∧ adV i = a)) []).getD j 0))
  else if a = t1 then some (aB 100 (fun j => nI (48 + j % 10)))
  else if a = t2 then some (aB 100 (fun j => nI (48 + j / 10)))
  else none
def ro2 (adK : Nat → Nat) (t1 t2 : Nat) : Nat → Nat := fun i => if i < 8 then adK i else if i = 8 then t1 else t2
theorem l_ro {G : en_G} {A : Nat → Prop} {s : State} {b L : Nat} {xs : Nat → Int32} {adK adV : Nat → Nat} {t1 t2 : Nat} {c : ClassId} {k : Class} (hL : L ≤ 260) (hc : s.vm.findClass "java/lang/String" = some c) (hk : s.vm.classes[c]? = some k) (hkind : k.kind = .ordinary)
    (hb : va_T .int b L (fun j => .int (xs j)) A s s.heap) (hS : vk_S 8 ln8 by8 adK adV A s s.heap) (h1 : va_T .byte t1 100 (fun j => .int (Int32.ofNat (48 + j % 10))) A s s.heap) (h2 : va_T .byte t2 100 (fun j => .int (Int32.ofNat (48 + j / 10))) A s s.heap) :
    (∀ a x, ro1 b L xs adK adV t1 t2 a = some x → ro_at G a x A s s.heap) ∧ LTx (ro1 b L xs adK adV t1 t2, ro2 adK t1 t2) ∧ DT (ro1 b L xs adK adV t1 t2, ro2 adK t1 t2) ∧ ro1 b L xs adK adV t1 t2 b = some (aI L xs) := by
  obtain ⟨hS1, hS2⟩ := hS
  have nT : ∀ {ty : FieldType} {a n : Nat} {f : Nat → Value} {i : Nat}, i < 8 → va_T ty a n f A s s.heap → adK i ≠ a := fun hi hT e => vaT_O hc hk hkind hT (by rw [← e]; exact (hS1 _ hi).1)
  have nV : ∀ {i : Nat}, i < 8 → va_T .byte (adV i) (ln8.getD i 0) (fun j => .int ((by8.getD i []).getD j 0)) A s s.heap := fun hi => (hS1 _ hi).2.2.2
  have bV : ∀ {i : Nat}, i < 8 → adV i ≠ b := fun hi e => by
    have := nV hi
    rw [e] at this
    cases vaT_ty this hb
  have len8 : ∀ i, i < 8 → ln8.getD i 0 < 8 := fun i hi => (by8_ok i hi).2.1
  have tV : ∀ {i a : Nat} {f : Nat → Value}, i < 8 → va_T .byte a 100 f A s s.heap → adV i ≠ a := fun hi hT e => by
    have hv := nV hi
    rw [e] at hv
    have := (vaT_uni (by have := len8 _ hi; omega) (by omega) hv hT).1
    have := len8 _ hi
    omega
  have b1 : t1 ≠ b := fun e => by rw [e] at h1; cases vaT_ty h1 hb
  have b2 : t2 ≠ b := fun e => by rw [e] at h2; cases vaT_ty h2 hb
  have b12 : t2 ≠ t1 := fun e => by
    rw [e] at h2
    have := (vaT_uni (by omega) (by omega) h1 h2).2 1 (by omega)
    have : (Value.int (Int32.ofNat 49)) = Value.int (Int32.ofNat 48) := this
    cases this
  refine ⟨fun a x h => ?_, fun i hi => ?_, ⟨⟨fun j => nI (48 + j % 10), ?_, fun j _ => rfl⟩, ⟨fun j => nI (48 + j / 10), ?_, fun j _ => rfl⟩⟩, if_pos rfl⟩
  · unfold ro1 at h
    by_cases q1 : a = b
    · rw [if_pos q1] at h
      cases h
      subst q1
      exact ⟨xs, .int, rfl, Or.inl ⟨rfl, rfl⟩, hb⟩
    rw [if_neg q1] at h
    by_cases q2 : ∃ i, i < 8 ∧ adK i = a
    · rw [if_pos (bl_t q2)] at h
      cases h
      obtain ⟨i, hi⟩ := q2
      obtain ⟨k1, k2⟩ := kx_ok (P := fun i => i < 8 ∧ adK i = a) hi
      obtain ⟨s1, s2, s3, -⟩ := hS1 _ k1
      rw [k2] at s1 s2 s3
      refine ⟨(RJ0, TJ0, 2), rfl, s1, fun j hj => ?_⟩
      match j, hj with
      | 0, _ => exact s3
      | 1, _ => exact s2
    rw [if_neg (by rw [bl_f q2]; decide)] at h
    by_cases q3 : ∃ i, i < 8 ∧ adV i = a
    · rw [if_pos (bl_t q3)] at h
      cases h
      obtain ⟨i, hi⟩ := q3
      obtain ⟨k1, k2⟩ := kx_ok (P := fun i => i < 8 ∧ adV i = a) hi
      have hv := nV k1
      rw [k2] at hv
      exact ⟨_, .byte, rfl, Or.inr ⟨rfl, rfl⟩, hv⟩
    rw [if_neg (by rw [bl_f q3]; decide)] at h
    by_cases q4 : a = t1
    · rw [if_pos q4] at h
      cases h
      subst q4
      exact ⟨_, .byte, rfl, Or.inr ⟨rfl, rfl⟩, h1⟩
    rw [if_neg q4] at h
    by_cases q5 : a = t2
    · rw [if_pos q5] at h
      cases h
      subst q5
      exact ⟨_, .byte, rfl, Or.inr ⟨rfl, rfl⟩, h2⟩
    rw [if_neg q5] at h
    cases h
  · obtain ⟨y1, y2, y3⟩ := by8_ok i hi
    obtain ⟨k1, k2⟩ := kx_ok (P := fun j => j < 8 ∧ adK j = adK i) ⟨hi, rfl⟩
    obtain ⟨m1, m2⟩ := kx_ok (P := fun j => j < 8 ∧ adV j = adV i) ⟨hi, rfl⟩
    have ei := hS2 _ _ k1 hi k2
    have hv := nV m1
    rw [m2] at hv
    obtain ⟨l1, l2⟩ := vaT_uni (by have := len8 _ m1; omega) (by omega) hv (nV hi)
    refine ⟨adV i, fun j => (by8.getD (kx (fun j => j < 8 ∧ adV j = adV i)) []).getD j 0, ?_, ?_, fun j hj => ?_⟩
    · show ro1 b L xs adK adV t1 t2 (ro2 adK t1 t2 i) = _
      rw [show ro2 adK t1 t2 i = adK i from if_pos hi]
      unfold ro1
      rw [if_neg (nT hi hb), if_pos (bl_t ⟨i, hi, rfl⟩), ei]
    · show ro1 b L xs adK adV t1 t2 (adV i) = _
      unfold ro1
      rw [if_neg (bV hi), if_neg (by rw [bl_f (fun ⟨j, j1, j2⟩ => nT j1 (nV hi) j2)]; decide), if_pos (bl_t ⟨i, hi, rfl⟩), l1, ← y1]
    · rw [y1] at hj
      have := l2 j (by rw [l1]; exact hj)
      obtain ⟨z1, z2⟩ := y3 j hj
      refine ⟨z2, ?_⟩
      rw [← z1]
      exact Value.int.inj this
  · show ro1 b L xs adK adV t1 t2 (ro2 adK t1 t2 8) = _
    rw [show ro2 adK t1 t2 8 = t1 from rfl]
    unfold ro1
    rw [if_neg b1, if_neg (by rw [bl_f (fun ⟨j, j1, j2⟩ => nT j1 h1 j2)]; decide), if_neg (by rw [bl_f (fun ⟨j, j1, j2⟩ => tV j1 h1 j2)]; decide), if_pos rfl]
  · show ro1 b L xs adK adV t1 t2 (ro2 adK t1 t2 9) = _
    rw [show ro2 adK t1 t2 9 = t2 from rfl]
    unfold ro1
    rw [if_neg b2, if_neg (by rw [bl_f (fun ⟨j, j1, j2⟩ => nT j1 h2 j2)]; decide), if_neg (by rw [bl_f (fun ⟨j, j1, j2⟩ => tV j1 h2 j2)]; decide), if_neg b12, if_pos rfl]
