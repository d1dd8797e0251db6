/-! ===== references stored in rows of references ===== -/
section R2
variable {M : MI} {Post : Option Value → AH → Nat → Prop} {al : Nat × Nat × Nat} {h : AH} {pc : Nat} {ls : List (Option Value)} {st : List Value}
theorem e_aastQ {a n v : Nat} {fs : List Value} {f : Nat → Option Nat} {i : Int32} (j : Nat) (hd : decode (MI.cc M) pc = .ok (.aastore, 1)) (hh : h a = some (aQ n f)) (hv : h v = some (ob 8 fs)) (hi : i = nI j) (hj : j < n) (hn : n < 2 ^ 31)
    (k : V M Post al (hset h a (aQ n (va_up f j (some v)))) (pc + 1) ls st) : V M Post al h pc ls (.ref v :: .int i :: .ref a :: st) := by
  subst hi
  intro G p l e R s m args below meth c Q A H locs lsA hX hF hA hK hT hP hz hd2 hS hl
  have ha : A a := hd2 a (by rw [hh]; exact fun z => by cases z)
  have hin : vp_in (nI j) n := vp_in_nI hj hn
  obtain ⟨r', hr', cellV, g1, g2, g3, -⟩ := hP v _ hv
  have hcls := (hK.1.1 8 _ rfl).2
  obtain ⟨kA, comp, k1, k2, k3, -⟩ := (hK.1.2 3 _ rfl).2
  have hcomp : comp = G.1.1 8 := Option.some.inj (k3.symm.trans hcls.1)
  subst hcomp
  obtain ⟨kC, hkC, -⟩ := hcls.2
  refine W.aast hX.1 hX.2.1 (hP a _ hh) (fun q h => by cases h) (fun h => by cases h) k1 k2 rfl hkC ⟨fun q => hin (Or.inl q), by show _ < (arrV _ _ _).slots.size; rw [arrV_size]; exact Nat.not_le.mp fun q => hin (Or.inr q)⟩ g1 (fun q h => by rw [g3] at h; cases h) (by rw [g2]; exact hkC) (by rw [g2]; exact va_assign hcls) rfl rfl hd fun H1 e1 z oq => ?_
  refine k G p l e R s m args below meth c Q A H1 _ lsA hX hF hA hK hT (hP.put ?_ oq) (z.trans hz) (en_dom hd2 ha) (hS.put z oq ha) hl
  show H1[a]? = some (vp_cell _ _)
  rw [e1]
  show some ((vp_cell _ (n, .inr (.inr (.inr (.inr f))))).setSlot _ _) = some (vp_cell _ (n, .inr (.inr (.inr (.inr _)))))
  rw [nI_clamp (by omega), vp_cell_q, vp_cell_q, arrV_store]
  congr 2
  funext q
  by_cases hq : q = j
  · subst hq
    simp [updV, va_up, va_rf]
  · simp [updV, va_up, hq]
theorem e_aastG {a n v n2 : Nat} {g : Nat → Int32} {f : Nat → Option Nat} {i : Int32} (j : Nat) (hd : decode (MI.cc M) pc = .ok (.aastore, 1)) (hh : h a = some (aG n f)) (hv : h v = some (aI n2 g)) (hi : i = nI j) (hj : j < n) (hn : n < 2 ^ 31)
    (k : V M Post al (hset h a (aG n (va_up f j (some v)))) (pc + 1) ls st) : V M Post al h pc ls (.ref v :: .int i :: .ref a :: st) := by
  subst hi
  intro G p l e R s m args below meth c Q A H locs lsA hX hF hA hK hT hP hz hd2 hS hl
  have ha : A a := hd2 a (by rw [hh]; exact fun z => by cases z)
  have hin : vp_in (nI j) n := vp_in_nI hj hn
  have g1 := hP v _ hv
  obtain ⟨comp, c0, kA, h1, h2, h3, h4, h5⟩ := arrayOverA_spec hK.2.2.2.2.1
  have hc2 : c0 = G.2.1 2 := Option.some.inj (h5.symm.trans (hK.1.2 2 _ rfl).2)
  have hc0 : comp = G.2.1 0 := Option.some.inj (h1.symm.trans (hK.1.2 0 _ rfl).2)
  subst hc2
  subst hc0
  obtain ⟨_, kC, hkC, _⟩ := (hK.1.2 0 _ rfl).1 n2 (fun j => .int (g j))
  refine W.aast hX.1 hX.2.1 (hP a _ hh) (fun q h => by cases h) (fun h => by cases h) h3 h4 rfl hkC ⟨fun q => hin (Or.inl q), by show _ < (arrV _ _ _).slots.size; rw [arrV_size]; exact Nat.not_le.mp fun q => hin (Or.inr q)⟩ g1 (fun q h => by cases h) hkC (by show Vm.assignableAux s.vm (255 + 1) _ _ = true; rw [Vm.assignableAux]; show (G.2.1 0 == G.2.1 0 || _) = true; rw [beq_self_eq_true]; exact Bool.true_or _) rfl rfl hd fun H1 e1 z oq => ?_
  refine k G p l e R s m args below meth c Q A H1 _ lsA hX hF hA hK hT (hP.put ?_ oq) (z.trans hz) (en_dom hd2 ha) (hS.put z oq ha) hl
  show H1[a]? = some (vp_cell _ _)
  rw [e1]
  show some ((vp_cell _ (n, .inr (.inr (.inr (.inr f))))).setSlot _ _) = some (vp_cell _ (n, .inr (.inr (.inr (.inr _)))))
  rw [nI_clamp (by omega), vp_cell_q, vp_cell_q, arrV_store]
  congr 2
  funext q
  by_cases hq : q = j
  · subst hq
    simp [updV, va_up, va_rf]
  · simp [updV, va_up, hq]
end R2
