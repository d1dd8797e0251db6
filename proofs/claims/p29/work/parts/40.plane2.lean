/-! ===== Plane: places, lines, meetings ===== -/
section MM
variable {M : MI} {Post : Option Value → AH → Nat → Prop} {al : Nat × Nat × Nat} {h : AH} {pc : Nat} {ls : List (Option Value)} {st : List Value}
theorem e_mmax {idx : Nat} {x y : Int32} (hlk : (Cond.methodLink (MI.own M) idx Lib.Math.max.name) ∈ lw_good) (hd : decode (MI.cc M) pc = .ok (.invokestatic idx, 3)) (hdp : 1 ≤ MI.dp M) (hst : (st.map fun v => v.category).sum ≤ 8) (hr : al.2.1 ≤ MI.mc M ∧ al.2.2 ≤ MI.ms M)
    (k : V M Post al h (pc + 3) ls (.int (if x < y then y else x) :: st)) : V M Post al h pc ls (.int y :: .int x :: st) := by
  intro G p l e R s m args below meth c Q A H locs lsA hX hF hA hK hT hP hz hd2 hS hl
  obtain ⟨hx, hb, hml, hown, hts, hR1, hR2, hR3, hR4, -⟩ := id hX
  have hls : lsA.size = MI.nL M := hl.choose_spec.1.1
  exact va_mmax hx hb (by rw [hml, ← hls]) hown (hts _ hlk) (hts _ q_st_J9_max_7cf53) (hts _ q_in_J9) (hts _ q_c_J9_max_7cf53) (by omega) (by omega) (by omega) (by omega) hd (k G p l e R s m args below meth c Q A H locs lsA hX hF hA hK hT hP hz hd2 hS hl)
theorem e_mmin {idx : Nat} {x y : Int32} (hlk : (Cond.methodLink (MI.own M) idx Lib.Math.min.name) ∈ lw_good) (hd : decode (MI.cc M) pc = .ok (.invokestatic idx, 3)) (hdp : 1 ≤ MI.dp M) (hst : (st.map fun v => v.category).sum ≤ 8) (hr : al.2.1 ≤ MI.mc M ∧ al.2.2 ≤ MI.ms M)
    (k : V M Post al h (pc + 3) ls (.int (if y < x then y else x) :: st)) : V M Post al h pc ls (.int y :: .int x :: st) := by
  intro G p l e R s m args below meth c Q A H locs lsA hX hF hA hK hT hP hz hd2 hS hl
  obtain ⟨hx, hb, hml, hown, hts, hR1, hR2, hR3, hR4, -⟩ := id hX
  have hls : lsA.size = MI.nL M := hl.choose_spec.1.1
  exact va_mmin hx hb (by rw [hml, ← hls]) hown (hts _ hlk) (hts _ q_st_J9_min_7cf53) (hts _ q_in_J9) (hts _ q_c_J9_min_7cf53) (by omega) (by omega) (by omega) (by omega) hd (k G p l e R s m args below meth c Q A H locs lsA hX hF hA hK hT hP hz hd2 hS hl)
theorem n_mmax {idx : Nat} {x y : Nat} (hlk : (Cond.methodLink (MI.own M) idx Lib.Math.max.name) ∈ lw_good) (hd : decode (MI.cc M) pc = .ok (.invokestatic idx, 3)) (hdp : 1 ≤ MI.dp M) (hx : x < 2 ^ 31) (hy : y < 2 ^ 31) (hst : (st.map fun v => v.category).sum ≤ 8) (hr : al.2.1 ≤ MI.mc M ∧ al.2.2 ≤ MI.ms M)
    (k : V M Post al h (pc + 3) ls (.int (nI (max x y)) :: st)) : V M Post al h pc ls (.int (nI y) :: .int (nI x) :: st) := by
  refine e_mmax hlk hd hdp hst hr ?_
  have e : (if nI x < nI y then nI y else nI x) = nI (max x y) := by
    by_cases c : x < y
    · rw [if_pos ((nI_ltI hx hy).mpr c), Nat.max_eq_right (by omega)]
    · rw [if_neg (fun q => c ((nI_ltI hx hy).mp q)), Nat.max_eq_left (by omega)]
  rw [e]
  exact k
theorem n_mmin {idx : Nat} {x y : Nat} (hlk : (Cond.methodLink (MI.own M) idx Lib.Math.min.name) ∈ lw_good) (hd : decode (MI.cc M) pc = .ok (.invokestatic idx, 3)) (hdp : 1 ≤ MI.dp M) (hx : x < 2 ^ 31) (hy : y < 2 ^ 31) (hst : (st.map fun v => v.category).sum ≤ 8) (hr : al.2.1 ≤ MI.mc M ∧ al.2.2 ≤ MI.ms M)
    (k : V M Post al h (pc + 3) ls (.int (nI (min x y)) :: st)) : V M Post al h pc ls (.int (nI y) :: .int (nI x) :: st) := by
  refine e_mmin hlk hd hdp hst hr ?_
  have e : (if nI y < nI x then nI y else nI x) = nI (min x y) := by
    by_cases c : y < x
    · rw [if_pos ((nI_ltI hy hx).mpr c), Nat.min_eq_right (by omega)]
    · rw [if_neg (fun q => c ((nI_ltI hy hx).mp q)), Nat.min_eq_left (by omega)]
  rw [e]
  exact k
end MM
section PB
variable {h : AH} {E o : Nat} {W : Wd} {f : Int32}
def PSh (h : AH) (E : Nat) : Prop := TSh h E ∧ h (E + 89) = some (ob 3 [.ref (E + 83)])
theorem PSh.es {h2 : AH} (q : PSh h E) (e : Es o h h2) (d : o + 3 ≤ E ∨ E + 90 ≤ o) : PSh h2 E := ⟨q.1.es e (by omega), (e _ (by omega)).trans q.2⟩
theorem PSh.ft {h2 : AH} (q : PSh h E) (s : TSh h2 E) (e : Ft E o h h2) (d : o + 3 ≤ E ∨ E + 90 ≤ o) : PSh h2 E := ⟨s, (e _ (by omega) (by omega) (by omega)).trans q.2⟩
theorem qq_le (hk : Wok W) : W.o * W.o ≤ 59049 ∧ W.o ≤ 243 ∧ 1 ≤ W.o ∧ lastP W ≤ 59292 := by
  obtain ⟨b1, b2, b3, b4, b5⟩ := hk.b
  have h1 : W.o * W.o ≤ 243 * 243 := Nat.mul_le_mul b5 b5
  have h2 : 1 ≤ W.o := hk.pos
  refine ⟨by omega, b5, h2, ?_⟩
  unfold lastP
  have : W.o ≤ 243 := b5
  omega
end PB
