/-! ===== constructors: what is there at a new, calls of constructors ===== -/
section EN12
variable {M : MI} {Post : Option Value → AH → Nat → Prop} {al : Nat × Nat × Nat} {h : AH} {pc : Nat} {ls : List (Option Value)} {st : List Value}
theorem e_callIN {y : MethodName} {M2 : MI} {n idx b : Nat} {host : String} {As : List Value} {Post2 : Option Value → AH → Nat → Prop} (C : Cn y M2 (.ref b :: As) al.1 h Post2) (by0 : BY y M2 n) (hrt : MI.rt M2 = none) (hy1 : y.name = "<init>") (hi : (Cond.instanceMethod y) ∈ lw_good) (hlk : (MI.own M, idx, y, host) ∈ lw_nests) (hd : decode (MI.cc M) pc = .ok (.invokespecial idx, 3))
    (hn : As.length = n) (hst : (st.map fun v => v.category).sum ≤ 8) (hdp : MI.dp M2 + 1 ≤ MI.dp M ∧ MI.lo M2 + 19 + MI.nL M2 ≤ MI.lo M) (hroom : al.2.1 + MI.mc M2 ≤ MI.mc M ∧ al.2.2 + MI.ms M2 ≤ MI.ms M)
    (k : ∀ (r : Option Value) (h2 : AH) (z2 : Nat), Post2 r h2 z2 → V M Post (z2, al.2.1 + MI.mc M2, al.2.2 + MI.ms M2) h2 (pc + 3) ls (r.toList ++ st)) : V M Post al h pc ls (As.reverse ++ .ref b :: st) := by
  intro G p l e R s m args below meth c Q A H locs lsA hX hF hA hK hT hP hz hd2 hS hl
  obtain ⟨hx, hb, hml, hown, hts, hR1, hR2, hR3, hR4, -⟩ := id hX
  have hls : lsA.size = MI.nL M := hl.choose_spec.1.1
  have C' := C l G
  have by1 := en_words by0
  rw [hrt] at C' by1
  have hnw := hK.2.1 _ hlk
  refine en_behind (st0 := As.reverse ++ .ref b :: st) hX hF hA hK hT hz hd2 hS hl (va_runIN (As := As) (rest := st) (b := b) ⟨hx, hb, hml, hown, hts⟩ C' ⟨va_cnB n hts by1 rfl rfl rfl hnw (hts _ by0.2.1) by0.2.2.1 ⟨by show MI.dp M2 + 1 ≤ _; omega, by show 8 + (MI.nL M2 + 11) + MI.lo M2 ≤ _; omega⟩, hy1, hts _ hi⟩
    ⟨en_blind, fun U hU hW => ⟨rfl, by rw [hU]; exact hz, by rw [hU]; exact hP, hK.warm hW, by rw [hU]; exact ((hT.kept hS.2.1).moved hW.alike).narrow (fun q hq => hq.elim (hd2 q) (fun hq => hA q (by have := hS.1; omega)))⟩⟩ rfl hn hls rfl (lv_room hst) hd ⟨by omega, by omega⟩) k
end EN12
section EN13
variable {M : MI} {Post : Option Value → AH → Nat → Prop} {h : AH} {pc : Nat} {ls : List (Option Value)} {st : List Value} {ci o N c s N2 N3 c2 s2 : Nat} {fs : List Value} {T : Nat → AE}
theorem b_new {idx ci2 K : Nat} {fs0 : List Value} (f : NW (MI.own M) idx ci2 K fs0) (hd : decode (MI.cc M) pc = .ok (.new idx, 3)) (e2 : c + 1 = c2) (e3 : s + K = s2) (hlim : c2 ≤ MI.mc M ∧ s2 ≤ MI.ms M) (k : V M Post (o + 1 + N + 1, c2, s2) (hset (bk ci h o fs T N) (o + 1 + N) (ob ci2 fs0)) (pc + 3) ls (.ref (o + 1 + N) :: st)) : V M Post (o + 1 + N, c, s) (bk ci h o fs T N) pc ls st := by
  subst e2; subst e3
  exact e_new f hd hlim k
theorem b_ctor {y : MethodName} {M2 : MI} {n idx ci2 : Nat} {As fs0 fs2 : List Value} {T2 : Nat → AE} (C : CK y M2 As ci2 fs0 fs2 T2 N2 (o + 1 + N)) (by0 : BY y M2 n) (hrt : MI.rt M2 = none) (hy1 : y.name = "<init>") (hi : (Cond.instanceMethod y) ∈ lw_good) (hlk : (Cond.methodLink (MI.own M) idx y) ∈ lw_good) (hd : decode (MI.cc M) pc = .ok (.invokespecial idx, 3))
    (hn : As.length = n) (hst : (st.map fun v => v.category).sum ≤ 8) (hdp : MI.dp M2 + 1 ≤ MI.dp M ∧ MI.lo M2 + 19 + MI.nL M2 ≤ MI.lo M) (hlim : c2 ≤ MI.mc M ∧ s2 ≤ MI.ms M) (e1 : N + (1 + N2) = N3) (e2 : c + MI.mc M2 = c2) (e3 : s + MI.ms M2 = s2) (hT : T N = ob ci2 fs2) (hr : ∀ j, j < N2 → T (N + 1 + j) = T2 j)
    (k : V M Post (o + 1 + N3, c2, s2) (bk ci h o fs T N3) (pc + 3) ls st) : V M Post (o + 1 + N + 1, c, s) (hset (bk ci h o fs T N) (o + 1 + N) (ob ci2 fs0)) pc ls (As.reverse ++ .ref (o + 1 + N) :: st) := by
  subst e1; subst e2; subst e3
  refine e_callI (al := (o + 1 + N + 1, c, s)) (C _ (hset_eq _ _ _)) by0 hrt hy1 hi hlk hd hn hst hdp hlim ?_
  rintro r h2 z2 ⟨rfl, rfl, rfl⟩
  rw [bk_sub hT hr, show o + 1 + N + 1 + N2 = o + 1 + (N + (1 + N2)) by omega]
  exact k
theorem b_ctorN {y : MethodName} {M2 : MI} {n idx ci2 : Nat} {host : String} {As fs0 fs2 : List Value} {T2 : Nat → AE} (C : CK y M2 As ci2 fs0 fs2 T2 N2 (o + 1 + N)) (by0 : BY y M2 n) (hrt : MI.rt M2 = none) (hy1 : y.name = "<init>") (hi : (Cond.instanceMethod y) ∈ lw_good) (hlk : (MI.own M, idx, y, host) ∈ lw_nests) (hd : decode (MI.cc M) pc = .ok (.invokespecial idx, 3))
    (hn : As.length = n) (hst : (st.map fun v => v.category).sum ≤ 8) (hdp : MI.dp M2 + 1 ≤ MI.dp M ∧ MI.lo M2 + 19 + MI.nL M2 ≤ MI.lo M) (hlim : c2 ≤ MI.mc M ∧ s2 ≤ MI.ms M) (e1 : N + (1 + N2) = N3) (e2 : c + MI.mc M2 = c2) (e3 : s + MI.ms M2 = s2) (hT : T N = ob ci2 fs2) (hr : ∀ j, j < N2 → T (N + 1 + j) = T2 j)
    (k : V M Post (o + 1 + N3, c2, s2) (bk ci h o fs T N3) (pc + 3) ls st) : V M Post (o + 1 + N + 1, c, s) (hset (bk ci h o fs T N) (o + 1 + N) (ob ci2 fs0)) pc ls (As.reverse ++ .ref (o + 1 + N) :: st) := by
  subst e1; subst e2; subst e3
  refine e_callIN (al := (o + 1 + N + 1, c, s)) (C _ (hset_eq _ _ _)) by0 hrt hy1 hi hlk hd hn hst hdp hlim ?_
  rintro r h2 z2 ⟨rfl, rfl, rfl⟩
  rw [bk_sub hT hr, show o + 1 + N + 1 + N2 = o + 1 + (N + (1 + N2)) by omega]
  exact k
end EN13
abbrev fzX9 : List Value := [.int 0, .int 0, .int 0, .int 0, .null, .null]
abbrev fzX0 : List Value := [.int 0, .int 0, .int 0, .null, .null, .null]
abbrev fzX1 : List Value := [.null, .null, .null, .null]
abbrev fzX7 : List Value := [.null, .null, .null, .null, .null, .null, .null]
abbrev fzX3 : List Value := [.null]
abbrev fzX5 : List Value := [.int 0, .int 0, .int 0, .int 0, .int 0, .null, .null, .null, .null, .null, .null, .null, .null, .null, .null, .null, .null, .null]
abbrev fzX6 : List Value := [.null, .null, .null, .null, .int 0, .int 0]
abbrev fzX2 : List Value := [.null, .null, .null, .null, .null]
abbrev fzX4 : List Value := [.null, .int 0, .int 0, .int 0, .int 0, .int 0, .int 0, .int 0, .int 0, .int 0, .null, .null, .null, .null, .null, .null]
abbrev fzX10 : List Value := [.null, .null, .int 0, .null, .null, .null, .null, .null, .null, .null, .null]
abbrev fzX11 : List Value := [.null, .null, .int 0, .int 0, .int 0, .int 0, .null, .null, .null, .null, .null, .null, .null, .int 0, .int 0, .int 0, .int 0, .int 0, .int 0, .int 0, .int 0, .int 0, .int 0, .null, .null, .null, .null, .null, .null, .null, .int 0, .null, .null, .null, .null, .null, .null, .null, .null, .int 0, .null, .null]
theorem nw_X10_7 : NW RX10 7 6 6 fzX6 := ⟨RX6, TX6, tyX6, rfl, uX6, tyX6_ok, q_cl_X10_7, q_ib_X6, q_in_X6, by decide⟩
theorem nw_X6_9 : NW RX6 9 8 6 fzX9 := ⟨RX9, TX9, tyX9, rfl, uX9, tyX9_ok, q_cl_X6_9, q_ib_X9, q_in_X9, by decide⟩
theorem nw_X10_23 : NW RX10 23 4 16 fzX4 := ⟨RX4, TX4, tyX4, rfl, uX4, tyX4_ok, q_cl_X10_23, q_ib_X4, q_in_X4, by decide⟩
theorem nw_X4_44 : NW RX4 44 8 6 fzX9 := ⟨RX9, TX9, tyX9, rfl, uX9, tyX9_ok, q_cl_X4_44, q_ib_X9, q_in_X9, by decide⟩
theorem nw_X10_30 : NW RX10 30 0 6 fzX0 := ⟨RX0, TX0, tyX0, rfl, uX0, tyX0_ok, q_cl_X10_30, q_ib_X0, q_in_X0, by decide⟩
theorem nw_X10_37 : NW RX10 37 1 4 fzX1 := ⟨RX1, TX1, tyX1, rfl, uX1, tyX1_ok, q_cl_X10_37, q_ib_X1, q_in_X1, by decide⟩
theorem nw_X10_46 : NW RX10 46 7 7 fzX7 := ⟨RX7, TX7, tyX7, rfl, uX7, tyX7_ok, q_cl_X10_46, q_ib_X7, q_in_X7, by decide⟩
theorem nw_X10_55 : NW RX10 55 3 1 fzX3 := ⟨RX3, TX3, tyX3, rfl, uX3, tyX3_ok, q_cl_X10_55, q_ib_X3, q_in_X3, by decide⟩
theorem nw_X10_64 : NW RX10 64 5 18 fzX5 := ⟨RX5, TX5, tyX5, rfl, uX5, tyX5_ok, q_cl_X10_64, q_ib_X5, q_in_X5, by decide⟩
theorem nw_X10_71 : NW RX10 71 2 5 fzX2 := ⟨RX2, TX2, tyX2, rfl, uX2, tyX2_ok, q_cl_X10_71, q_ib_X2, q_in_X2, by decide⟩
theorem nw_X2_9 : NW RX2 9 8 6 fzX9 := ⟨RX9, TX9, tyX9, rfl, uX9, tyX9_ok, q_cl_X2_9, q_ib_X9, q_in_X9, by decide⟩
theorem nw_X10_78 : NW RX10 78 8 6 fzX9 := ⟨RX9, TX9, tyX9, rfl, uX9, tyX9_ok, q_cl_X10_78, q_ib_X9, q_in_X9, by decide⟩