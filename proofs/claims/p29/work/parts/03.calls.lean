/-- what holds behind a method that started on the heap h of sz cells -/
def en_Q (G : en_G) (h : AH) (sz : Nat) (Post : Option Value → AH → Nat → Prop) : Array Value → State → Outcome → State → Prop := fun _ st o t =>
  ∃ (r : Option Value) (h' : AH), o = .returned r ∧ Post r h' t.heap.size ∧ en_P G h' t.heap ∧ (∀ q, h' q ≠ none → h q ≠ none ∨ sz ≤ q) ∧ va_F (fun q => h q ≠ none ∨ sz ≤ q) st t
/-- THE CONTRACT of a method: from every heap that holds h (and has sz cells) with these arguments it returns, and Post holds of the answer, the heap behind it and its size -/
def Cn (y : MethodName) (M : MI) (av : List Value) (sz : Nat) (h : AH) (Post : Option Value → AH → Nat → Prop) : Prop :=
  ∀ (l : Launch) (G : en_G), Met l y (Cond.code y (MI.cc M) (MI.nL M) (MI.rt M) :: lw_good) (en_rm M) (va_Pc av (fun U => U.heap.size = sz ∧ en_P G h U.heap ∧ en_K G U ∧ en_S G (fun q => h q ≠ none ∨ sz ≤ q) U U.heap)) (en_Q G h sz Post) (MI.mc M) (MI.ms M) (fun q => h q ≠ none ∨ sz ≤ q)
theorem Cn.post {y : MethodName} {M : MI} {av : List Value} {sz : Nat} {h : AH} {P P2 : Option Value → AH → Nat → Prop} (hp : ∀ r h' z, P r h' z → P2 r h' z) (c : Cn y M av sz h P) : Cn y M av sz h P2 := by
  intro l G p e h1 h2 h3 s m args below hf happ hP hK
  obtain ⟨n, o, a1, a2, a3, ⟨r, h', e0, q, q2⟩, q3⟩ := c l G p e h1 h2 h3 s m args below hf happ hP hK
  exact ⟨n, o, a1, a2, a3, ⟨r, h', e0, hp _ _ _ q, q2⟩, q3⟩
/-- the locals at the entry -/
def en_l0 (nL : Nat) (av : List Value) : List (Option Value) := av.map some ++ List.replicate (nL - av.length) none
theorem en_sl {av : List Value} (h1 : ∀ v ∈ av, v.category = 1) : lg_sl av = av.map Slot.val := by
  induction av with
  | nil => rfl
  | cons a l ih =>
    have ha : ¬ a.category = 2 := by have := h1 a List.mem_cons_self; omega
    show (if a.category = 2 then _ else _) ++ lg_sl l = _
    rw [if_neg ha, ih (fun v hv => h1 v (List.mem_cons_of_mem _ hv))]
    rfl
theorem en_args {v : Value} : ∀ (av : List Value) (k i : Nat), (∀ v ∈ av, v.category = 1) → av[i]? = some v → (k + i, v) ∈ lv_args k av
  | [], k, i, _, h => by simp at h
  | a :: l, k, i, h1, h => by
    have ha : a.category = 1 := h1 a List.mem_cons_self
    unfold lv_args
    cases i with
    | zero =>
      simp at h
      subst h
      simp
    | succ i =>
      rw [List.getElem?_cons_succ] at h
      refine List.mem_cons_of_mem _ ?_
      have := en_args l (k + 1) i (fun v hv => h1 v (List.mem_cons_of_mem _ hv)) h
      rw [ha]
      rw [show k + (i + 1) = k + 1 + i by omega]
      exact this
theorem en_entry {nL : Nat} {av : List Value} (h1 : ∀ v ∈ av, v.category = 1) (hn : av.length ≤ nL) : en_L ((lg_sl av ++ List.replicate (nL - (lg_sl av).length) Slot.unset).toArray) nL (en_l0 nL av) := by
  refine ⟨lv_args 0 av, lv_entry av (by rw [en_sl h1]; simpa using hn), by simp [en_l0]; omega, fun i v hi => ?_⟩
  have hiv : av[i]? = some v := by
    unfold en_l0 at hi
    by_cases hl : i < av.length
    · rw [List.getElem?_append_left (by simpa using hl)] at hi
      simpa using hi
    · rw [List.getElem?_append_right (by simpa using hl)] at hi
      have := List.getElem?_replicate (n := nL - av.length) (a := (none : Option Value)) (i := i - (av.map some).length)
      rw [this] at hi
      split at hi <;> cases hi
  refine ⟨h1 v (List.mem_of_getElem? hiv), ?_⟩
  have := en_args av 0 i h1 hiv
  rwa [Nat.zero_add] at this
theorem Cn.ofV {y : MethodName} {M : MI} {av : List Value} {sz : Nat} {h : AH} {Post : Option Value → AH → Nat → Prop} (hy : plainName y.cls = true) (hown : MI.own M = y.cls) (hini : MI.ini M = true → y.name = "<init>") (h1 : ∀ v ∈ av, v.category = 1) (hn : av.length ≤ MI.nL M)
    (k : V M Post (sz, 0, 0) h 0 (en_l0 (MI.nL M) av) []) : Cn y M av sz h Post := by
  intro l G
  refine Met.ofW (cc := MI.cc M) (maxL := MI.nL M) (ret := MI.rt M) hy rfl ?_
  intro p e s m args below meth c s₁ B hml hv
  obtain ⟨rfl, hsz, hP, hK, hT⟩ := hv
  have hts0 := atoms_spec (ws := Cond.code y (MI.cc M) (MI.nL M) (MI.rt M) :: lw_good) B.pre
  have hts : ∀ w ∈ lw_good, w.before av.toArray s = true := fun w hw => hts0 w (List.mem_cons_of_mem _ hw)
  rw [lg_entry_eq]
  refine k G p l e (en_rm M) s m av.toArray below meth c _ (fun q => h q ≠ none ∨ sz ≤ q) s.heap [] _ ⟨B.exec, B.bytes, hml, by rw [hown]; exact findClass_of_methodNamed B.named, hts, Nat.le_refl _, en_lo_ge _, Nat.le_refl _, Nat.le_refl _, fun q => by rw [(name_of_methodNamed B.named B.method).1]; exact hini q⟩ ?_ (fun q hq => Or.inr (by omega)) hK hT hP hsz (fun q hq => Or.inl hq) va_S.rf (en_entry h1 hn)
  intro r h' H' locs' k' n' pc' lsA' hpost hP' hdm hS' hk' hn' hro
  have hlocks := B.notSynchronized
  refine W.widen hk' hn' ?_
  have hq : ∀ t : State, t.heap = H' → s.WarmedH t.vm → en_Q G h sz Post av.toArray s (.returned r) t := fun t ht hW => ⟨r, h', rfl, by rw [ht]; exact hpost, by rw [ht]; exact hP', hdm, hS'.F ht⟩
  rcases hro with ⟨h1, rfl, hd⟩ | ⟨h1, ⟨x, rfl, hx⟩, hd⟩ | ⟨h1, ⟨v, rfl⟩, hd⟩ | ⟨ty, x, h1, rfl, hx, hd⟩
  · exact W.vret B.exec B.bytes (B.returns.trans h1) hq hS'.2.2 hd
  · rcases h1 with h1 | h1
    · exact W.iret B.exec B.bytes (B.returns.trans h1) hq hS'.2.2 hd
    · exact W.zret B.exec B.bytes (B.returns.trans h1) (hx h1) hq hS'.2.2 hd
  · rcases h1 with ⟨C, h1⟩ | ⟨C, h1⟩ <;> exact W.aret B.exec B.bytes (B.returns.trans h1) (by first | exact Or.inl ⟨C, rfl⟩ | exact Or.inr ⟨C, rfl⟩) (by cases v with | none => exact Or.inl rfl | some a => exact Or.inr ⟨a, rfl⟩) hq hS'.2.2 hd
  · exact W.zret B.exec B.bytes (B.returns.trans h1) hx hq hS'.2.2 hd
section EN3
variable {M : MI} {Post : Option Value → AH → Nat → Prop} {al : Nat × Nat × Nat} {h : AH} {pc : Nat} {ls : List (Option Value)} {st : List Value}
theorem e_ret {lim : al.2.1 ≤ MI.mc M ∧ al.2.2 ≤ MI.ms M} (r : Option Value) (hro : en_ro (MI.rt M) r (MI.cc M) pc) (hp : Post r h al.1) : V M Post al h pc ls r.toList := by
  intro G p l e R s m args below meth c Q A H locs lsA hX hF hA hK hT hP hz hd2 hS hl
  exact hF r h H locs al.2.1 al.2.2 pc lsA (by rw [hz]; exact hp) hP hd2 hS lim.1 lim.2 hro
theorem e_vret (hd : decode (MI.cc M) pc = .ok (.return_, 1)) (hr : MI.rt M = none) (lim : al.2.1 ≤ MI.mc M ∧ al.2.2 ≤ MI.ms M) (hp : Post none h al.1) : V M Post al h pc ls [] := e_ret (lim := lim) none (Or.inl ⟨hr, rfl, hd⟩) hp
theorem e_iret {x : Int32} (hd : decode (MI.cc M) pc = .ok (.ireturn, 1)) (hr : MI.rt M = some .int) (lim : al.2.1 ≤ MI.mc M ∧ al.2.2 ≤ MI.ms M) (hp : Post (some (.int x)) h al.1) : V M Post al h pc ls [.int x] := e_ret (lim := lim) (some (.int x)) (Or.inr (Or.inl ⟨Or.inl hr, ⟨x, rfl, fun q => absurd (hr.symm.trans q) (by decide)⟩, hd⟩)) hp
theorem e_zret {x : Int32} (hd : decode (MI.cc M) pc = .ok (.ireturn, 1)) (hr : MI.rt M = some .boolean) (hx : narrow .boolean (.int x) = .int x) (lim : al.2.1 ≤ MI.mc M ∧ al.2.2 ≤ MI.ms M) (hp : Post (some (.int x)) h al.1) : V M Post al h pc ls [.int x] := e_ret (lim := lim) (some (.int x)) (Or.inr (Or.inl ⟨Or.inr hr, ⟨x, rfl, fun _ => hx⟩, hd⟩)) hp
theorem e_nret {x : Int32} {ty : FieldType} (hd : decode (MI.cc M) pc = .ok (.ireturn, 1)) (hr : MI.rt M = some ty) (hx : narrow ty (.int x) = .int x) (lim : al.2.1 ≤ MI.mc M ∧ al.2.2 ≤ MI.ms M) (hp : Post (some (.int x)) h al.1) : V M Post al h pc ls [.int x] := e_ret (lim := lim) (some (.int x)) (Or.inr (Or.inr (Or.inr ⟨ty, x, hr, rfl, hx, hd⟩))) hp
theorem e_aret {v : Option Nat} (hd : decode (MI.cc M) pc = .ok (.areturn, 1)) (hr : ∃ C, MI.rt M = some (.object C)) (lim : al.2.1 ≤ MI.mc M ∧ al.2.2 ≤ MI.ms M) (hp : Post (some (va_rf v)) h al.1) : V M Post al h pc ls [va_rf v] := e_ret (lim := lim) (some (va_rf v)) (Or.inr (Or.inr (Or.inl ⟨Or.inl hr, ⟨v, rfl⟩, hd⟩))) hp
/-- what the tables say of a method -/
def BY (y : MethodName) (M : MI) (n : Nat) : Prop := (Cond.code y (MI.cc M) (MI.nL M) (MI.rt M)) ∈ lw_good ∧ (Cond.initialized y.cls) ∈ lw_good ∧ (y.cls ≠ "java/lang/invoke/MethodHandle" ∧ y.cls ≠ "java/lang/invoke/VarHandle" ∧ (parseMethodDescriptor y.desc).map (fun d => d.parameters.length) = some n) ∧ MI.own M = y.cls
theorem en_good : GoodIn lw_good lw_good := fun w hw => ⟨hw, good_of_word (List.mem_filter.mp hw).2⟩
theorem en_words {y : MethodName} {M2 : MI} {n : Nat} (b : BY y M2 n) : GoodIn lw_good (Cond.code y (MI.cc M2) (MI.nL M2) (MI.rt M2) :: lw_good) := fun w hw => by
  rcases List.mem_cons.mp hw with rfl | hw
  · exact ⟨b.1, (en_good _ b.1).2⟩
  · exact en_good w hw
theorem en_blind {G : en_G} {av : List Value} {sz : Nat} {h : AH} : FrameBlind (va_Pc av (fun U => U.heap.size = sz ∧ en_P G h U.heap ∧ en_K G U ∧ en_S G (fun q => h q ≠ none ∨ sz ≤ q) U U.heap)) := fun a U g mk q => by
  obtain ⟨q0, q1, q2, q3, q4⟩ := q
  exact ⟨q0, q1, q2, en_K.same (u := U) (U := U.calling g mk a) rfl q3, en_S.moved (u := U) (U := U.calling g mk a) (Vm.Alike.refl U.vm) q4⟩
/-- behind a call's run: the judgement goes on -/
theorem en_behind {G : en_G} {p : Program} {l : Launch} {e : Env} {R : Room} {s : State} {m : MethodId} {args : Array Value} {below : List Frame} {meth : Method} {c : Code} {Q : State → Prop} {A : Nat → Prop} {H : Heap} {locs : List Loc} {lsA : Array Slot} {st0 : List Value} {Post2 : Option Value → AH → Nat → Prop} {mc ms : Nat} {av : Array Value}
    (hX : en_X M p R s m args meth c) (hF : en_F M G p l e R s m args below meth c Q A Post) (hA : ∀ q, s.heap.size ≤ q → A q) (hK : en_K G s) (hT : en_S G A s s.heap) (hz : H.size = al.1) (hd2 : ∀ q, h q ≠ none → A q) (hS : va_S A s.heap H locs) (hl : en_L lsA (MI.nL M) ls)
    (hr : va_Run p l e R s m args below meth c H locs al.2.1 al.2.2 mc ms (F0 m pc lsA st0) st (en_Q G h al.1 Post2 av) (fun q => h q ≠ none ∨ al.1 ≤ q))
    (k : ∀ (r : Option Value) (h2 : AH) (z2 : Nat), Post2 r h2 z2 → V M Post (z2, al.2.1 + mc, al.2.2 + ms) h2 (pc + 3) ls (r.toList ++ st)) : W p l e R s m args below meth c H locs al.2.1 al.2.2 Q (F0 m pc lsA st0) := by
  intro T hTT X
  obtain ⟨v, st₀, t, T', L, h0, X', hL, e1, e2, ⟨r, h', hv, hp, hP', hdm, hz1, hk1⟩, stp⟩ := hr T hTT X
  cases hv
  rw [h0] at hz1 hk1
  have hAA : ∀ q, (h q ≠ none ∨ al.1 ≤ q) → A q := fun q hq => hq.elim (hd2 q) (fun hq => hA q (by have := hS.1; omega))
  obtain ⟨t2, a1, b1⟩ := k v h' t.heap.size hp G p l e R s m args below meth c Q A T'.heap (locs ++ L) lsA hX hF hA hK hT (by rw [e1]; exact hP') (by rw [e1]) (fun q hq => hAA q (hdm q hq))
    ⟨Nat.le_trans hS.1 (by rw [e1]; exact hz1), fun q g1 g2 => by rw [e1, hk1 q (Nat.lt_of_lt_of_le g1 hS.1) (fun z => g2 (hAA q z))]; exact hS.2.1 q g1 g2, fun q hq => by
      rcases List.mem_append.mp hq with g | g
      · exact hS.2.2 q g
      · exact hAA _ (hL q g)⟩ hl T' rfl X'
  exact ⟨t2, stp t2 a1, b1⟩
theorem e_callV {y : MethodName} {M2 : MI} {n idx b ci : Nat} {fs : List Value} {r0 : vw_C} {As : List Value} {Post2 : Option Value → AH → Nat → Prop} (C : Cn y M2 (.ref b :: As) al.1 h Post2) (by0 : BY y M2 n) (hi : (Cond.instanceMethod y) ∈ lw_good) (hsel : (Cond.selects y.cls y y) ∈ lw_good) (hlk : (Cond.methodLink (MI.own M) idx y) ∈ lw_good) (hd : decode (MI.cc M) pc = .ok (.invokevirtual idx, 3))
    (hn : As.length = n) (hb0 : h b = some (ob ci fs)) (hc : vwCl[ci]? = some r0) (hr0 : r0.1 = y.cls) (hst : (st.map fun v => v.category).sum ≤ 8) (hdp : MI.dp M2 + 1 ≤ MI.dp M ∧ MI.lo M2 + 19 + MI.nL M2 ≤ MI.lo M) (hroom : al.2.1 + MI.mc M2 ≤ MI.mc M ∧ al.2.2 + MI.ms M2 ≤ MI.ms M)
    (k : ∀ (r : Option Value) (h2 : AH) (z2 : Nat), Post2 r h2 z2 → V M Post (z2, al.2.1 + MI.mc M2, al.2.2 + MI.ms M2) h2 (pc + 3) ls (r.toList ++ st)) : V M Post al h pc ls (As.reverse ++ .ref b :: st) := by
  intro G p l e R s m args below meth c Q A H locs lsA hX hF hA hK hT hP hz hd2 hS hl
  obtain ⟨hx, hb, hml, hown, hts, hR1, hR2, hR3, hR4, -⟩ := id hX
  have hls : lsA.size = MI.nL M := hl.choose_spec.1.1
  refine en_behind (st0 := As.reverse ++ .ref b :: st) hX hF hA hK hT hz hd2 hS hl (va_runV (As := As) (rest := st) (C := y.cls) ⟨hx, hb, hml, hown, hts⟩ (C l G) ⟨callB_of n hts (en_words by0) rfl rfl rfl (hts _ by0.2.1) (hts _ hlk) by0.2.2.1 ⟨by show MI.dp M2 + 1 ≤ _; omega, by show 8 + (MI.nL M2 + 11) + MI.lo M2 ≤ _; omega⟩, hts _ hi, hts _ hsel⟩
    ⟨en_blind, by rw [← hr0]; exact va_recv (ci := ci) (q0 := 0) (fs := fs) hK.1 (en_P.one hP hb0) hc rfl, fun U hU hW => ⟨rfl, by rw [hU]; exact hz, by rw [hU]; exact hP, hK.warm hW, by rw [hU]; exact ((hT.kept hS.2.1).moved hW.alike).narrow (fun q hq => hq.elim (hd2 q) (fun hq => hA q (by have := hS.1; omega)))⟩⟩ rfl hn hls rfl (lv_room hst) hd ⟨by omega, by omega⟩) k
theorem e_callS {y : MethodName} {M2 : MI} {n idx : Nat} {As : List Value} {Post2 : Option Value → AH → Nat → Prop} (C : Cn y M2 As al.1 h Post2) (by0 : BY y M2 n) (hi : (Cond.static y) ∈ lw_good) (hlk : (Cond.methodLink (MI.own M) idx y) ∈ lw_good) (hd : decode (MI.cc M) pc = .ok (.invokestatic idx, 3))
    (hn : As.length = n) (hst : (st.map fun v => v.category).sum ≤ 8) (hdp : MI.dp M2 + 1 ≤ MI.dp M ∧ MI.lo M2 + 19 + MI.nL M2 ≤ MI.lo M) (hroom : al.2.1 + MI.mc M2 ≤ MI.mc M ∧ al.2.2 + MI.ms M2 ≤ MI.ms M)
    (k : ∀ (r : Option Value) (h2 : AH) (z2 : Nat), Post2 r h2 z2 → V M Post (z2, al.2.1 + MI.mc M2, al.2.2 + MI.ms M2) h2 (pc + 3) ls (r.toList ++ st)) : V M Post al h pc ls (As.reverse ++ st) := by
  intro G p l e R s m args below meth c Q A H locs lsA hX hF hA hK hT hP hz hd2 hS hl
  obtain ⟨hx, hb, hml, hown, hts, hR1, hR2, hR3, hR4, -⟩ := id hX
  have hls : lsA.size = MI.nL M := hl.choose_spec.1.1
  refine en_behind (st0 := As.reverse ++ st) hX hF hA hK hT hz hd2 hS hl (va_runS (As := As) (rest := st) ⟨hx, hb, hml, hown, hts⟩ (C l G) ⟨callB_of n hts (en_words by0) rfl rfl rfl (hts _ by0.2.1) (hts _ hlk) by0.2.2.1 ⟨by show MI.dp M2 + 1 ≤ _; omega, by show 8 + (MI.nL M2 + 11) + MI.lo M2 ≤ _; omega⟩, hts _ hi⟩
    ⟨en_blind, fun U hU hW => ⟨rfl, by rw [hU]; exact hz, by rw [hU]; exact hP, hK.warm hW, by rw [hU]; exact ((hT.kept hS.2.1).moved hW.alike).narrow (fun q hq => hq.elim (hd2 q) (fun hq => hA q (by have := hS.1; omega)))⟩⟩ rfl hn hls rfl (lv_room hst) hd ⟨by omega, by omega⟩) k
theorem e_callI {y : MethodName} {M2 : MI} {n idx b : Nat} {As : List Value} {Post2 : Option Value → AH → Nat → Prop} (C : Cn y M2 (.ref b :: As) al.1 h Post2) (by0 : BY y M2 n) (hrt : MI.rt M2 = none) (hy1 : y.name = "<init>") (hi : (Cond.instanceMethod y) ∈ lw_good) (hlk : (Cond.methodLink (MI.own M) idx y) ∈ lw_good) (hd : decode (MI.cc M) pc = .ok (.invokespecial idx, 3))
    (hn : As.length = n) (hst : (st.map fun v => v.category).sum ≤ 8) (hdp : MI.dp M2 + 1 ≤ MI.dp M ∧ MI.lo M2 + 19 + MI.nL M2 ≤ MI.lo M) (hroom : al.2.1 + MI.mc M2 ≤ MI.mc M ∧ al.2.2 + MI.ms M2 ≤ MI.ms M)
    (k : ∀ (r : Option Value) (h2 : AH) (z2 : Nat), Post2 r h2 z2 → V M Post (z2, al.2.1 + MI.mc M2, al.2.2 + MI.ms M2) h2 (pc + 3) ls (r.toList ++ st)) : V M Post al h pc ls (As.reverse ++ .ref b :: st) := by
  intro G p l e R s m args below meth c Q A H locs lsA hX hF hA hK hT hP hz hd2 hS hl
  obtain ⟨hx, hb, hml, hown, hts, hR1, hR2, hR3, hR4, -⟩ := id hX
  have hls : lsA.size = MI.nL M := hl.choose_spec.1.1
  have C' := C l G
  have by1 := en_words by0
  rw [hrt] at C' by1
  refine en_behind (st0 := As.reverse ++ .ref b :: st) hX hF hA hK hT hz hd2 hS hl (va_runI (As := As) (rest := st) (b := b) ⟨hx, hb, hml, hown, hts⟩ C' ⟨callB_of n hts by1 rfl rfl rfl (hts _ by0.2.1) (hts _ hlk) by0.2.2.1 ⟨by show MI.dp M2 + 1 ≤ _; omega, by show 8 + (MI.nL M2 + 11) + MI.lo M2 ≤ _; omega⟩, hy1, hts _ hi⟩
    ⟨en_blind, fun U hU hW => ⟨rfl, by rw [hU]; exact hz, by rw [hU]; exact hP, hK.warm hW, by rw [hU]; exact ((hT.kept hS.2.1).moved hW.alike).narrow (fun q hq => hq.elim (hd2 q) (fun hq => hA q (by have := hS.1; omega)))⟩⟩ rfl hn hls rfl (lv_room hst) hd ⟨by omega, by omega⟩) k
end EN3
