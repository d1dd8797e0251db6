/-! ===== the judgement of the law and of the JDK's methods: V, and cells that nobody writes can be read ===== -/
/-- cells that nobody writes; where the law's texts (0 .. 7) and the digits' tables (8 ones, 9 tens) lie -/
abbrev RT : Type := AH × (Nat → Nat)
def ro_at (G : en_G) (a : Nat) (x : AE) (A : Nat → Prop) (U : State) (H : Heap) : Prop := match x with
  | .inl (k, n, c) => ∃ (f : Nat → Int32) (ty : FieldType), c = .inl f ∧ (k = 0 ∧ ty = .int ∨ k = 4 ∧ ty = .byte) ∧ va_T ty a n (fun j => .int (f j)) A U H
  | .inr (ci, fs) => ∃ r : vw_C, vwCl[ci]? = some r ∧ va_O r.1 a A U H ∧ ∀ k, k < r.2.2 → va_OF (r.2.1 k).1 (r.2.1 k).2.1 (r.2.1 k).2.2.1 (vp_V fs k) a A U H
theorem ro_at.moved {G : en_G} {a : Nat} {x : AE} {A : Nat → Prop} {u U : State} {H : Heap} (hvm : u.vm.Alike U.vm) (h : ro_at G a x A u H) : ro_at G a x A U H := by
  rcases x with ⟨k, n, c⟩ | ⟨ci, fs⟩
  · obtain ⟨f, ty, h1, h2, h3⟩ := h
    exact ⟨f, ty, h1, h2, h3.moved hvm⟩
  · obtain ⟨r, h1, h2, h3⟩ := h
    exact ⟨r, h1, h2.moved hvm, fun k hk => (h3 k hk).moved hvm⟩
theorem ro_at.kept {G : en_G} {a : Nat} {x : AE} {A : Nat → Prop} {U : State} {H H1 : Heap} (h : ro_at G a x A U H) (hq : ∀ a : Nat, a < H.size → ¬ A a → H1[a]? = H[a]?) : ro_at G a x A U H1 := by
  rcases x with ⟨k, n, c⟩ | ⟨ci, fs⟩
  · obtain ⟨f, ty, h1, h2, h3⟩ := h
    exact ⟨f, ty, h1, h2, h3.kept hq⟩
  · obtain ⟨r, h1, h2, h3⟩ := h
    exact ⟨r, h1, h2.kept hq, fun k hk => (h3 k hk).kept hq⟩
theorem ro_at.narrow {G : en_G} {a : Nat} {x : AE} {A B : Nat → Prop} {U : State} {H : Heap} (h : ro_at G a x A U H) (hAB : ∀ q, B q → A q) : ro_at G a x B U H := by
  rcases x with ⟨k, n, c⟩ | ⟨ci, fs⟩
  · obtain ⟨f, ty, h1, h2, h3⟩ := h
    exact ⟨f, ty, h1, h2, h3.narrow hAB⟩
  · obtain ⟨r, h1, h2, h3⟩ := h
    exact ⟨r, h1, h2.narrow hAB, fun k hk => (h3 k hk).narrow hAB⟩
def lt_strs : List (Nat × String × Nat) := [(61, "order ", 0), (70, " ", 1), (72, ";", 2), (82, "field", 3), (95, " twist ", 4), (115, "at ", 5), (117, "turn ", 6), (123, " ;", 7)]
/-- fields of the law's world, read by the law: the constant pool's place, the field -/
def lt_fn : List (Nat × Nat) := [(148, 0), (145, 1), (91, 2), (35, 3), (101, 4)]
def RO (ro : RT) (G : en_G) (A : Nat → Prop) (U : State) (H : Heap) : Prop := (∀ a x, ro.1 a = some x → ro_at G a x A U H) ∧ (∀ q ∈ lt_strs, vk_R RL q.1 q.2.1 (ro.2 q.2.2) U) ∧ va_Z RJ6 "DigitOnes" "[B" (.ref (ro.2 8)) A U H ∧ va_Z RJ6 "DigitTens" "[B" (.ref (ro.2 9)) A U H ∧ (∀ q ∈ lt_fn, va_Nw (.fieldLinkNest RL q.1 RX11 (TX11 q.2).2.1 (TX11 q.2).2.2.1 RL) U) ∧ va_Nw (.castable "[B" "java/lang/Cloneable") U
theorem RO.warm {ro : RT} {G : en_G} {A : Nat → Prop} {s U : State} {H : Heap} (hW : s.WarmedH U.vm) (h : RO ro G A s H) : RO ro G A U H := ⟨fun a x q => (h.1 a x q).moved hW.alike, fun q hq => vk_R.warm hW (h.2.1 q hq), h.2.2.1.moved hW.alike, h.2.2.2.1.moved hW.alike, fun q hq => va_Nw.warmF hW (h.2.2.2.2.1 q hq), va_Nw.warmC hW h.2.2.2.2.2⟩
theorem RO.same {ro : RT} {G : en_G} {A : Nat → Prop} {u U : State} {H : Heap} (hv : u.vm = U.vm) (h : RO ro G A u H) : RO ro G A U H := by
  have al : u.vm.Alike U.vm := by rw [← hv]; exact Vm.Alike.refl u.vm
  exact ⟨fun a x q => (h.1 a x q).moved al, fun q hq => vk_R.same hv.symm (h.2.1 q hq), h.2.2.1.moved al, h.2.2.2.1.moved al, fun q hq => va_Nw.same rfl hv (h.2.2.2.2.1 q hq), va_Nw.same rfl hv h.2.2.2.2.2⟩
theorem RO.kept {ro : RT} {G : en_G} {A : Nat → Prop} {U : State} {H H1 : Heap} (h : RO ro G A U H) (hq : ∀ a : Nat, a < H.size → ¬ A a → H1[a]? = H[a]?) : RO ro G A U H1 := ⟨fun a x q => (h.1 a x q).kept hq, h.2.1, h.2.2.1.kept hq, h.2.2.2.1.kept hq, h.2.2.2.2⟩
theorem RO.narrow {ro : RT} {G : en_G} {A B : Nat → Prop} {U : State} {H : Heap} (h : RO ro G A U H) (hAB : ∀ q, B q → A q) : RO ro G B U H := ⟨fun a x q => (h.1 a x q).narrow hAB, h.2.1, h.2.2.1.narrow hAB, h.2.2.2.1.narrow hAB, h.2.2.2.2⟩
def SA (ro : RT) (G : en_G) (s : State) (A : Nat → Prop) : Prop := (∀ q, s.heap.size ≤ q → A q) ∧ RO ro G A s s.heap
def VS (ro : RT) (M : MI) (Post : Option Value → AH → Nat → Prop) (al : Nat × Nat × Nat) (h : AH) (pc : Nat) (ls : List (Option Value)) (st : List Value) : Prop :=
  ∀ (G : en_G) (p : Program) (l : Launch) (e : Env) (R : Room) (s : State) (m : MethodId) (args : Array Value) (below : List Frame) (meth : Method) (c : Code) (Q : State → Prop) (A : Nat → Prop) (H : Heap) (locs : List Jvm.Loc) (lsA : Array Slot),
    en_X M p R s m args meth c → en_F M G p l e R s m args below meth c Q A Post → SA ro G s A → en_K G s → en_S G A s s.heap →
    en_P G h H → H.size = al.1 → (∀ q, h q ≠ none → A q) → va_S A s.heap H locs → en_L lsA (MI.nL M) ls →
    W p l e R s m args below meth c H locs al.2.1 al.2.2 Q (F0 m pc lsA st)
abbrev VIS (ro : RT) (M : MI) (sz : Nat) (Pr : Int32 → AH → Prop) (h : AH) (pc : Nat) (ls : List (Option Value)) (st : List Value) : Prop := VS ro M (PI sz Pr) (sz, 0, 0) h pc ls st
abbrev VVS (ro : RT) (M : MI) (sz : Nat) (Pr : AH → Prop) (h : AH) (pc : Nat) (ls : List (Option Value)) (st : List Value) : Prop := VS ro M (PV sz Pr) (sz, 0, 0) h pc ls st
abbrev VRS (ro : RT) (M : MI) (sz : Nat) (Pr : Option Nat → AH → Prop) (h : AH) (pc : Nat) (ls : List (Option Value)) (st : List Value) : Prop := VS ro M (PR sz Pr) (sz, 0, 0) h pc ls st
def CnS (ro : RT) (y : MethodName) (M : MI) (av : List Value) (sz : Nat) (h : AH) (Post : Option Value → AH → Nat → Prop) : Prop :=
  ∀ (l : Launch) (G : en_G), Met l y (Cond.code y (MI.cc M) (MI.nL M) (MI.rt M) :: lw_good) (en_rm M) (va_Pc av (fun U => U.heap.size = sz ∧ en_P G h U.heap ∧ en_K G U ∧ en_S G (fun q => h q ≠ none ∨ sz ≤ q) U U.heap ∧ RO ro G (fun q => h q ≠ none ∨ sz ≤ q) U U.heap)) (en_Q G h sz Post) (MI.mc M) (MI.ms M) (fun q => h q ≠ none ∨ sz ≤ q)
def CIS (ro : RT) (y : MethodName) (M : MI) (av : List Value) (h : AH) (Pr : Int32 → AH → Prop) : Prop := ∀ sz, CnS ro y M av sz h (PI sz Pr)
def CVS (ro : RT) (y : MethodName) (M : MI) (av : List Value) (h : AH) (Pr : AH → Prop) : Prop := ∀ sz, CnS ro y M av sz h (PV sz Pr)
def CRS (ro : RT) (y : MethodName) (M : MI) (av : List Value) (h : AH) (Pr : Option Nat → AH → Prop) : Prop := ∀ sz, CnS ro y M av sz h (PR sz Pr)
abbrev CPS (ro : RT) (y : MethodName) (M : MI) (av : List Value) (h : AH) (v : Int32) : Prop := CIS ro y M av h (fun x h' => x = v ∧ h' = h)
theorem Cn.toS {ro : RT} {y : MethodName} {M : MI} {av : List Value} {sz : Nat} {h : AH} {Post : Option Value → AH → Nat → Prop} (C : Cn y M av sz h Post) : CnS ro y M av sz h Post := by
  intro l G p e h1 h2 h3 s m args below hf happ hP hK
  obtain ⟨q0, q1, q2, q3, q4, -⟩ := hP
  exact C l G p e h1 h2 h3 s m args below hf happ ⟨q0, q1, q2, q3, q4⟩ hK
theorem CI.toS {ro : RT} {y : MethodName} {M : MI} {av : List Value} {h : AH} {Pr : Int32 → AH → Prop} (C : CI y M av h Pr) : CIS ro y M av h Pr := fun sz => (C sz).toS
theorem CV.toS {ro : RT} {y : MethodName} {M : MI} {av : List Value} {h : AH} {Pr : AH → Prop} (C : CV y M av h Pr) : CVS ro y M av h Pr := fun sz => (C sz).toS
theorem CR.toS {ro : RT} {y : MethodName} {M : MI} {av : List Value} {h : AH} {Pr : Option Nat → AH → Prop} (C : CR y M av h Pr) : CRS ro y M av h Pr := fun sz => (C sz).toS
theorem CnS.post {ro : RT} {y : MethodName} {M : MI} {av : List Value} {sz : Nat} {h : AH} {P P2 : Option Value → AH → Nat → Prop} (hp : ∀ r h' z, P r h' z → P2 r h' z) (c : CnS ro y M av sz h P) : CnS ro y M av sz h P2 := by
  intro l G p e h1 h2 h3 s m args below hf happ hP hK
  obtain ⟨n, o, a1, a2, a3, ⟨r, h', e0, q, q2⟩, q3⟩ := c l G p e h1 h2 h3 s m args below hf happ hP hK
  exact ⟨n, o, a1, a2, a3, ⟨r, h', e0, hp _ _ _ q, q2⟩, q3⟩
theorem CIS.mono {ro : RT} {y : MethodName} {M : MI} {av : List Value} {h : AH} {P P2 : Int32 → AH → Prop} (c : CIS ro y M av h P) (hp : ∀ x h', P x h' → P2 x h') : CIS ro y M av h P2 := fun sz => (c sz).post (fun r h' z ⟨a, x, b, d⟩ => ⟨a, x, b, hp _ _ d⟩)

theorem CnS.ofVS {ro : RT} {y : MethodName} {M : MI} {av : List Value} {sz : Nat} {h : AH} {Post : Option Value → AH → Nat → Prop} (hy : plainName y.cls = true) (hown : MI.own M = y.cls) (hini : MI.ini M = true → y.name = "<init>") (h1 : ∀ v ∈ av, v.category = 1) (hn : av.length ≤ MI.nL M)
    (k : VS ro M Post (sz, 0, 0) h 0 (en_l0 (MI.nL M) av) []) : CnS ro y M av sz h Post := by
  intro l G
  refine Met.ofW (cc := MI.cc M) (maxL := MI.nL M) (ret := MI.rt M) hy rfl ?_
  intro p e s m args below meth c s₁ B hml hv
  obtain ⟨rfl, hsz, hP, hK, hT, hRO⟩ := hv
  have hts0 := atoms_spec (ws := Cond.code y (MI.cc M) (MI.nL M) (MI.rt M) :: lw_good) B.pre
  have hts : ∀ w ∈ lw_good, w.before av.toArray s = true := fun w hw => hts0 w (List.mem_cons_of_mem _ hw)
  rw [lg_entry_eq]
  refine k G p l e (en_rm M) s m av.toArray below meth c _ (fun q => h q ≠ none ∨ sz ≤ q) s.heap [] _ ⟨B.exec, B.bytes, hml, by rw [hown]; exact findClass_of_methodNamed B.named, hts, Nat.le_refl _, en_lo_ge _, Nat.le_refl _, Nat.le_refl _, fun q => by rw [(name_of_methodNamed B.named B.method).1]; exact hini q⟩ ?_ ⟨fun q hq => Or.inr (by omega), hRO⟩ hK hT hP hsz (fun q hq => Or.inl hq) va_S.rf (en_entry h1 hn)
  intro r h' H' locs' k' n' pc' lsA' hpost hP' hdm hS' hk' hn' hro
  have hlocks := B.notSynchronized
  refine W.widen hk' hn' ?_
  have hq : ∀ t : State, t.heap = H' → s.WarmedH t.vm → en_Q G h sz Post av.toArray s (.returned r) t := fun t ht hW => ⟨r, h', rfl, by rw [ht]; exact hpost, by rw [ht]; exact hP', hdm, hS'.F ht⟩
  rcases hro with ⟨h1, rfl, hd⟩ | ⟨h1, ⟨x, rfl, hx⟩, hd⟩ | ⟨h1, ⟨v, rfl⟩, hd⟩ | ⟨ty, x, h1, rfl, hx, hd⟩
  · exact W.vret B.exec B.bytes (B.returns.trans h1) hq hS'.2.2 hd
  · rcases h1 with h1 | h1
    · exact W.iret B.exec B.bytes (B.returns.trans h1) hq hS'.2.2 hd
    · exact W.zret B.exec B.bytes (B.returns.trans h1) (hx h1) hq hS'.2.2 hd
  · rcases h1 with ⟨C, h1⟩ | ⟨C, h1⟩ <;> exact W.aret B.exec B.bytes (B.returns.trans h1) (by first | exact Or.inl ⟨C, rfl⟩ | exact Or.inr ⟨C, rfl⟩) (by cases v with | none => exact Or.inl rfl | some a => exact Or.inr ⟨a, rfl⟩) hq hS'.2.2 hd
  · exact W.zret B.exec B.bytes (B.returns.trans h1) hx hq hS'.2.2 hd
section VS0
variable {ro : RT} {y : MethodName} {M : MI} {av : List Value} {h : AH}
theorem CIS.ofV {Pr : Int32 → AH → Prop} (hy : plainName y.cls = true) (hown : MI.own M = y.cls) (hini : MI.ini M = false) (h1 : ∀ v ∈ av, v.category = 1) (hn : av.length ≤ MI.nL M) (k : ∀ sz, VIS ro M sz Pr h 0 (en_l0 (MI.nL M) av) []) : CIS ro y M av h Pr := fun sz => CnS.ofVS hy hown (fun q => by rw [hini] at q; cases q) h1 hn (k sz)
theorem CVS.ofV {Pr : AH → Prop} (hy : plainName y.cls = true) (hown : MI.own M = y.cls) (hini : MI.ini M = false) (h1 : ∀ v ∈ av, v.category = 1) (hn : av.length ≤ MI.nL M) (k : ∀ sz, VVS ro M sz Pr h 0 (en_l0 (MI.nL M) av) []) : CVS ro y M av h Pr := fun sz => CnS.ofVS hy hown (fun q => by rw [hini] at q; cases q) h1 hn (k sz)
theorem CRS.ofV {Pr : Option Nat → AH → Prop} (hy : plainName y.cls = true) (hown : MI.own M = y.cls) (hini : MI.ini M = false) (h1 : ∀ v ∈ av, v.category = 1) (hn : av.length ≤ MI.nL M) (k : ∀ sz, VRS ro M sz Pr h 0 (en_l0 (MI.nL M) av) []) : CRS ro y M av h Pr := fun sz => CnS.ofVS hy hown (fun q => by rw [hini] at q; cases q) h1 hn (k sz)
end VS0
section VS1
variable {ro : RT} {M : MI} {Post : Option Value → AH → Nat → Prop} {al : Nat × Nat × Nat} {h : AH} {pc : Nat} {ls : List (Option Value)} {st st0 : List Value} {y : MethodName} {M2 : MI} {n idx b ci : Nat} {As fs : List Value} {r0 : vw_C}
variable {a sz : Nat} {off : Int} {tgt : Nat}
theorem VS.go {pc2 : Nat} {st2 : List Value} (f : ∀ {p : Program} {l : Launch} {e : Env} {R : Room} {s : State} {m : MethodId} {args : Array Value} {below : List Frame} {meth : Method} {c : Code} {H : Heap} {locs : List Jvm.Loc} {cells slots : Nat} {Q : State → Prop} {lsA : Array Slot},
    p.tables.exec = Jvm.exec → c.code = MI.cc M → en_L lsA (MI.nL M) ls → W p l e R s m args below meth c H locs cells slots Q (F0 m pc2 lsA st2) → W p l e R s m args below meth c H locs cells slots Q (F0 m pc lsA st))
    (k : VS ro M Post al h pc2 ls st2) : VS ro M Post al h pc ls st := by
  intro G p l e R s m args below meth c Q A H locs lsA hX hF hA hK hT hP hz hd hS hl
  exact f hX.1 hX.2.1 hl (k G p l e R s m args below meth c Q A H locs lsA hX hF hA hK hT hP hz hd hS hl)
theorem VS.store {pc2 : Nat} {st2 : List Value} {ls2 : List (Option Value)} (f : ∀ {p : Program} {l : Launch} {e : Env} {R : Room} {s : State} {m : MethodId} {args : Array Value} {below : List Frame} {meth : Method} {c : Code} {H : Heap} {locs : List Jvm.Loc} {cells slots : Nat} {Q : State → Prop} {lsA : Array Slot},
    p.tables.exec = Jvm.exec → c.code = MI.cc M → en_L lsA (MI.nL M) ls → (∀ lsB, en_L lsB (MI.nL M) ls2 → W p l e R s m args below meth c H locs cells slots Q (F0 m pc2 lsB st2)) → W p l e R s m args below meth c H locs cells slots Q (F0 m pc lsA st))
    (k : VS ro M Post al h pc2 ls2 st2) : VS ro M Post al h pc ls st := by
  intro G p l e R s m args below meth c Q A H locs lsA hX hF hA hK hT hP hz hd hS hl
  exact f hX.1 hX.2.1 hl (fun lsB hl2 => k G p l e R s m args below meth c Q A H locs lsB hX hF hA hK hT hP hz hd hS hl2)
theorem VS.forget {ls2 : List (Option Value)} (hlen : ls2.length ≤ ls.length) (hsub : ∀ (i : Nat) (v : Value), ls2[i]? = some (some v) → ls[i]? = some (some v)) (k : VS ro M Post al h pc ls2 st) : VS ro M Post al h pc ls st := by
  intro G p l e R s m args below meth c Q A H locs lsA hX hF hA hK hT hP hz hd hS hl
  obtain ⟨l1, h1, h3, h2⟩ := hl
  exact k G p l e R s m args below meth c Q A H locs lsA hX hF hA hK hT hP hz hd hS ⟨l1, h1, by omega, fun i v hi => h2 i v (hsub i v hi)⟩
theorem VS.post {Post2 : Option Value → AH → Nat → Prop} (hp : ∀ r h' z, Post2 r h' z → Post r h' z) (k : VS ro M Post2 al h pc ls st) : VS ro M Post al h pc ls st := by
  intro G p l e R s m args below meth c Q A H locs lsA hX hF hA hK hT hP hz hd hS hl
  exact k G p l e R s m args below meth c Q A H locs lsA hX (fun r h' H' locs' k' n' pc' lsA' q => hF r h' H' locs' k' n' pc' lsA' (hp _ _ _ q)) hA hK hT hP hz hd hS hl
theorem ze_iconst {n : Int} {v : Int32} (hd : decode (MI.cc M) pc = .ok (.iconst n, 1)) (hv : Int32.ofInt n = v) (k : VS ro M Post al h (pc + 1) ls (.int v :: st)) : VS ro M Post al h pc ls st := VS.go (fun hx hb _ w => lv_iconst hx hb hd hv w) k
theorem ze_bipush {n : Int} {v : Int32} (hd : decode (MI.cc M) pc = .ok (.bipush n, 2)) (hv : (Int8.ofInt n).toInt32 = v) (k : VS ro M Post al h (pc + 2) ls (.int v :: st)) : VS ro M Post al h pc ls st := VS.go (fun hx hb _ w => lv_bipush hx hb hd hv w) k
theorem ze_sipush {n : Int} {v : Int32} (hd : decode (MI.cc M) pc = .ok (.sipush n, 3)) (hv : (Int16.ofInt n).toInt32 = v) (k : VS ro M Post al h (pc + 3) ls (.int v :: st)) : VS ro M Post al h pc ls st := VS.go (fun hx hb _ w => lv_sipush hx hb hd hv w) k
theorem ze_null (hd : decode (MI.cc M) pc = .ok (.aconst_null, 1)) (k : VS ro M Post al h (pc + 1) ls (.null :: st)) : VS ro M Post al h pc ls st := VS.go (fun hx hb _ w => lv_null hx hb hd w) k
theorem ze_iload_n {i : Nat} {x : Int32} {k4 : Fin 4} (hd : decode (MI.cc M) pc = .ok (.iload_n k4, 1)) (hi : (k4 : Nat) = i) (hv : ls[i]? = some (some (.int x))) (k : VS ro M Post al h (pc + 1) ls (.int x :: st)) : VS ro M Post al h pc ls st := VS.go (fun hx hb hl w => lv_iload_n hx hb hd hi (hl.at hv) w) k
theorem ze_iload {i : Nat} {x : Int32} (hd : decode (MI.cc M) pc = .ok (.iload i, 2)) (hv : ls[i]? = some (some (.int x))) (k : VS ro M Post al h (pc + 2) ls (.int x :: st)) : VS ro M Post al h pc ls st := VS.go (fun hx hb hl w => lv_iload hx hb hd (hl.at hv) w) k
theorem ze_aload_n {i : Nat} {x : Nat} {k4 : Fin 4} (hd : decode (MI.cc M) pc = .ok (.aload_n k4, 1)) (hi : (k4 : Nat) = i) (hv : ls[i]? = some (some (.ref x))) (k : VS ro M Post al h (pc + 1) ls (.ref x :: st)) : VS ro M Post al h pc ls st := VS.go (fun hx hb hl w => lv_aload_n hx hb hd hi (hl.at hv) w) k
theorem ze_aload {i : Nat} {x : Nat} (hd : decode (MI.cc M) pc = .ok (.aload i, 2)) (hv : ls[i]? = some (some (.ref x))) (k : VS ro M Post al h (pc + 2) ls (.ref x :: st)) : VS ro M Post al h pc ls st := VS.go (fun hx hb hl w => lv_aload hx hb hd (hl.at hv) w) k
theorem ze_aload_nN {i : Nat} {k4 : Fin 4} (hd : decode (MI.cc M) pc = .ok (.aload_n k4, 1)) (hi : (k4 : Nat) = i) (hv : ls[i]? = some (some .null)) (k : VS ro M Post al h (pc + 1) ls (.null :: st)) : VS ro M Post al h pc ls st := VS.go (fun hx hb hl w => lv_aload_nN hx hb hd hi (hl.at hv) w) k
theorem ze_istore_n {i : Nat} {x : Int32} {k4 : Fin 4} (hd : decode (MI.cc M) pc = .ok (.istore_n k4, 1)) (hi : (k4 : Nat) = i) (hn : i < MI.nL M) (k : VS ro M Post al h (pc + 1) (ls.set i (some (.int x))) st) : VS ro M Post al h pc ls (.int x :: st) := VS.store (fun hx hb hl w => by
  obtain ⟨l1, h1, h3, h2⟩ := hl
  exact lv_istore_n hx hb hd hi h1 hn rfl (fun lsB hB => w lsB (en_L.put h3 h2 rfl hB))) k
theorem ze_istore {i : Nat} {x : Int32} (hd : decode (MI.cc M) pc = .ok (.istore i, 2)) (hn : i < MI.nL M) (k : VS ro M Post al h (pc + 2) (ls.set i (some (.int x))) st) : VS ro M Post al h pc ls (.int x :: st) := VS.store (fun hx hb hl w => by
  obtain ⟨l1, h1, h3, h2⟩ := hl
  exact lv_istore hx hb hd h1 hn rfl (fun lsB hB => w lsB (en_L.put h3 h2 rfl hB))) k
theorem ze_astore_n {i : Nat} {x : Nat} {k4 : Fin 4} (hd : decode (MI.cc M) pc = .ok (.astore_n k4, 1)) (hi : (k4 : Nat) = i) (hn : i < MI.nL M) (k : VS ro M Post al h (pc + 1) (ls.set i (some (.ref x))) st) : VS ro M Post al h pc ls (.ref x :: st) := VS.store (fun hx hb hl w => by
  obtain ⟨l1, h1, h3, h2⟩ := hl
  exact lv_astore_n hx hb hd hi h1 hn rfl (fun lsB hB => w lsB (en_L.put h3 h2 rfl hB))) k
theorem ze_astore {i : Nat} {x : Nat} (hd : decode (MI.cc M) pc = .ok (.astore i, 2)) (hn : i < MI.nL M) (k : VS ro M Post al h (pc + 2) (ls.set i (some (.ref x))) st) : VS ro M Post al h pc ls (.ref x :: st) := VS.store (fun hx hb hl w => by
  obtain ⟨l1, h1, h3, h2⟩ := hl
  exact lv_astore hx hb hd h1 hn rfl (fun lsB hB => w lsB (en_L.put h3 h2 rfl hB))) k
theorem ze_astore_nN {i : Nat} {k4 : Fin 4} (hd : decode (MI.cc M) pc = .ok (.astore_n k4, 1)) (hi : (k4 : Nat) = i) (hn : i < MI.nL M) (k : VS ro M Post al h (pc + 1) (ls.set i (some .null)) st) : VS ro M Post al h pc ls (.null :: st) := VS.store (fun hx hb hl w => by
  obtain ⟨l1, h1, h3, h2⟩ := hl
  exact lv_astore_nN hx hb hd hi h1 hn rfl (fun lsB hB => w lsB (en_L.put h3 h2 rfl hB))) k
theorem ze_iinc {i : Nat} {n : Int} {x v : Int32} (hd : decode (MI.cc M) pc = .ok (.iinc i n, 3)) (hx0 : ls[i]? = some (some (.int x))) (hv : x + Int32.ofInt n = v) (hn : i < MI.nL M) (k : VS ro M Post al h (pc + 3) (ls.set i (some (.int v))) st) : VS ro M Post al h pc ls st := VS.store (fun hx hb hl w => by
  obtain ⟨l1, h1, h3, h2⟩ := hl
  obtain ⟨kk, hkk⟩ := List.getElem?_of_mem (h2 _ _ hx0).2
  exact lv_iinc hx hb hd h1 hkk hv hn rfl (fun lsB hB => w lsB (en_L.put h3 h2 rfl hB))) k
theorem ze_dup {v : Value} (hd : decode (MI.cc M) pc = .ok (.dup, 1)) (hv : v.category = 1) (k : VS ro M Post al h (pc + 1) ls (v :: v :: st)) : VS ro M Post al h pc ls (v :: st) := VS.go (fun hx hb _ w => lv_dup hx hb hd hv w) k
theorem ze_dup2 {v u : Value} (hd : decode (MI.cc M) pc = .ok (.dup2, 1)) (hv : v.category = 1) (hu : u.category = 1) (k : VS ro M Post al h (pc + 1) ls (v :: u :: v :: u :: st)) : VS ro M Post al h pc ls (v :: u :: st) := VS.go (fun hx hb _ w => lv_dup2_11 hx hb hd hv hu w) k
theorem ze_pop {v : Value} (hd : decode (MI.cc M) pc = .ok (.pop, 1)) (hv : v.category = 1) (k : VS ro M Post al h (pc + 1) ls st) : VS ro M Post al h pc ls (v :: st) := VS.go (fun hx hb _ w => lv_pop hx hb hd hv w) k
theorem ze_iadd {x y : Int32} (hd : decode (MI.cc M) pc = .ok (.iadd, 1)) (k : VS ro M Post al h (pc + 1) ls (.int (x + y) :: st)) : VS ro M Post al h pc ls (.int y :: .int x :: st) := VS.go (fun hx hb _ w => lv_iadd hx hb hd w) k
theorem ze_isub {x y : Int32} (hd : decode (MI.cc M) pc = .ok (.isub, 1)) (k : VS ro M Post al h (pc + 1) ls (.int (x - y) :: st)) : VS ro M Post al h pc ls (.int y :: .int x :: st) := VS.go (fun hx hb _ w => lv_isub hx hb hd w) k
theorem ze_imul {x y : Int32} (hd : decode (MI.cc M) pc = .ok (.imul, 1)) (k : VS ro M Post al h (pc + 1) ls (.int (x * y) :: st)) : VS ro M Post al h pc ls (.int y :: .int x :: st) := VS.go (fun hx hb _ w => lv_imul hx hb hd w) k
theorem ze_idiv {x y : Int32} (hd : decode (MI.cc M) pc = .ok (.idiv, 1)) (hne : ¬ y = 0) (k : VS ro M Post al h (pc + 1) ls (.int (x / y) :: st)) : VS ro M Post al h pc ls (.int y :: .int x :: st) := VS.go (fun hx hb _ w => lv_idiv hx hb hd hne w) k
theorem ze_irem {x y : Int32} (hd : decode (MI.cc M) pc = .ok (.irem, 1)) (hne : ¬ y = 0) (k : VS ro M Post al h (pc + 1) ls (.int (x - x / y * y) :: st)) : VS ro M Post al h pc ls (.int y :: .int x :: st) := VS.go (fun hx hb _ w => lv_irem hx hb hd hne w) k
theorem ze_iand {x y : Int32} (hd : decode (MI.cc M) pc = .ok (.iand, 1)) (k : VS ro M Post al h (pc + 1) ls (.int (x &&& y) :: st)) : VS ro M Post al h pc ls (.int y :: .int x :: st) := VS.go (fun hx hb _ w => lv_iand hx hb hd w) k
theorem ze_ixor {x y : Int32} (hd : decode (MI.cc M) pc = .ok (.ixor, 1)) (k : VS ro M Post al h (pc + 1) ls (.int (x ^^^ y) :: st)) : VS ro M Post al h pc ls (.int y :: .int x :: st) := VS.go (fun hx hb _ w => lv_ixor hx hb hd w) k
theorem ze_top {x y : Int32} (e : x = y) (k : VS ro M Post al h pc ls (.int y :: st)) : VS ro M Post al h pc ls (.int x :: st) := by subst e; exact k
theorem ze_loc {ls2 : List (Option Value)} (e : ls = ls2) (k : VS ro M Post al h pc ls2 st) : VS ro M Post al h pc ls st := by subst e; exact k
theorem ze_heap {h2 : AH} (e : h = h2) (k : VS ro M Post al h2 pc ls st) : VS ro M Post al h pc ls st := by subst e; exact k
theorem ze_goto {off : Int} {tgt : Nat} (hd : decode (MI.cc M) pc = .ok (.goto off, 3)) (ht : (pc : Int) + off = (tgt : Int)) (k : VS ro M Post al h tgt ls st) : VS ro M Post al h pc ls st := VS.go (fun hx hb _ w => lv_goto hx hb hd ht w) k
theorem ze_if_eq {x : Int32} {off : Int} {tgt : Nat} (hd : decode (MI.cc M) pc = .ok (.ifCond .eq off, 3)) (ht : (pc : Int) + off = (tgt : Int)) (kt : x = 0 → VS ro M Post al h tgt ls st) (kf : ¬ x = 0 → VS ro M Post al h (pc + 3) ls st) : VS ro M Post al h pc ls (.int x :: st) := by
  intro G p l e R s m args below meth c Q A H locs lsA hX hF hA hK hT hP hz hd2 hS hl
  exact lv_if_eq hX.1 hX.2.1 hd ht (fun q => kt q G p l e R s m args below meth c Q A H locs lsA hX hF hA hK hT hP hz hd2 hS hl) (fun q => kf q G p l e R s m args below meth c Q A H locs lsA hX hF hA hK hT hP hz hd2 hS hl)
theorem ze_if_ne {x : Int32} {off : Int} {tgt : Nat} (hd : decode (MI.cc M) pc = .ok (.ifCond .ne off, 3)) (ht : (pc : Int) + off = (tgt : Int)) (kt : ¬ x = 0 → VS ro M Post al h tgt ls st) (kf : x = 0 → VS ro M Post al h (pc + 3) ls st) : VS ro M Post al h pc ls (.int x :: st) := by
  intro G p l e R s m args below meth c Q A H locs lsA hX hF hA hK hT hP hz hd2 hS hl
  exact lv_if_ne hX.1 hX.2.1 hd ht (fun q => kt q G p l e R s m args below meth c Q A H locs lsA hX hF hA hK hT hP hz hd2 hS hl) (fun q => kf q G p l e R s m args below meth c Q A H locs lsA hX hF hA hK hT hP hz hd2 hS hl)
theorem ze_if_lt {x : Int32} {off : Int} {tgt : Nat} (hd : decode (MI.cc M) pc = .ok (.ifCond .lt off, 3)) (ht : (pc : Int) + off = (tgt : Int)) (kt : x < 0 → VS ro M Post al h tgt ls st) (kf : ¬ x < 0 → VS ro M Post al h (pc + 3) ls st) : VS ro M Post al h pc ls (.int x :: st) := by
  intro G p l e R s m args below meth c Q A H locs lsA hX hF hA hK hT hP hz hd2 hS hl
  exact lv_if_lt hX.1 hX.2.1 hd ht (fun q => kt q G p l e R s m args below meth c Q A H locs lsA hX hF hA hK hT hP hz hd2 hS hl) (fun q => kf q G p l e R s m args below meth c Q A H locs lsA hX hF hA hK hT hP hz hd2 hS hl)
theorem ze_if_ge {x : Int32} {off : Int} {tgt : Nat} (hd : decode (MI.cc M) pc = .ok (.ifCond .ge off, 3)) (ht : (pc : Int) + off = (tgt : Int)) (kt : 0 ≤ x → VS ro M Post al h tgt ls st) (kf : ¬ 0 ≤ x → VS ro M Post al h (pc + 3) ls st) : VS ro M Post al h pc ls (.int x :: st) := by
  intro G p l e R s m args below meth c Q A H locs lsA hX hF hA hK hT hP hz hd2 hS hl
  exact lv_if_ge hX.1 hX.2.1 hd ht (fun q => kt q G p l e R s m args below meth c Q A H locs lsA hX hF hA hK hT hP hz hd2 hS hl) (fun q => kf q G p l e R s m args below meth c Q A H locs lsA hX hF hA hK hT hP hz hd2 hS hl)
theorem ze_if_gt {x : Int32} {off : Int} {tgt : Nat} (hd : decode (MI.cc M) pc = .ok (.ifCond .gt off, 3)) (ht : (pc : Int) + off = (tgt : Int)) (kt : 0 < x → VS ro M Post al h tgt ls st) (kf : ¬ 0 < x → VS ro M Post al h (pc + 3) ls st) : VS ro M Post al h pc ls (.int x :: st) := by
  intro G p l e R s m args below meth c Q A H locs lsA hX hF hA hK hT hP hz hd2 hS hl
  exact lv_if_gt hX.1 hX.2.1 hd ht (fun q => kt q G p l e R s m args below meth c Q A H locs lsA hX hF hA hK hT hP hz hd2 hS hl) (fun q => kf q G p l e R s m args below meth c Q A H locs lsA hX hF hA hK hT hP hz hd2 hS hl)
theorem ze_if_le {x : Int32} {off : Int} {tgt : Nat} (hd : decode (MI.cc M) pc = .ok (.ifCond .le off, 3)) (ht : (pc : Int) + off = (tgt : Int)) (kt : x ≤ 0 → VS ro M Post al h tgt ls st) (kf : ¬ x ≤ 0 → VS ro M Post al h (pc + 3) ls st) : VS ro M Post al h pc ls (.int x :: st) := by
  intro G p l e R s m args below meth c Q A H locs lsA hX hF hA hK hT hP hz hd2 hS hl
  exact lv_if_le hX.1 hX.2.1 hd ht (fun q => kt q G p l e R s m args below meth c Q A H locs lsA hX hF hA hK hT hP hz hd2 hS hl) (fun q => kf q G p l e R s m args below meth c Q A H locs lsA hX hF hA hK hT hP hz hd2 hS hl)
theorem ze_icmp_eq {x y : Int32} {off : Int} {tgt : Nat} (hd : decode (MI.cc M) pc = .ok (.if_icmp .eq off, 3)) (ht : (pc : Int) + off = (tgt : Int)) (kt : x = y → VS ro M Post al h tgt ls st) (kf : ¬ x = y → VS ro M Post al h (pc + 3) ls st) : VS ro M Post al h pc ls (.int y :: .int x :: st) := by
  intro G p l e R s m args below meth c Q A H locs lsA hX hF hA hK hT hP hz hd2 hS hl
  exact lv_icmp_eq hX.1 hX.2.1 hd ht (fun q => kt q G p l e R s m args below meth c Q A H locs lsA hX hF hA hK hT hP hz hd2 hS hl) (fun q => kf q G p l e R s m args below meth c Q A H locs lsA hX hF hA hK hT hP hz hd2 hS hl)
theorem ze_icmp_ne {x y : Int32} {off : Int} {tgt : Nat} (hd : decode (MI.cc M) pc = .ok (.if_icmp .ne off, 3)) (ht : (pc : Int) + off = (tgt : Int)) (kt : ¬ x = y → VS ro M Post al h tgt ls st) (kf : x = y → VS ro M Post al h (pc + 3) ls st) : VS ro M Post al h pc ls (.int y :: .int x :: st) := by
  intro G p l e R s m args below meth c Q A H locs lsA hX hF hA hK hT hP hz hd2 hS hl
  exact lv_icmp_ne hX.1 hX.2.1 hd ht (fun q => kt q G p l e R s m args below meth c Q A H locs lsA hX hF hA hK hT hP hz hd2 hS hl) (fun q => kf q G p l e R s m args below meth c Q A H locs lsA hX hF hA hK hT hP hz hd2 hS hl)
theorem ze_icmp_lt {x y : Int32} {off : Int} {tgt : Nat} (hd : decode (MI.cc M) pc = .ok (.if_icmp .lt off, 3)) (ht : (pc : Int) + off = (tgt : Int)) (kt : x < y → VS ro M Post al h tgt ls st) (kf : ¬ x < y → VS ro M Post al h (pc + 3) ls st) : VS ro M Post al h pc ls (.int y :: .int x :: st) := by
  intro G p l e R s m args below meth c Q A H locs lsA hX hF hA hK hT hP hz hd2 hS hl
  exact lv_icmp_lt hX.1 hX.2.1 hd ht (fun q => kt q G p l e R s m args below meth c Q A H locs lsA hX hF hA hK hT hP hz hd2 hS hl) (fun q => kf q G p l e R s m args below meth c Q A H locs lsA hX hF hA hK hT hP hz hd2 hS hl)
theorem ze_icmp_ge {x y : Int32} {off : Int} {tgt : Nat} (hd : decode (MI.cc M) pc = .ok (.if_icmp .ge off, 3)) (ht : (pc : Int) + off = (tgt : Int)) (kt : y ≤ x → VS ro M Post al h tgt ls st) (kf : ¬ y ≤ x → VS ro M Post al h (pc + 3) ls st) : VS ro M Post al h pc ls (.int y :: .int x :: st) := by
  intro G p l e R s m args below meth c Q A H locs lsA hX hF hA hK hT hP hz hd2 hS hl
  exact lv_icmp_ge hX.1 hX.2.1 hd ht (fun q => kt q G p l e R s m args below meth c Q A H locs lsA hX hF hA hK hT hP hz hd2 hS hl) (fun q => kf q G p l e R s m args below meth c Q A H locs lsA hX hF hA hK hT hP hz hd2 hS hl)
theorem ze_icmp_gt {x y : Int32} {off : Int} {tgt : Nat} (hd : decode (MI.cc M) pc = .ok (.if_icmp .gt off, 3)) (ht : (pc : Int) + off = (tgt : Int)) (kt : y < x → VS ro M Post al h tgt ls st) (kf : ¬ y < x → VS ro M Post al h (pc + 3) ls st) : VS ro M Post al h pc ls (.int y :: .int x :: st) := by
  intro G p l e R s m args below meth c Q A H locs lsA hX hF hA hK hT hP hz hd2 hS hl
  exact lv_icmp_gt hX.1 hX.2.1 hd ht (fun q => kt q G p l e R s m args below meth c Q A H locs lsA hX hF hA hK hT hP hz hd2 hS hl) (fun q => kf q G p l e R s m args below meth c Q A H locs lsA hX hF hA hK hT hP hz hd2 hS hl)
theorem ze_icmp_le {x y : Int32} {off : Int} {tgt : Nat} (hd : decode (MI.cc M) pc = .ok (.if_icmp .le off, 3)) (ht : (pc : Int) + off = (tgt : Int)) (kt : x ≤ y → VS ro M Post al h tgt ls st) (kf : ¬ x ≤ y → VS ro M Post al h (pc + 3) ls st) : VS ro M Post al h pc ls (.int y :: .int x :: st) := by
  intro G p l e R s m args below meth c Q A H locs lsA hX hF hA hK hT hP hz hd2 hS hl
  exact lv_icmp_le hX.1 hX.2.1 hd ht (fun q => kt q G p l e R s m args below meth c Q A H locs lsA hX hF hA hK hT hP hz hd2 hS hl) (fun q => kf q G p l e R s m args below meth c Q A H locs lsA hX hF hA hK hT hP hz hd2 hS hl)
theorem ze_ifnonnull {x : Nat} {off : Int} {tgt : Nat} (hd : decode (MI.cc M) pc = .ok (.ifnonnull off, 3)) (ht : (pc : Int) + off = (tgt : Int)) (k : VS ro M Post al h tgt ls st) : VS ro M Post al h pc ls (.ref x :: st) := VS.go (fun hx hb _ w => lv_ifnonnull hx hb hd ht w) k
theorem ze_ifnonnullN {off : Int} (hd : decode (MI.cc M) pc = .ok (.ifnonnull off, 3)) (k : VS ro M Post al h (pc + 3) ls st) : VS ro M Post al h pc ls (.null :: st) := VS.go (fun hx hb _ w => lv_ifnonnullN hx hb hd w) k
theorem ze_ifnull {x : Nat} {off : Int} (hd : decode (MI.cc M) pc = .ok (.ifnull off, 3)) (k : VS ro M Post al h (pc + 3) ls st) : VS ro M Post al h pc ls (.ref x :: st) := VS.go (fun hx hb _ w => lv_ifnull hx hb hd w) k
theorem ze_ifnullN {off : Int} {tgt : Nat} (hd : decode (MI.cc M) pc = .ok (.ifnull off, 3)) (ht : (pc : Int) + off = (tgt : Int)) (k : VS ro M Post al h tgt ls st) : VS ro M Post al h pc ls (.null :: st) := VS.go (fun hx hb _ w => lv_ifnullN hx hb hd ht w) k
theorem ze_switchOut {dflt lo hi : Int} {offs : Array Int} {len : Nat} {x : Int32} {tgt : Nat} (hd : decode (MI.cc M) pc = .ok (.tableswitch dflt lo hi offs, len)) (hq : x.toInt < lo ∨ hi < x.toInt) (ht : (pc : Int) + dflt = (tgt : Int)) (k : VS ro M Post al h tgt ls st) : VS ro M Post al h pc ls (.int x :: st) := VS.go (fun hx hb _ w => lv_tableOut hx hb hd hq ht w) k
theorem ze_switchIn {dflt lo hi : Int} {offs : Array Int} {len : Nat} {x : Int32} {off : Int} {tgt : Nat} (hd : decode (MI.cc M) pc = .ok (.tableswitch dflt lo hi offs, len)) (h1 : ¬ x.toInt < lo) (h2 : ¬ hi < x.toInt) (ho : offs[(x.toInt - lo).toNat]? = some off) (ht : (pc : Int) + off = (tgt : Int)) (k : VS ro M Post al h tgt ls st) : VS ro M Post al h pc ls (.int x :: st) := VS.go (fun hx hb _ w => lv_tableIn hx hb hd h1 h2 ho ht w) k
theorem ze_ishr {x y : Int32} (hd : decode (MI.cc M) pc = .ok (.ishr, 1)) (k : VS ro M Post al h (pc + 1) ls (.int (x >>> (y &&& 31)) :: st)) : VS ro M Post al h pc ls (.int y :: .int x :: st) := VS.go (fun hx hb _ w => lv_ishr hx hb hd w) k
theorem ze_iushr {x y : Int32} (hd : decode (MI.cc M) pc = .ok (.iushr, 1)) (k : VS ro M Post al h (pc + 1) ls (.int ((x.toUInt32 >>> (y.toUInt32 &&& Int32.toUInt32 31)).toInt32) :: st)) : VS ro M Post al h pc ls (.int y :: .int x :: st) := VS.go (fun hx hb _ w => lv_iushr hx hb hd rfl w) k
theorem ze_get {idx ci kf a : Nat} {fs : List Value} {v : Value} (f : FL (MI.own M) idx ci kf) (hd : decode (MI.cc M) pc = .ok (.getfield idx, 3)) (hh : h a = some (ob ci fs)) (hv : fs[kf]? = some v) (k : VS ro M Post al h (pc + 3) ls (v :: st)) : VS ro M Post al h pc ls (.ref a :: st) := by
  intro G p l e R s m args below meth c Q A H locs lsA hX hF hA hK hT hP hz hd2 hS hl
  obtain ⟨C, T, N, hc, hk, hin, hl'⟩ := f
  obtain ⟨hx, hb, hml, hown, hts, -⟩ := id hX
  exact va_get hx hb hts hin hown hK.1 (en_P.one hP hh) 0 (fs := fs) rfl hc kf hk (hts _ hl') (fun _ q => q) hv hd (k G p l e R s m args below meth c Q A H locs lsA hX hF hA hK hT hP hz hd2 hS hl)
theorem ze_put {idx ci kf a : Nat} {fs : List Value} {v : Value} {ty : FieldType} (f : PL (MI.own M) idx ci kf ty false) (hd : decode (MI.cc M) pc = .ok (.putfield idx, 3)) (hh : h a = some (ob ci fs)) (hn : narrow ty v = v) (hft : fits ty v = true) (hl0 : kf < fs.length) (k : VS ro M Post al (hset h a (ob ci (fs.set kf v))) (pc + 3) ls st) : VS ro M Post al h pc ls (v :: .ref a :: st) := by
  intro G p l e R s m args below meth c Q A H locs lsA hX hF hA hK hT hP hz hd2 hS hl
  obtain ⟨C, T, N, ty0, hc, hk, hin, hl', hty, hnm, hfin, rfl, -⟩ := f
  obtain ⟨hx, hb, hml, hown, hts, -⟩ := id hX
  have hap := va_apart (own := MI.own M) hts hin ty0 hty hnm hK.1 hc
  obtain ⟨r, h1, cell, q1, q2, q3, q4⟩ := hP a _ hh
  have hr : r = (C, T, N) := Option.some.inj (h1.symm.trans hc)
  subst hr
  obtain ⟨hS', hfc, kC, hkC, hkind⟩ := hK.1.1 ci _ hc
  obtain ⟨cf, kf', fi, f, hi, hsl⟩ := hS' kf hk
  have hlay := hts _ (hin _ (u_in_lay hk))
  unfold u_lay at hlay
  rw [if_neg (by rw [hfin]; decide)] at hlay
  have hst := (u_facts hfc hkC (u_lays hts hin hk) hi).1
  have h6 := u_store hfc hkC hkind hlay hi (hty kf hk) hn hft
  refine W.putK hx hb (f := f) ⟨hown, hts _ hl', ⟨_, _, _, hi⟩, hst⟩ (by rw [q2]; exact h6) q1 q3 (by rw [hsl]; exact k2_hasslot (q4 kf hk)) rfl rfl hd fun H' e1 e2 e3 => ?_
  rw [hsl] at e1 ⊢
  have ha : A a := hd2 a (by rw [hh]; exact fun z => by cases z)
  exact k G p l e R s m args below meth c Q A H' _ lsA hX hF hA hK hT (hP.put (x := ob ci (fs.set kf v)) ⟨_, hc, t_OB.to (V := updV (vp_V fs) kf v) ⟨_, e1, q2, q3, t_set q4 hap hk v⟩ (fun j _ => vp_updV_set hl0 v j)⟩ e3) (e2.trans hz) (en_dom hd2 ha) (hS.put e2 e3 ha) hl
theorem ze_putF {idx ci kf a : Nat} {fs : List Value} {v : Value} {ty : FieldType} (f : PL (MI.own M) idx ci kf ty true) (hini : MI.ini M = true) (hd : decode (MI.cc M) pc = .ok (.putfield idx, 3)) (hh : h a = some (ob ci fs)) (hn : narrow ty v = v) (hft : fits ty v = true) (hl0 : kf < fs.length) (k : VS ro M Post al (hset h a (ob ci (fs.set kf v))) (pc + 3) ls st) : VS ro M Post al h pc ls (v :: .ref a :: st) := by
  intro G p l e R s m args below meth c Q A H locs lsA hX hF hA hK hT hP hz hd2 hS hl
  obtain ⟨C, T, N, ty0, hc, hk, hin, hl', hty, hnm, hfin, rfl, hdecl⟩ := f
  obtain ⟨hx, hb, hml, hown, hts, -, -, -, -, hin2⟩ := id hX
  have hap := va_apart (own := MI.own M) hts hin ty0 hty hnm hK.1 hc
  obtain ⟨r, h1, cell, q1, q2, q3, q4⟩ := hP a _ hh
  have hr : r = (C, T, N) := Option.some.inj (h1.symm.trans hc)
  subst hr
  obtain ⟨hS', hfc, kC, hkC, hkind⟩ := hK.1.1 ci _ hc
  obtain ⟨cf, kf', fi, f, hi, hsl⟩ := hS' kf hk
  have hlay := hts _ (hin _ (u_in_lay hk))
  unfold u_lay at hlay
  rw [if_pos hfin] at hlay
  have hst := (u_facts hfc hkC (u_lays hts hin hk) hi).1
  have hcf : m.cls = cf := by
    obtain ⟨_, _, c', _, _, _, -, -, hf', -, -, -, hown2, -⟩ := Cond.laysFinal_spec hlay
    have e1 : c' = cf := by have := hi.symm.trans hf'; simp at this; exact this.1.symm
    rw [hdecl rfl] at hown2
    rw [← e1]; exact Option.some.inj (hown.symm.trans hown2)
  have h6 := u_fits hfc hkC hkind (Or.inr hlay) hi (hty kf hk) hn hft
  refine W.putFinK hx hb hown (hts _ hl') hi hst hcf (hin2 hini) (by rw [q2]; exact h6) q1 q3 (by rw [hsl]; exact k2_hasslot (q4 kf hk)) rfl rfl hd fun H' e1 e2 e3 => ?_
  rw [hsl] at e1 ⊢
  have ha : A a := hd2 a (by rw [hh]; exact fun z => by cases z)
  exact k G p l e R s m args below meth c Q A H' _ lsA hX hF hA hK hT (hP.put (x := ob ci (fs.set kf v)) ⟨_, hc, t_OB.to (V := updV (vp_V fs) kf v) ⟨_, e1, q2, q3, t_set q4 hap hk v⟩ (fun j _ => vp_updV_set hl0 v j)⟩ e3) (e2.trans hz) (en_dom hd2 ha) (hS.put e2 e3 ha) hl
theorem ze_iald {a n : Nat} {f : Nat → Int32} {i : Int32} (hd : decode (MI.cc M) pc = .ok (.iaload, 1)) (hh : h a = some (aI n f)) (hin : vp_in i n) (k : VS ro M Post al h (pc + 1) ls (.int (f i.toNatClampNeg) :: st)) : VS ro M Post al h pc ls (.int i :: .ref a :: st) := by
  intro G p l e R s m args below meth c Q A H locs lsA hX hF hA hK hT hP hz hd2 hS hl
  exact va_iald hX.1 hX.2.1 hK.1 (en_P.one hP hh) 0 0 rfl rfl hin hd (k G p l e R s m args below meth c Q A H locs lsA hX hF hA hK hT hP hz hd2 hS hl)
theorem ze_ialdN {a n : Nat} {f : Nat → Int32} {i : Int32} (j : Nat) (hd : decode (MI.cc M) pc = .ok (.iaload, 1)) (hh : h a = some (aI n f)) (hi : i = nI j) (hj : j < n) (hn : n < 2 ^ 31) (k : VS ro M Post al h (pc + 1) ls (.int (f j) :: st)) : VS ro M Post al h pc ls (.int i :: .ref a :: st) := by
  subst hi
  exact ze_iald hd hh (vp_in_nI hj hn) (by rw [nI_clamp (by omega)]; exact k)
theorem ze_zald {a n : Nat} {f : Nat → Int32} {i : Int32} (hd : decode (MI.cc M) pc = .ok (.baload, 1)) (hh : h a = some (aZ n f)) (hin : vp_in i n) (k : VS ro M Post al h (pc + 1) ls (.int (f i.toNatClampNeg) :: st)) : VS ro M Post al h pc ls (.int i :: .ref a :: st) := by
  intro G p l e R s m args below meth c Q A H locs lsA hX hF hA hK hT hP hz hd2 hS hl
  exact va_zald hX.1 hX.2.1 hK.1 (en_P.one hP hh) 0 1 rfl rfl hin hd (k G p l e R s m args below meth c Q A H locs lsA hX hF hA hK hT hP hz hd2 hS hl)
theorem ze_zaldN {a n : Nat} {f : Nat → Int32} {i : Int32} (j : Nat) (hd : decode (MI.cc M) pc = .ok (.baload, 1)) (hh : h a = some (aZ n f)) (hi : i = nI j) (hj : j < n) (hn : n < 2 ^ 31) (k : VS ro M Post al h (pc + 1) ls (.int (f j) :: st)) : VS ro M Post al h pc ls (.int i :: .ref a :: st) := by
  subst hi
  exact ze_zald hd hh (vp_in_nI hj hn) (by rw [nI_clamp (by omega)]; exact k)
theorem ze_iast {a n : Nat} {f : Nat → Int32} {i x : Int32} (hd : decode (MI.cc M) pc = .ok (.iastore, 1)) (hh : h a = some (aI n f)) (hin : vp_in i n) (k : VS ro M Post al (hset h a (aI n (upd f i.toNatClampNeg x))) (pc + 1) ls st) : VS ro M Post al h pc ls (.int x :: .int i :: .ref a :: st) := by
  intro G p l e R s m args below meth c Q A H locs lsA hX hF hA hK hT hP hz hd2 hS hl
  have ha : A a := hd2 a (by rw [hh]; exact fun z => by cases z)
  refine W.iast hX.1 hX.2.1 (hP a _ hh) ((hK.1.2 0 _ rfl).1 n (fun j => .int (f j))) (fun q => by cases q) (by show ¬ (i < 0 ∨ (arrV _ _ _).slots.size ≤ _); rw [arrV_size]; exact hin) rfl rfl hd fun H1 e1 z oq => ?_
  refine k G p l e R s m args below meth c Q A H1 _ lsA hX hF hA hK hT (hP.put ?_ oq) (z.trans hz) (en_dom hd2 ha) (hS.put z oq ha) hl
  show H1[a]? = some (vp_cell _ _)
  rw [e1]
  show some ((vp_cell _ (n, .inl f)).setSlot _ _) = some (vp_cell _ (n, .inl _))
  rw [vp_cell_i, vp_cell_i, arrV_store]
  congr 2
  funext q
  by_cases hq : q = i.toNatClampNeg
  · subst hq
    simp [updV, upd]
    try rfl
  · simp [updV, upd, hq]
theorem ze_iastN {a n : Nat} {f : Nat → Int32} {i x : Int32} (j : Nat) (hd : decode (MI.cc M) pc = .ok (.iastore, 1)) (hh : h a = some (aI n f)) (hi : i = nI j) (hj : j < n) (hn : n < 2 ^ 31) (k : VS ro M Post al (hset h a (aI n (upd f j x))) (pc + 1) ls st) : VS ro M Post al h pc ls (.int x :: .int i :: .ref a :: st) := by
  subst hi
  exact ze_iast hd hh (vp_in_nI hj hn) (by rw [nI_clamp (by omega)]; exact k)
theorem ze_zast {a n : Nat} {f : Nat → Int32} {i x : Int32} (hd : decode (MI.cc M) pc = .ok (.bastore, 1)) (hh : h a = some (aZ n f)) (hin : vp_in i n) (k : VS ro M Post al (hset h a (aZ n (upd f i.toNatClampNeg (vp_nar .boolean x)))) (pc + 1) ls st) : VS ro M Post al h pc ls (.int x :: .int i :: .ref a :: st) := by
  intro G p l e R s m args below meth c Q A H locs lsA hX hF hA hK hT hP hz hd2 hS hl
  have ha : A a := hd2 a (by rw [hh]; exact fun z => by cases z)
  refine W.zast hX.1 hX.2.1 (hP a _ hh) ((hK.1.2 1 _ rfl).1 n (fun j => .int (f j))) (fun q => by cases q) (by show ¬ (i < 0 ∨ (arrV _ _ _).slots.size ≤ _); rw [arrV_size]; exact hin) rfl rfl hd fun H1 e1 z oq => ?_
  refine k G p l e R s m args below meth c Q A H1 _ lsA hX hF hA hK hT (hP.put ?_ oq) (z.trans hz) (en_dom hd2 ha) (hS.put z oq ha) hl
  show H1[a]? = some (vp_cell _ _)
  rw [e1]
  show some ((vp_cell _ (n, .inl f)).setSlot _ _) = some (vp_cell _ (n, .inl _))
  rw [vp_cell_i, vp_cell_i, arrV_store]
  congr 2
  funext q
  by_cases hq : q = i.toNatClampNeg
  · subst hq
    simp [updV, upd, vp_nar]
    try rfl
  · simp [updV, upd, hq]
theorem ze_zastN {a n : Nat} {f : Nat → Int32} {i x : Int32} (j : Nat) (hd : decode (MI.cc M) pc = .ok (.bastore, 1)) (hh : h a = some (aZ n f)) (hi : i = nI j) (hj : j < n) (hn : n < 2 ^ 31) (k : VS ro M Post al (hset h a (aZ n (upd f j (vp_nar .boolean x)))) (pc + 1) ls st) : VS ro M Post al h pc ls (.int x :: .int i :: .ref a :: st) := by
  subst hi
  exact ze_zast hd hh (vp_in_nI hj hn) (by rw [nI_clamp (by omega)]; exact k)
theorem ze_alen {a : Nat} {x : Nat × vp_A} {v : Int32} (hd : decode (MI.cc M) pc = .ok (.arraylength, 1)) (hh : h a = some (.inl x)) (hx3 : x.1 < 6) (hv : nI x.2.1 = v) (k : VS ro M Post al h (pc + 1) ls (.int v :: st)) : VS ro M Post al h pc ls (.ref a :: st) := by
  intro G p l e R s m args below meth c Q A H locs lsA hX hF hA hK hT hP hz hd2 hS hl
  obtain ⟨t0, y⟩ := x
  have ht : (en_tys G)[t0]? = some (G.2.1 t0, (match t0 with | 0 => FieldType.int | 1 => .boolean | 2 => .array .int | 4 => .byte | 5 => .array (.array .int) | _ => .object RX9)) := by
    have : t0 < 6 := hx3
    match t0, this with
    | 0, _ => rfl
    | 1, _ => rfl
    | 2, _ => rfl
    | 3, _ => rfl
    | 4, _ => rfl
    | 5, _ => rfl
  exact va_alen hX.1 hX.2.1 hK.1 (en_P.one hP hh) 0 t0 rfl ht hv hd (k G p l e R s m args below meth c Q A H locs lsA hX hF hA hK hT hP hz hd2 hS hl)
theorem ze_aldQ {a n : Nat} {f : Nat → Option Nat} {i : Int32} (j : Nat) (hd : decode (MI.cc M) pc = .ok (.aaload, 1)) (hh : h a = some (aQ n f)) (hi : i = nI j) (hj : j < n) (hn : n < 2 ^ 31) (k : VS ro M Post al h (pc + 1) ls (va_rf (f j) :: st)) : VS ro M Post al h pc ls (.int i :: .ref a :: st) := by
  subst hi
  intro G p l e R s m args below meth c Q A H locs lsA hX hF hA hK hT hP hz hd2 hS hl
  exact va_aldq hX.1 hX.2.1 hK.1 (en_P.one hP hh) 0 3 rfl rfl (vp_in_nI hj hn) hd (by rw [nI_clamp (by omega)]; exact k G p l e R s m args below meth c Q A H locs lsA hX hF hA hK hT hP hz hd2 hS hl)
theorem ze_aldG {a n : Nat} {f : Nat → Option Nat} {i : Int32} (j : Nat) (hd : decode (MI.cc M) pc = .ok (.aaload, 1)) (hh : h a = some (aG n f)) (hi : i = nI j) (hj : j < n) (hn : n < 2 ^ 31) (k : VS ro M Post al h (pc + 1) ls (va_rf (f j) :: st)) : VS ro M Post al h pc ls (.int i :: .ref a :: st) := by
  subst hi
  intro G p l e R s m args below meth c Q A H locs lsA hX hF hA hK hT hP hz hd2 hS hl
  refine W.aald (v := va_rf (f j)) (ty := .array .int) hX.1 hX.2.1 (hP a _ hh) ((hK.1.2 2 _ rfl).1 n (fun j => va_rf (f j))) rfl (fun q => by cases q) (by show ¬ (nI j < 0 ∨ (arrV _ _ _).slots.size ≤ _); rw [arrV_size]; exact vp_in_nI hj hn) (by show (arrV _ _ _).slots[_]? = _; rw [nI_clamp (by omega), arrV_read _ _ hj]) rfl rfl hd (k G p l e R s m args below meth c Q A H locs lsA hX hF hA hK hT hP hz hd2 hS hl)
theorem ze_ret {lim : al.2.1 ≤ MI.mc M ∧ al.2.2 ≤ MI.ms M} (r : Option Value) (hro : en_ro (MI.rt M) r (MI.cc M) pc) (hp : Post r h al.1) : VS ro M Post al h pc ls r.toList := by
  intro G p l e R s m args below meth c Q A H locs lsA hX hF hA hK hT hP hz hd2 hS hl
  exact hF r h H locs al.2.1 al.2.2 pc lsA (by rw [hz]; exact hp) hP hd2 hS lim.1 lim.2 hro
theorem ze_vret (hd : decode (MI.cc M) pc = .ok (.return_, 1)) (hr : MI.rt M = none) (lim : al.2.1 ≤ MI.mc M ∧ al.2.2 ≤ MI.ms M) (hp : Post none h al.1) : VS ro M Post al h pc ls [] := ze_ret (lim := lim) none (Or.inl ⟨hr, rfl, hd⟩) hp
theorem ze_iret {x : Int32} (hd : decode (MI.cc M) pc = .ok (.ireturn, 1)) (hr : MI.rt M = some .int) (lim : al.2.1 ≤ MI.mc M ∧ al.2.2 ≤ MI.ms M) (hp : Post (some (.int x)) h al.1) : VS ro M Post al h pc ls [.int x] := ze_ret (lim := lim) (some (.int x)) (Or.inr (Or.inl ⟨Or.inl hr, ⟨x, rfl, fun q => absurd (hr.symm.trans q) (by decide)⟩, hd⟩)) hp
theorem ze_zret {x : Int32} (hd : decode (MI.cc M) pc = .ok (.ireturn, 1)) (hr : MI.rt M = some .boolean) (hx : narrow .boolean (.int x) = .int x) (lim : al.2.1 ≤ MI.mc M ∧ al.2.2 ≤ MI.ms M) (hp : Post (some (.int x)) h al.1) : VS ro M Post al h pc ls [.int x] := ze_ret (lim := lim) (some (.int x)) (Or.inr (Or.inl ⟨Or.inr hr, ⟨x, rfl, fun _ => hx⟩, hd⟩)) hp
theorem ze_nret {x : Int32} {ty : FieldType} (hd : decode (MI.cc M) pc = .ok (.ireturn, 1)) (hr : MI.rt M = some ty) (hx : narrow ty (.int x) = .int x) (lim : al.2.1 ≤ MI.mc M ∧ al.2.2 ≤ MI.ms M) (hp : Post (some (.int x)) h al.1) : VS ro M Post al h pc ls [.int x] := ze_ret (lim := lim) (some (.int x)) (Or.inr (Or.inr (Or.inr ⟨ty, x, hr, rfl, hx, hd⟩))) hp
theorem ze_aret {v : Option Nat} (hd : decode (MI.cc M) pc = .ok (.areturn, 1)) (hr : ∃ C, MI.rt M = some (.object C)) (lim : al.2.1 ≤ MI.mc M ∧ al.2.2 ≤ MI.ms M) (hp : Post (some (va_rf v)) h al.1) : VS ro M Post al h pc ls [va_rf v] := ze_ret (lim := lim) (some (va_rf v)) (Or.inr (Or.inr (Or.inl ⟨Or.inl hr, ⟨v, rfl⟩, hd⟩))) hp
theorem zn_iadd {a b : Nat} (hd : decode (MI.cc M) pc = .ok (.iadd, 1)) (k : VS ro M Post al h (pc + 1) ls (.int (nI (a + b)) :: st)) : VS ro M Post al h pc ls (.int (nI b) :: .int (nI a) :: st) := ze_iadd hd (by rw [nI_add]; exact k)
theorem zn_imul {a b : Nat} (hd : decode (MI.cc M) pc = .ok (.imul, 1)) (k : VS ro M Post al h (pc + 1) ls (.int (nI (a * b)) :: st)) : VS ro M Post al h pc ls (.int (nI b) :: .int (nI a) :: st) := ze_imul hd (by rw [pk_mul]; exact k)
theorem zn_isub {a b : Nat} (hd : decode (MI.cc M) pc = .ok (.isub, 1)) (hb : b ≤ a) (k : VS ro M Post al h (pc + 1) ls (.int (nI (a - b)) :: st)) : VS ro M Post al h pc ls (.int (nI b) :: .int (nI a) :: st) := ze_isub hd (by rw [pk_sub hb]; exact k)
theorem zn_idiv {a b : Nat} (hd : decode (MI.cc M) pc = .ok (.idiv, 1)) (ha : a < 2 ^ 31) (h0 : 0 < b) (hb : b < 2 ^ 31) (k : VS ro M Post al h (pc + 1) ls (.int (nI (a / b)) :: st)) : VS ro M Post al h pc ls (.int (nI b) :: .int (nI a) :: st) := ze_idiv hd (nI_ne0 h0 hb) (by rw [pk_div ha h0 hb]; exact k)
theorem zn_irem {a b : Nat} (hd : decode (MI.cc M) pc = .ok (.irem, 1)) (ha : a < 2 ^ 31) (h0 : 0 < b) (hb : b < 2 ^ 31) (k : VS ro M Post al h (pc + 1) ls (.int (nI (a % b)) :: st)) : VS ro M Post al h pc ls (.int (nI b) :: .int (nI a) :: st) := ze_irem hd (nI_ne0 h0 hb) (by rw [pk_rem ha h0 hb]; exact k)
theorem zn_iconst {n : Int} (v : Nat) (hd : decode (MI.cc M) pc = .ok (.iconst n, 1)) (hv : Int32.ofInt n = nI v) (k : VS ro M Post al h (pc + 1) ls (.int (nI v) :: st)) : VS ro M Post al h pc ls st := ze_iconst hd hv k
theorem zn_bipush {n : Int} (v : Nat) (hd : decode (MI.cc M) pc = .ok (.bipush n, 2)) (hv : (Int8.ofInt n).toInt32 = nI v) (k : VS ro M Post al h (pc + 2) ls (.int (nI v) :: st)) : VS ro M Post al h pc ls st := ze_bipush hd hv k
theorem zn_sipush {n : Int} (v : Nat) (hd : decode (MI.cc M) pc = .ok (.sipush n, 3)) (hv : (Int16.ofInt n).toInt32 = nI v) (k : VS ro M Post al h (pc + 3) ls (.int (nI v) :: st)) : VS ro M Post al h pc ls st := ze_sipush hd hv k
theorem zn_inc {i x : Nat} (hd : decode (MI.cc M) pc = .ok (.iinc i 1, 3)) (hx : ls[i]? = some (some (.int (nI x)))) (hn : i < MI.nL M) (k : VS ro M Post al h (pc + 3) (ls.set i (some (.int (nI (x + 1))))) st) : VS ro M Post al h pc ls st := ze_iinc hd hx (by rw [nI_succ]; rfl) hn k
theorem zn_dec {i x : Nat} (hd : decode (MI.cc M) pc = .ok (.iinc i (-1), 3)) (hx : ls[i]? = some (some (.int (nI (x + 1))))) (hn : i < MI.nL M) (k : VS ro M Post al h (pc + 3) (ls.set i (some (.int (nI x)))) st) : VS ro M Post al h pc ls st := ze_iinc hd hx (by rw [nI_succ, Int32.add_assoc]; show nI x + (1 + -1) = nI x; rw [show (1 : Int32) + -1 = 0 by decide]; exact Int32.add_zero _) hn k
theorem zn_dec0 {i : Nat} (hd : decode (MI.cc M) pc = .ok (.iinc i (-1), 3)) (hx : ls[i]? = some (some (.int (nI 0)))) (hn : i < MI.nL M) (k : VS ro M Post al h (pc + 3) (ls.set i (some (.int (-1)))) st) : VS ro M Post al h pc ls st := ze_iinc hd hx (by decide) hn k
theorem zn_icmp_lt (hd : decode (MI.cc M) pc = .ok (.if_icmp .lt off, 3)) (ht : (pc : Int) + off = (tgt : Int)) (ha : a < 2 ^ 31) (hb : b < 2 ^ 31) (kt : a < b → VS ro M Post al h tgt ls st) (kf : b ≤ a → VS ro M Post al h (pc + 3) ls st) : VS ro M Post al h pc ls (.int (nI b) :: .int (nI a) :: st) := ze_icmp_lt hd ht (fun q => kt ((nI_ltI ha hb).mp q)) (fun q => kf (by rw [nI_ltI ha hb] at q; omega))
theorem zn_icmp_ge (hd : decode (MI.cc M) pc = .ok (.if_icmp .ge off, 3)) (ht : (pc : Int) + off = (tgt : Int)) (ha : a < 2 ^ 31) (hb : b < 2 ^ 31) (kt : b ≤ a → VS ro M Post al h tgt ls st) (kf : a < b → VS ro M Post al h (pc + 3) ls st) : VS ro M Post al h pc ls (.int (nI b) :: .int (nI a) :: st) := ze_icmp_ge hd ht (fun q => kt ((nI_leI hb ha).mp q)) (fun q => kf (by rw [nI_leI hb ha] at q; omega))
theorem zn_icmp_gt (hd : decode (MI.cc M) pc = .ok (.if_icmp .gt off, 3)) (ht : (pc : Int) + off = (tgt : Int)) (ha : a < 2 ^ 31) (hb : b < 2 ^ 31) (kt : b < a → VS ro M Post al h tgt ls st) (kf : a ≤ b → VS ro M Post al h (pc + 3) ls st) : VS ro M Post al h pc ls (.int (nI b) :: .int (nI a) :: st) := ze_icmp_gt hd ht (fun q => kt ((nI_ltI hb ha).mp q)) (fun q => kf (by rw [nI_ltI hb ha] at q; omega))
theorem zn_icmp_le (hd : decode (MI.cc M) pc = .ok (.if_icmp .le off, 3)) (ht : (pc : Int) + off = (tgt : Int)) (ha : a < 2 ^ 31) (hb : b < 2 ^ 31) (kt : a ≤ b → VS ro M Post al h tgt ls st) (kf : b < a → VS ro M Post al h (pc + 3) ls st) : VS ro M Post al h pc ls (.int (nI b) :: .int (nI a) :: st) := ze_icmp_le hd ht (fun q => kt ((nI_leI ha hb).mp q)) (fun q => kf (by rw [nI_leI ha hb] at q; omega))
theorem zn_icmp_eq (hd : decode (MI.cc M) pc = .ok (.if_icmp .eq off, 3)) (ht : (pc : Int) + off = (tgt : Int)) (ha : a < 2 ^ 31) (hb : b < 2 ^ 31) (kt : a = b → VS ro M Post al h tgt ls st) (kf : a ≠ b → VS ro M Post al h (pc + 3) ls st) : VS ro M Post al h pc ls (.int (nI b) :: .int (nI a) :: st) := ze_icmp_eq hd ht (fun q => kt ((nI_eq ha hb).mp q)) (fun q => kf (by rw [nI_eq ha hb] at q; exact q))
theorem zn_icmp_ne (hd : decode (MI.cc M) pc = .ok (.if_icmp .ne off, 3)) (ht : (pc : Int) + off = (tgt : Int)) (ha : a < 2 ^ 31) (hb : b < 2 ^ 31) (kt : a ≠ b → VS ro M Post al h tgt ls st) (kf : a = b → VS ro M Post al h (pc + 3) ls st) : VS ro M Post al h pc ls (.int (nI b) :: .int (nI a) :: st) := ze_icmp_ne hd ht (fun q => kt (by rw [nI_eq ha hb] at q; exact q)) (fun q => kf ((nI_eq ha hb).mp q))
theorem zn_if_eq (hd : decode (MI.cc M) pc = .ok (.ifCond .eq off, 3)) (ht : (pc : Int) + off = (tgt : Int)) (ha : a < 2 ^ 31) (kt : a = 0 → VS ro M Post al h tgt ls st) (kf : a ≠ 0 → VS ro M Post al h (pc + 3) ls st) : VS ro M Post al h pc ls (.int (nI a) :: st) := ze_if_eq hd ht (fun q => kt ((nI_eq ha (by omega)).mp (q.trans nI_0.symm))) (fun q => kf (fun z => q (by rw [z]; exact nI_0)))
theorem zn_if_ne (hd : decode (MI.cc M) pc = .ok (.ifCond .ne off, 3)) (ht : (pc : Int) + off = (tgt : Int)) (ha : a < 2 ^ 31) (kt : a ≠ 0 → VS ro M Post al h tgt ls st) (kf : a = 0 → VS ro M Post al h (pc + 3) ls st) : VS ro M Post al h pc ls (.int (nI a) :: st) := ze_if_ne hd ht (fun q => kt (fun z => q (by rw [z]; exact nI_0))) (fun q => kf ((nI_eq ha (by omega)).mp (q.trans nI_0.symm)))
theorem zn_if_lt (hd : decode (MI.cc M) pc = .ok (.ifCond .lt off, 3)) (ha : a < 2 ^ 31) (kf : VS ro M Post al h (pc + 3) ls st) (ht : (pc : Int) + off = (tgt : Int)) : VS ro M Post al h pc ls (.int (nI a) :: st) := ze_if_lt hd ht (fun q => absurd q (nI_pos ha)) (fun _ => kf)
theorem zn_if_ge (hd : decode (MI.cc M) pc = .ok (.ifCond .ge off, 3)) (ht : (pc : Int) + off = (tgt : Int)) (ha : a < 2 ^ 31) (kt : VS ro M Post al h tgt ls st) : VS ro M Post al h pc ls (.int (nI a) :: st) := ze_if_ge hd ht (fun _ => kt) (fun q => absurd (nI_pos' ha) q)
theorem zn_if_le (hd : decode (MI.cc M) pc = .ok (.ifCond .le off, 3)) (ht : (pc : Int) + off = (tgt : Int)) (ha : a < 2 ^ 31) (kt : a = 0 → VS ro M Post al h tgt ls st) (kf : a ≠ 0 → VS ro M Post al h (pc + 3) ls st) : VS ro M Post al h pc ls (.int (nI a) :: st) := ze_if_le hd ht (fun q => kt (by
    have := (nI_leI ha (by omega : 0 < 2 ^ 31)).mp (by rw [nI_0]; exact q)
    omega)) (fun q => kf (fun z => q (by rw [z, nI_0]; exact Int32.le_refl _)))
theorem zn_iret {Pr : Int32 → AH → Prop} {x : Int32} (hd : decode (MI.cc M) pc = .ok (.ireturn, 1)) (hr : MI.rt M = some .int) (hp : Pr x h) : VIS ro M sz Pr h pc ls [.int x] := ze_iret hd hr ⟨Nat.zero_le _, Nat.zero_le _⟩ ⟨rfl, x, rfl, hp⟩
theorem zn_zret {Pr : Int32 → AH → Prop} {x : Int32} (hd : decode (MI.cc M) pc = .ok (.ireturn, 1)) (hr : MI.rt M = some .boolean) (hx : narrow .boolean (.int x) = .int x) (hp : Pr x h) : VIS ro M sz Pr h pc ls [.int x] := ze_zret hd hr hx ⟨Nat.zero_le _, Nat.zero_le _⟩ ⟨rfl, x, rfl, hp⟩
theorem zn_vret {Pr : AH → Prop} (hd : decode (MI.cc M) pc = .ok (.return_, 1)) (hr : MI.rt M = none) (hp : Pr h) : VVS ro M sz Pr h pc ls [] := ze_vret hd hr ⟨Nat.zero_le _, Nat.zero_le _⟩ ⟨rfl, rfl, hp⟩
theorem zn_aret {Pr : Option Nat → AH → Prop} (x : Option Nat) (hd : decode (MI.cc M) pc = .ok (.areturn, 1)) (hr : ∃ C, MI.rt M = some (.object C)) (hp : Pr x h) : VRS ro M sz Pr h pc ls [va_rf x] := ze_aret hd hr ⟨Nat.zero_le _, Nat.zero_le _⟩ ⟨rfl, x, rfl, hp⟩
theorem ze_aldQS {a n : Nat} {f : Nat → Option Nat} {i : Int32} (j : Nat) {q : Nat} (hd : decode (MI.cc M) pc = .ok (.aaload, 1)) (hh : h a = some (aQ n f)) (hi : i = nI j) (hj : j < n) (hn : n < 2 ^ 31) (hq : f j = some q) (k : VS ro M Post al h (pc + 1) ls (.ref q :: st)) : VS ro M Post al h pc ls (.int i :: .ref a :: st) := ze_aldQ j hd hh hi hj hn (by rw [hq]; exact k)
theorem ze_aldGS {a n : Nat} {f : Nat → Option Nat} {i : Int32} (j : Nat) {q : Nat} (hd : decode (MI.cc M) pc = .ok (.aaload, 1)) (hh : h a = some (aG n f)) (hi : i = nI j) (hj : j < n) (hn : n < 2 ^ 31) (hq : f j = some q) (k : VS ro M Post al h (pc + 1) ls (.ref q :: st)) : VS ro M Post al h pc ls (.int i :: .ref a :: st) := ze_aldG j hd hh hi hj hn (by rw [hq]; exact k)
theorem VS.mask {M : MI} {Post : Option Value → AH → Nat → Prop} {al : Nat × Nat × Nat} {h : AH} {pc : Nat} {ls : List (Option Value)} {st : List Value} (bs : List Bool) (k : VS ro M Post al h pc (msk bs ls) st) : VS ro M Post al h pc ls st := by
  refine VS.forget (by simp [msk]; omega) (fun i v hi => ?_) k
  unfold msk at hi
  rw [List.getElem?_zipWith] at hi
  cases hb : bs[i]? with
  | none => simp [hb] at hi
  | some b =>
    cases hl : ls[i]? with
    | none => simp [hb, hl] at hi
    | some o =>
      simp only [hb, hl] at hi
      cases b with
      | true => simpa using hi
      | false => simp at hi
theorem zn_decS {M : MI} {Post : Option Value → AH → Nat → Prop} {al : Nat × Nat × Nat} {h : AH} {pc : Nat} {ls : List (Option Value)} {st : List Value} {i : Nat} {x : Int32} (hd : decode (MI.cc M) pc = .ok (.iinc i (-1), 3)) (hx : ls[i]? = some (some (.int x))) (hn : i < MI.nL M) (k : VS ro M Post al h (pc + 3) (ls.set i (some (.int (x - 1)))) st) : VS ro M Post al h pc ls st := ze_iinc hd hx (by rw [Int32.sub_eq_add_neg]; rfl) hn k
theorem ze_alenI {M : MI} {Post : Option Value → AH → Nat → Prop} {al : Nat × Nat × Nat} {h : AH} {pc : Nat} {ls : List (Option Value)} {st : List Value} {a n : Nat} {f : Nat → Int32} (hd : decode (MI.cc M) pc = .ok (.arraylength, 1)) (hh : h a = some (aI n f)) (k : VS ro M Post al h (pc + 1) ls (.int (nI n) :: st)) : VS ro M Post al h pc ls (.ref a :: st) := ze_alen (x := (0, n, .inl f)) hd hh (show 0 < 6 by decide) rfl k
theorem ze_aastQ {a n v : Nat} {fs : List Value} {f : Nat → Option Nat} {i : Int32} (j : Nat) (hd : decode (MI.cc M) pc = .ok (.aastore, 1)) (hh : h a = some (aQ n f)) (hv : h v = some (ob 8 fs)) (hi : i = nI j) (hj : j < n) (hn : n < 2 ^ 31)
    (k : VS ro M Post al (hset h a (aQ n (va_up f j (some v)))) (pc + 1) ls st) : VS ro M Post al h pc ls (.ref v :: .int i :: .ref a :: st) := by
  subst hi
  intro G p l e R s m args below meth c Q A H locs lsA hX hF hA hK hT hP hz hd2 hS hl
  have ha : A a := hd2 a (by rw [hh]; exact fun z => by cases z)
  have hin : vp_in (nI j) n := vp_in_nI hj hn
  obtain ⟨r', hr', cellV, g1, g2, g3, -⟩ := hP v _ hv
  have hcls := (hK.1.1 8 _ rfl).2
  obtain ⟨kA, comp, k1, k2, k3, -⟩ := (hK.1.2 3 _ rfl).2
  have hcomp : comp = G.1.1 8 := Option.some.inj (k3.symm.trans hcls.1)
  subst hcomp
  obtain ⟨kC, hkC, -⟩ := hcls.2
  refine W.aast hX.1 hX.2.1 (hP a _ hh) (fun q h => by cases h) (fun h => by cases h) k1 k2 rfl hkC ⟨fun q => hin (Or.inl q), by show _ < (arrV _ _ _).slots.size; rw [arrV_size]; exact Nat.not_le.mp fun q => hin (Or.inr q)⟩ g1 (fun q h => by rw [g3] at h; cases h) (by rw [g2]; exact hkC) (by rw [g2]; exact va_assign hcls) rfl rfl hd fun H1 e1 z oq => ?_
  refine k G p l e R s m args below meth c Q A H1 _ lsA hX hF hA hK hT (hP.put ?_ oq) (z.trans hz) (en_dom hd2 ha) (hS.put z oq ha) hl
  show H1[a]? = some (vp_cell _ _)
  rw [e1]
  show some ((vp_cell _ (n, .inr (.inr (.inr (.inr f))))).setSlot _ _) = some (vp_cell _ (n, .inr (.inr (.inr (.inr _)))))
  rw [nI_clamp (by omega), vp_cell_q, vp_cell_q, arrV_store]
  congr 2
  funext q
  by_cases hq : q = j
  · subst hq
    simp [updV, va_up, va_rf]
  · simp [updV, va_up, hq]
theorem ze_aastG {a n v n2 : Nat} {g : Nat → Int32} {f : Nat → Option Nat} {i : Int32} (j : Nat) (hd : decode (MI.cc M) pc = .ok (.aastore, 1)) (hh : h a = some (aG n f)) (hv : h v = some (aI n2 g)) (hi : i = nI j) (hj : j < n) (hn : n < 2 ^ 31)
    (k : VS ro M Post al (hset h a (aG n (va_up f j (some v)))) (pc + 1) ls st) : VS ro M Post al h pc ls (.ref v :: .int i :: .ref a :: st) := by
  subst hi
  intro G p l e R s m args below meth c Q A H locs lsA hX hF hA hK hT hP hz hd2 hS hl
  have ha : A a := hd2 a (by rw [hh]; exact fun z => by cases z)
  have hin : vp_in (nI j) n := vp_in_nI hj hn
  have g1 := hP v _ hv
  obtain ⟨comp, c0, kA, h1, h2, h3, h4, h5⟩ := arrayOverA_spec hK.2.2.2.2.1
  have hc2 : c0 = G.2.1 2 := Option.some.inj (h5.symm.trans (hK.1.2 2 _ rfl).2)
  have hc0 : comp = G.2.1 0 := Option.some.inj (h1.symm.trans (hK.1.2 0 _ rfl).2)
  subst hc2
  subst hc0
  obtain ⟨_, kC, hkC, _⟩ := (hK.1.2 0 _ rfl).1 n2 (fun j => .int (g j))
  refine W.aast hX.1 hX.2.1 (hP a _ hh) (fun q h => by cases h) (fun h => by cases h) h3 h4 rfl hkC ⟨fun q => hin (Or.inl q), by show _ < (arrV _ _ _).slots.size; rw [arrV_size]; exact Nat.not_le.mp fun q => hin (Or.inr q)⟩ g1 (fun q h => by cases h) hkC (by show Vm.assignableAux s.vm (255 + 1) _ _ = true; rw [Vm.assignableAux]; show (G.2.1 0 == G.2.1 0 || _) = true; rw [beq_self_eq_true]; exact Bool.true_or _) rfl rfl hd fun H1 e1 z oq => ?_
  refine k G p l e R s m args below meth c Q A H1 _ lsA hX hF hA hK hT (hP.put ?_ oq) (z.trans hz) (en_dom hd2 ha) (hS.put z oq ha) hl
  show H1[a]? = some (vp_cell _ _)
  rw [e1]
  show some ((vp_cell _ (n, .inr (.inr (.inr (.inr f))))).setSlot _ _) = some (vp_cell _ (n, .inr (.inr (.inr (.inr _)))))
  rw [nI_clamp (by omega), vp_cell_q, vp_cell_q, arrV_store]
  congr 2
  funext q
  by_cases hq : q = j
  · subst hq
    simp [updV, va_up, va_rf]
  · simp [updV, va_up, hq]
theorem ze_mmax {idx : Nat} {x y : Int32} (hlk : (Cond.methodLink (MI.own M) idx Lib.Math.max.name) ∈ lw_good) (hd : decode (MI.cc M) pc = .ok (.invokestatic idx, 3)) (hdp : 1 ≤ MI.dp M) (hst : (st.map fun v => v.category).sum ≤ 8) (hr : al.2.1 ≤ MI.mc M ∧ al.2.2 ≤ MI.ms M)
    (k : VS ro M Post al h (pc + 3) ls (.int (if x < y then y else x) :: st)) : VS ro M Post al h pc ls (.int y :: .int x :: st) := by
  intro G p l e R s m args below meth c Q A H locs lsA hX hF hA hK hT hP hz hd2 hS hl
  obtain ⟨hx, hb, hml, hown, hts, hR1, hR2, hR3, hR4, -⟩ := id hX
  have hls : lsA.size = MI.nL M := hl.choose_spec.1.1
  exact va_mmax hx hb (by rw [hml, ← hls]) hown (hts _ hlk) (hts _ q_st_J9_max_7cf53) (hts _ q_in_J9) (hts _ q_c_J9_max_7cf53) (by omega) (by omega) (by omega) (by omega) hd (k G p l e R s m args below meth c Q A H locs lsA hX hF hA hK hT hP hz hd2 hS hl)
theorem ze_mmin {idx : Nat} {x y : Int32} (hlk : (Cond.methodLink (MI.own M) idx Lib.Math.min.name) ∈ lw_good) (hd : decode (MI.cc M) pc = .ok (.invokestatic idx, 3)) (hdp : 1 ≤ MI.dp M) (hst : (st.map fun v => v.category).sum ≤ 8) (hr : al.2.1 ≤ MI.mc M ∧ al.2.2 ≤ MI.ms M)
    (k : VS ro M Post al h (pc + 3) ls (.int (if y < x then y else x) :: st)) : VS ro M Post al h pc ls (.int y :: .int x :: st) := by
  intro G p l e R s m args below meth c Q A H locs lsA hX hF hA hK hT hP hz hd2 hS hl
  obtain ⟨hx, hb, hml, hown, hts, hR1, hR2, hR3, hR4, -⟩ := id hX
  have hls : lsA.size = MI.nL M := hl.choose_spec.1.1
  exact va_mmin hx hb (by rw [hml, ← hls]) hown (hts _ hlk) (hts _ q_st_J9_min_7cf53) (hts _ q_in_J9) (hts _ q_c_J9_min_7cf53) (by omega) (by omega) (by omega) (by omega) hd (k G p l e R s m args below meth c Q A H locs lsA hX hF hA hK hT hP hz hd2 hS hl)
theorem zn_mmax {idx : Nat} {x y : Nat} (hlk : (Cond.methodLink (MI.own M) idx Lib.Math.max.name) ∈ lw_good) (hd : decode (MI.cc M) pc = .ok (.invokestatic idx, 3)) (hdp : 1 ≤ MI.dp M) (hx : x < 2 ^ 31) (hy : y < 2 ^ 31) (hst : (st.map fun v => v.category).sum ≤ 8) (hr : al.2.1 ≤ MI.mc M ∧ al.2.2 ≤ MI.ms M)
    (k : VS ro M Post al h (pc + 3) ls (.int (nI (max x y)) :: st)) : VS ro M Post al h pc ls (.int (nI y) :: .int (nI x) :: st) := by
  refine ze_mmax hlk hd hdp hst hr ?_
  have e : (if nI x < nI y then nI y else nI x) = nI (max x y) := by
    by_cases c : x < y
    · rw [if_pos ((nI_ltI hx hy).mpr c), Nat.max_eq_right (by omega)]
    · rw [if_neg (fun q => c ((nI_ltI hx hy).mp q)), Nat.max_eq_left (by omega)]
  rw [e]
  exact k
theorem zn_mmin {idx : Nat} {x y : Nat} (hlk : (Cond.methodLink (MI.own M) idx Lib.Math.min.name) ∈ lw_good) (hd : decode (MI.cc M) pc = .ok (.invokestatic idx, 3)) (hdp : 1 ≤ MI.dp M) (hx : x < 2 ^ 31) (hy : y < 2 ^ 31) (hst : (st.map fun v => v.category).sum ≤ 8) (hr : al.2.1 ≤ MI.mc M ∧ al.2.2 ≤ MI.ms M)
    (k : VS ro M Post al h (pc + 3) ls (.int (nI (min x y)) :: st)) : VS ro M Post al h pc ls (.int (nI y) :: .int (nI x) :: st) := by
  refine ze_mmin hlk hd hdp hst hr ?_
  have e : (if nI y < nI x then nI y else nI x) = nI (min x y) := by
    by_cases c : y < x
    · rw [if_pos ((nI_ltI hy hx).mpr c), Nat.min_eq_right (by omega)]
    · rw [if_neg (fun q => c ((nI_ltI hy hx).mp q)), Nat.min_eq_left (by omega)]
  rw [e]
  exact k
theorem ze_aloadN {i : Nat} (hd : decode (MI.cc M) pc = .ok (.aload i, 2)) (hv : ls[i]? = some (some .null)) (k : VS ro M Post al h (pc + 2) ls (.null :: st)) : VS ro M Post al h pc ls st := VS.go (fun hx hb hl w => lv_aloadN hx hb hd (hl.at hv) w) k
theorem ze_astoreN {i : Nat} (hd : decode (MI.cc M) pc = .ok (.astore i, 2)) (hn : i < MI.nL M) (k : VS ro M Post al h (pc + 2) (ls.set i (some .null)) st) : VS ro M Post al h pc ls (.null :: st) := VS.store (fun hx hb hl w => by
  obtain ⟨l1, h1, h3, h2⟩ := hl
  exact lv_astoreN hx hb hd h1 hn rfl (fun lsB hB => w lsB (en_L.put h3 h2 rfl hB))) k
theorem ze_objInit {idx b : Nat} (hlk : (Cond.methodLink (MI.own M) idx Lib.objectInit) ∈ lw_good) (hd : decode (MI.cc M) pc = .ok (.invokespecial idx, 3)) (hst : (st.map fun v => v.category).sum ≤ 8) (hdp : 1 ≤ MI.dp M) (k : VS ro M Post al h (pc + 3) ls st) : VS ro M Post al h pc ls (.ref b :: st) := by
  intro G p l e R s m args below meth c Q A H locs lsA hX hF hA hK hT hP hz hd2 hS hl
  obtain ⟨hx, hb, hml, hown, hts, hR1, hR2, hR3, hR4, -⟩ := id hX
  have hls : lsA.size = MI.nL M := hl.choose_spec.1.1
  have h8 := lv_room (m := m) (pc := pc) (ls := lsA) (rest := .ref b :: st) hst
  exact W.objInit hx hb hown (hts _ hlk) (hts _ q_i_java_lang_Object_init) (hts _ q_c_java_lang_Object_init) rfl (hls.trans hml.symm) rfl hd (by omega) (by show 2 * (F0 m pc lsA (.ref b :: st)).monitorRoom + _ + 12 ≤ _; omega) (k G p l e R s m args below meth c Q A H locs lsA hX hF hA hK hT hP hz hd2 hS hl)
theorem ze_new {idx ci N : Nat} {fs : List Value} (f : NW (MI.own M) idx ci N fs) (hd : decode (MI.cc M) pc = .ok (.new idx, 3)) (hlim : al.2.1 + 1 ≤ MI.mc M ∧ al.2.2 + N ≤ MI.ms M) (k : VS ro M Post (al.1 + 1, al.2.1 + 1, al.2.2 + N) (hset h al.1 (ob ci fs)) (pc + 3) ls (.ref al.1 :: st)) : VS ro M Post al h pc ls st := by
  intro G p l e R s m args below meth c Q A H locs lsA hX hF hA hK hT hP hz hd2 hS hl
  obtain ⟨C, T, ty, hc, hin, hty, hcl, hins, hini, hfs⟩ := f
  obtain ⟨hx, hb, hml, hown, hts, hR1, hR2, hR3, hR4, -⟩ := id hX
  have hKn := hK.1.1 ci _ hc
  refine W.newcK hx hb hown (hts _ hcl) (hts _ hins) (hts _ hini) rfl hd (by omega) (by omega) hKn.2.1 hz fun H1 kC hkC e1 z1 o1 => ?_
  have o1' : ∀ q : Nat, q < H.size → H1[q]? = H[q]? := fun q hq => o1 q (by omega)
  exact k G p l e R s m args below meth c Q A H1 locs lsA hX hF hA hK hT (hP.born ⟨_, hc, (u_born ty hts hin hKn hkC e1 hty).to hfs⟩ o1') z1 (en_dom hd2 (hA.1 _ (by have := hS.1; omega))) (hS.born (n := 1) (by omega) o1') hl
theorem ze_newa {atype : ArrayType} (kd : Nat) (hkd : kd < 6) {ty : FieldType} (hty : newarray.typeOf atype = ty) (hgt : ∀ G : en_G, (en_tys G)[kd]? = some (G.2.1 kd, ty)) (hra : ∀ (U : State) (cA : ClassId), va_RA U cA ty → U.vm.findClass ("[" ++ ty.toString) = some cA) (hac : (Cond.arrayClass ty) ∈ lw_good) (hdv : defaultValue ty = .int 0) (hcb : componentBytes ty ≤ 4)
    {N : Nat} {n : Int32} (hd : decode (MI.cc M) pc = .ok (.newarray atype, 2)) (hn : n = nI N) (hN : N < 100000) (hlim : al.2.1 + 1 ≤ MI.mc M ∧ al.2.2 + N ≤ MI.ms M)
    (k : VS ro M Post (al.1 + 1, al.2.1 + 1, al.2.2 + N) (hset h al.1 (.inl (kd, N, .inl (fun _ => 0)))) (pc + 2) ls (.ref al.1 :: st)) : VS ro M Post al h pc ls (.int n :: st) := by
  intro G p l e R s m args below meth c Q A H locs lsA hX hF hA hK hT hP hz hd2 hS hl
  obtain ⟨hx, hb, hml, hown, hts, hR1, hR2, hR3, hR4, -⟩ := id hX
  subst hty
  have hmul : N * componentBytes (newarray.typeOf atype) ≤ N * 4 := Nat.mul_le_mul_left _ hcb
  refine va_newaK (N := N) hx hb (hts _ hac) rfl hd rfl (by rw [hn]; exact nI_pos (by omega)) (by rw [hn]; exact nI_clamp (by omega)) (by omega) (by omega) (by omega) hz fun H1 cA e1 z1 o1 hAr hNm => ?_
  have o1' : ∀ q : Nat, q < H.size → H1[q]? = H[q]? := fun q hq => o1 q (by omega)
  have hcA : cA = G.2.1 kd := Option.some.inj (hNm.symm.trans (hra _ _ ((hK.1.2 kd _ (hgt G)).2)))
  exact k G p l e R s m args below meth c Q A H1 locs lsA hX hF hA hK hT (hP.born (by
    show H1[al.1]? = some (vp_cell _ _)
    rw [vp_cell_i, e1, hdv, hcA]) o1') z1 (en_dom hd2 (hA.1 _ (by have := hS.1; omega))) (hS.born (n := 1) (by omega) o1') hl
theorem ze_newI {N : Nat} {n : Int32} (hd : decode (MI.cc M) pc = .ok (.newarray .int, 2)) (hn : n = nI N) (hN : N < 100000) (hlim : al.2.1 + 1 ≤ MI.mc M ∧ al.2.2 + N ≤ MI.ms M) (k : VS ro M Post (al.1 + 1, al.2.1 + 1, al.2.2 + N) (hset h al.1 (aI N (fun _ => 0))) (pc + 2) ls (.ref al.1 :: st)) : VS ro M Post al h pc ls (.int n :: st) :=
  ze_newa 0 (by omega) (ty := .int) rfl (fun _ => rfl) (fun _ _ q => q) q_ac_int rfl (by decide) hd hn hN hlim k
theorem ze_newZ {N : Nat} {n : Int32} (hd : decode (MI.cc M) pc = .ok (.newarray .boolean, 2)) (hn : n = nI N) (hN : N < 100000) (hlim : al.2.1 + 1 ≤ MI.mc M ∧ al.2.2 + N ≤ MI.ms M) (k : VS ro M Post (al.1 + 1, al.2.1 + 1, al.2.2 + N) (hset h al.1 (aZ N (fun _ => 0))) (pc + 2) ls (.ref al.1 :: st)) : VS ro M Post al h pc ls (.int n :: st) :=
  ze_newa 1 (by omega) (ty := .boolean) rfl (fun _ => rfl) (fun _ _ q => q) q_ac_boolean rfl (by decide) hd hn hN hlim k
theorem ze_newQ {idx N : Nat} {n : Int32} (hcl : (Cond.classLink (MI.own M) idx RX9) ∈ lw_good) (hd : decode (MI.cc M) pc = .ok (.anewarray idx, 3)) (hn : n = nI N) (hN : N < 100000) (hlim : al.2.1 + 1 ≤ MI.mc M ∧ al.2.2 + N ≤ MI.ms M) (k : VS ro M Post (al.1 + 1, al.2.1 + 1, al.2.2 + N) (hset h al.1 (aQ N (fun _ => none))) (pc + 3) ls (.ref al.1 :: st)) : VS ro M Post al h pc ls (.int n :: st) := by
  intro G p l e R s m args below meth c Q A H locs lsA hX hF hA hK hT hP hz hd2 hS hl
  obtain ⟨hx, hb, hml, hown, hts, hR1, hR2, hR3, hR4, -⟩ := id hX
  have hcN : n.toNatClampNeg = N := by rw [hn]; exact nI_clamp (by omega)
  refine W.anew hx hb hown (hts _ hcl) (va_AO.use hK.2.2.2.1) rfl hd rfl (by rw [hn]; exact nI_pos (by omega)) (by omega) (by omega) (by omega) fun cA kA comp f1 f2 f3 f4 => ?_
  rw [hcN]
  generalize hH1 : H.push ({ cls := cA, slots := Array.replicate N .null, vm := .none } : Cell) = H1
  have z1 : H1.size = al.1 + 1 := by rw [← hH1, Array.size_push, hz]
  have e1 : H1[al.1]? = some (arrV cA N (fun _ => .null)) := by rw [← hH1, ← hz, Array.getElem?_push_size, ← arrV_new]
  have o1' : ∀ q : Nat, q < H.size → H1[q]? = H[q]? := fun q hq => by rw [← hH1, Array.getElem?_push, if_neg (Nat.ne_of_lt hq)]
  have hcA : cA = G.2.1 3 := by
    obtain ⟨kA', comp', -, -, -, g4⟩ := (hK.1.2 3 _ rfl).2
    exact Option.some.inj (f1.symm.trans g4)
  rw [hz]
  exact k G p l e R s m args below meth c Q A H1 locs lsA hX hF hA hK hT (hP.born (by
    show H1[al.1]? = some (vp_cell _ _)
    rw [vp_cell_q, e1, hcA]; rfl) o1') z1 (en_dom hd2 (hA.1 _ (by have := hS.1; omega))) (hS.born (n := 1) (by omega) o1') hl
theorem ze_newG {idx n k : Nat} {x y : Int32} (hcl : (Cond.classLink (MI.own M) idx "[[I") ∈ lw_good) (hd : decode (MI.cc M) pc = .ok (.multianewarray idx 2, 4)) (hx : x = nI n) (hy : y = nI k) (hn : n < 1000) (hk : k < 1000) (hlim : al.2.1 + (1 + n) ≤ MI.mc M ∧ al.2.2 + (n + n * k) ≤ MI.ms M)
    (kk : VS ro M Post (al.1 + (1 + n), al.2.1 + (1 + n), al.2.2 + (n + n * k)) (hgrid h al.1 n k) (pc + 4) ls (.ref al.1 :: st)) : VS ro M Post al h pc ls (.int y :: .int x :: st) := by
  subst hx; subst hy
  intro G p l e R s m args below meth c Q A H locs lsA hX hF hA hK hT hP hz hd2 hS hl
  obtain ⟨hx, hb, hml, hown, hts, hR1, hR2, hR3, hR4, -⟩ := id hX
  refine mq_W hx hb hown (hts _ hcl) hK.2.2.2.2 (hts _ q_ac_int) rfl hd rfl hn hk (by omega) (by omega) fun H1 cA cI L f1 f2 z1 e1 r1 o1 hL => ?_
  have hcA : cA = G.2.1 2 := Option.some.inj (f1.symm.trans ((hK.1.2 2 _ rfl).2 : s.vm.findClass _ = some _))
  have hcI : cI = G.2.1 0 := Option.some.inj (f2.symm.trans ((hK.1.2 0 _ rfl).2 : s.vm.findClass _ = some _))
  subst hcA; subst hcI
  rw [hz] at e1 r1 z1
  have hAa : A al.1 := hA.1 _ (by have := hS.1; omega)
  have hS1 := hS.born (n := 1 + n) (by omega) o1
  refine hz ▸ kk G p l e R s m args below meth c Q A H1 (locs ++ L) lsA hX hF hA hK hT (fun b y hy => ?_) (by show H1.size = al.1 + (1 + n); omega) (fun q hq => ?_) ⟨hS1.1, hS1.2.1, fun q hq => ?_⟩ hl
  · by_cases e : b = al.1
    · subst e
      rw [show hgrid h al.1 n k al.1 = _ from if_pos rfl] at hy
      cases hy
      show H1[al.1]? = some (vp_cell _ _)
      rw [vp_cell_q, e1]
      unfold mq_out
      refine congrArg some (congrArg (arrV _ n) (funext fun j => ?_))
      by_cases g : j < n <;> simp [g, va_rf]
    · by_cases g : al.1 < b ∧ b ≤ al.1 + n
      · rw [show hgrid h al.1 n k b = some (aI k (fun _ => 0)) by unfold hgrid; rw [if_neg e, if_pos g]] at hy
        cases hy
        have := r1 (b - (al.1 + 1)) (by omega)
        rw [show al.1 + 1 + (b - (al.1 + 1)) = b by omega] at this
        exact this
      · rw [show hgrid h al.1 n k b = h b by unfold hgrid; rw [if_neg e, if_neg g]] at hy
        exact (hP b y hy).kept (o1 b (hP b y hy).lt)
  · by_cases e : q = al.1
    · rw [e]; exact hAa
    · by_cases g : al.1 < q ∧ q ≤ al.1 + n
      · exact hA.1 _ (by have := hS.1; omega)
      · rw [show hgrid h al.1 n k q = h q by unfold hgrid; rw [if_neg e, if_neg g]] at hq
        exact hd2 q hq
  · rcases List.mem_append.mp hq with g | g
    · exact hS.2.2 q g
    · rw [hL q g, hz]; exact hAa
theorem zen_blind {ro : RT} {G : en_G} {av : List Value} {sz : Nat} {h : AH} : FrameBlind (va_Pc av (fun U => U.heap.size = sz ∧ en_P G h U.heap ∧ en_K G U ∧ en_S G (fun q => h q ≠ none ∨ sz ≤ q) U U.heap ∧ RO ro G (fun q => h q ≠ none ∨ sz ≤ q) U U.heap)) := fun a U g mk q => by
  obtain ⟨q0, q1, q2, q3, q4, q5⟩ := q
  exact ⟨q0, q1, q2, en_K.same (u := U) (U := U.calling g mk a) rfl q3, en_S.moved (u := U) (U := U.calling g mk a) (Vm.Alike.refl U.vm) q4, RO.same (u := U) (U := U.calling g mk a) rfl q5⟩
theorem zen_behind {G : en_G} {p : Program} {l : Launch} {e : Env} {R : Room} {s : State} {m : MethodId} {args : Array Value} {below : List Frame} {meth : Method} {c : Code} {Q : State → Prop} {A : Nat → Prop} {H : Heap} {locs : List Jvm.Loc} {lsA : Array Slot} {st0 : List Value} {Post2 : Option Value → AH → Nat → Prop} {mc ms : Nat} {av : Array Value}
    (hX : en_X M p R s m args meth c) (hF : en_F M G p l e R s m args below meth c Q A Post) (hA : SA ro G s A) (hK : en_K G s) (hT : en_S G A s s.heap) (hz : H.size = al.1) (hd2 : ∀ q, h q ≠ none → A q) (hS : va_S A s.heap H locs) (hl : en_L lsA (MI.nL M) ls)
    (hr : va_Run p l e R s m args below meth c H locs al.2.1 al.2.2 mc ms (F0 m pc lsA st0) st (en_Q G h al.1 Post2 av) (fun q => h q ≠ none ∨ al.1 ≤ q))
    (k : ∀ (r : Option Value) (h2 : AH) (z2 : Nat), Post2 r h2 z2 → VS ro M Post (z2, al.2.1 + mc, al.2.2 + ms) h2 (pc + 3) ls (r.toList ++ st)) : W p l e R s m args below meth c H locs al.2.1 al.2.2 Q (F0 m pc lsA st0) := by
  intro T hTT X
  obtain ⟨v, st₀, t, T', L, h0, X', hL, e1, e2, ⟨r, h', hv, hp, hP', hdm, hz1, hk1⟩, stp⟩ := hr T hTT X
  cases hv
  rw [h0] at hz1 hk1
  have hAA : ∀ q, (h q ≠ none ∨ al.1 ≤ q) → A q := fun q hq => hq.elim (hd2 q) (fun hq => hA.1 q (by have := hS.1; omega))
  obtain ⟨t2, a1, b1⟩ := k v h' t.heap.size hp G p l e R s m args below meth c Q A T'.heap (locs ++ L) lsA hX hF hA hK hT (by rw [e1]; exact hP') (by rw [e1]) (fun q hq => hAA q (hdm q hq))
    ⟨Nat.le_trans hS.1 (by rw [e1]; exact hz1), fun q g1 g2 => by rw [e1, hk1 q (Nat.lt_of_lt_of_le g1 hS.1) (fun z => g2 (hAA q z))]; exact hS.2.1 q g1 g2, fun q hq => by
      rcases List.mem_append.mp hq with g | g
      · exact hS.2.2 q g
      · exact hAA _ (hL q g)⟩ hl T' rfl X'
  exact ⟨t2, stp t2 a1, b1⟩
theorem ze_callV {y : MethodName} {M2 : MI} {n idx b ci : Nat} {fs : List Value} {r0 : vw_C} {As : List Value} {Post2 : Option Value → AH → Nat → Prop} (C : CnS ro y M2 (.ref b :: As) al.1 h Post2) (by0 : BY y M2 n) (hi : (Cond.instanceMethod y) ∈ lw_good) (hsel : (Cond.selects y.cls y y) ∈ lw_good) (hlk : (Cond.methodLink (MI.own M) idx y) ∈ lw_good) (hd : decode (MI.cc M) pc = .ok (.invokevirtual idx, 3))
    (hn : As.length = n) (hs0 : st0 = As.reverse ++ .ref b :: st) (hb0 : h b = some (ob ci fs)) (hc : vwCl[ci]? = some r0) (hr0 : r0.1 = y.cls) (hst : (st.map fun v => v.category).sum ≤ 8) (hdp : MI.dp M2 + 1 ≤ MI.dp M ∧ MI.lo M2 + 19 + MI.nL M2 ≤ MI.lo M) (hroom : al.2.1 + MI.mc M2 ≤ MI.mc M ∧ al.2.2 + MI.ms M2 ≤ MI.ms M)
    (k : ∀ (r : Option Value) (h2 : AH) (z2 : Nat), Post2 r h2 z2 → VS ro M Post (z2, al.2.1 + MI.mc M2, al.2.2 + MI.ms M2) h2 (pc + 3) ls (r.toList ++ st)) : VS ro M Post al h pc ls st0 := by
  subst hs0
  intro G p l e R s m args below meth c Q A H locs lsA hX hF hA hK hT hP hz hd2 hS hl
  obtain ⟨hx, hb, hml, hown, hts, hR1, hR2, hR3, hR4, -⟩ := id hX
  have hls : lsA.size = MI.nL M := hl.choose_spec.1.1
  refine zen_behind (st0 := As.reverse ++ .ref b :: st) hX hF hA hK hT hz hd2 hS hl (va_runV (As := As) (rest := st) (C := y.cls) ⟨hx, hb, hml, hown, hts⟩ (C l G) ⟨callB_of n hts (en_words by0) rfl rfl rfl (hts _ by0.2.1) (hts _ hlk) by0.2.2.1 ⟨by show MI.dp M2 + 1 ≤ _; omega, by show 8 + (MI.nL M2 + 11) + MI.lo M2 ≤ _; omega⟩, hts _ hi, hts _ hsel⟩
    ⟨zen_blind, by rw [← hr0]; exact va_recv (ci := ci) (q0 := 0) (fs := fs) hK.1 (en_P.one hP hb0) hc rfl, fun U hU hW => ⟨rfl, by rw [hU]; exact hz, by rw [hU]; exact hP, hK.warm hW, by rw [hU]; exact ((hT.kept hS.2.1).moved hW.alike).narrow (fun q hq => hq.elim (hd2 q) (fun hq => hA.1 q (by have := hS.1; omega))), by rw [hU]; exact ((hA.2.kept hS.2.1).warm hW).narrow (fun q hq => hq.elim (hd2 q) (fun hq => hA.1 q (by have := hS.1; omega)))⟩⟩ rfl hn hls rfl (lv_room hst) hd ⟨by omega, by omega⟩) k
theorem ze_callS {y : MethodName} {M2 : MI} {n idx : Nat} {As : List Value} {Post2 : Option Value → AH → Nat → Prop} (C : CnS ro y M2 As al.1 h Post2) (by0 : BY y M2 n) (hi : (Cond.static y) ∈ lw_good) (hlk : (Cond.methodLink (MI.own M) idx y) ∈ lw_good) (hd : decode (MI.cc M) pc = .ok (.invokestatic idx, 3))
    (hn : As.length = n) (hs0 : st0 = As.reverse ++ st) (hst : (st.map fun v => v.category).sum ≤ 8) (hdp : MI.dp M2 + 1 ≤ MI.dp M ∧ MI.lo M2 + 19 + MI.nL M2 ≤ MI.lo M) (hroom : al.2.1 + MI.mc M2 ≤ MI.mc M ∧ al.2.2 + MI.ms M2 ≤ MI.ms M)
    (k : ∀ (r : Option Value) (h2 : AH) (z2 : Nat), Post2 r h2 z2 → VS ro M Post (z2, al.2.1 + MI.mc M2, al.2.2 + MI.ms M2) h2 (pc + 3) ls (r.toList ++ st)) : VS ro M Post al h pc ls st0 := by
  subst hs0
  intro G p l e R s m args below meth c Q A H locs lsA hX hF hA hK hT hP hz hd2 hS hl
  obtain ⟨hx, hb, hml, hown, hts, hR1, hR2, hR3, hR4, -⟩ := id hX
  have hls : lsA.size = MI.nL M := hl.choose_spec.1.1
  refine zen_behind (st0 := As.reverse ++ st) hX hF hA hK hT hz hd2 hS hl (va_runS (As := As) (rest := st) ⟨hx, hb, hml, hown, hts⟩ (C l G) ⟨callB_of n hts (en_words by0) rfl rfl rfl (hts _ by0.2.1) (hts _ hlk) by0.2.2.1 ⟨by show MI.dp M2 + 1 ≤ _; omega, by show 8 + (MI.nL M2 + 11) + MI.lo M2 ≤ _; omega⟩, hts _ hi⟩
    ⟨zen_blind, fun U hU hW => ⟨rfl, by rw [hU]; exact hz, by rw [hU]; exact hP, hK.warm hW, by rw [hU]; exact ((hT.kept hS.2.1).moved hW.alike).narrow (fun q hq => hq.elim (hd2 q) (fun hq => hA.1 q (by have := hS.1; omega))), by rw [hU]; exact ((hA.2.kept hS.2.1).warm hW).narrow (fun q hq => hq.elim (hd2 q) (fun hq => hA.1 q (by have := hS.1; omega)))⟩⟩ rfl hn hls rfl (lv_room hst) hd ⟨by omega, by omega⟩) k
theorem ze_callI {y : MethodName} {M2 : MI} {n idx b : Nat} {As : List Value} {Post2 : Option Value → AH → Nat → Prop} (C : CnS ro y M2 (.ref b :: As) al.1 h Post2) (by0 : BY y M2 n) (hrt : MI.rt M2 = none) (hy1 : y.name = "<init>") (hi : (Cond.instanceMethod y) ∈ lw_good) (hlk : (Cond.methodLink (MI.own M) idx y) ∈ lw_good) (hd : decode (MI.cc M) pc = .ok (.invokespecial idx, 3))
    (hn : As.length = n) (hs0 : st0 = As.reverse ++ .ref b :: st) (hst : (st.map fun v => v.category).sum ≤ 8) (hdp : MI.dp M2 + 1 ≤ MI.dp M ∧ MI.lo M2 + 19 + MI.nL M2 ≤ MI.lo M) (hroom : al.2.1 + MI.mc M2 ≤ MI.mc M ∧ al.2.2 + MI.ms M2 ≤ MI.ms M)
    (k : ∀ (r : Option Value) (h2 : AH) (z2 : Nat), Post2 r h2 z2 → VS ro M Post (z2, al.2.1 + MI.mc M2, al.2.2 + MI.ms M2) h2 (pc + 3) ls (r.toList ++ st)) : VS ro M Post al h pc ls st0 := by
  subst hs0
  intro G p l e R s m args below meth c Q A H locs lsA hX hF hA hK hT hP hz hd2 hS hl
  obtain ⟨hx, hb, hml, hown, hts, hR1, hR2, hR3, hR4, -⟩ := id hX
  have hls : lsA.size = MI.nL M := hl.choose_spec.1.1
  have C' := C l G
  have by1 := en_words by0
  rw [hrt] at C' by1
  refine zen_behind (st0 := As.reverse ++ .ref b :: st) hX hF hA hK hT hz hd2 hS hl (va_runI (As := As) (rest := st) (b := b) ⟨hx, hb, hml, hown, hts⟩ C' ⟨callB_of n hts by1 rfl rfl rfl (hts _ by0.2.1) (hts _ hlk) by0.2.2.1 ⟨by show MI.dp M2 + 1 ≤ _; omega, by show 8 + (MI.nL M2 + 11) + MI.lo M2 ≤ _; omega⟩, hy1, hts _ hi⟩
    ⟨zen_blind, fun U hU hW => ⟨rfl, by rw [hU]; exact hz, by rw [hU]; exact hP, hK.warm hW, by rw [hU]; exact ((hT.kept hS.2.1).moved hW.alike).narrow (fun q hq => hq.elim (hd2 q) (fun hq => hA.1 q (by have := hS.1; omega))), by rw [hU]; exact ((hA.2.kept hS.2.1).warm hW).narrow (fun q hq => hq.elim (hd2 q) (fun hq => hA.1 q (by have := hS.1; omega)))⟩⟩ rfl hn hls rfl (lv_room hst) hd ⟨by omega, by omega⟩) k
theorem ze_callIN {y : MethodName} {M2 : MI} {n idx b : Nat} {host : String} {As : List Value} {Post2 : Option Value → AH → Nat → Prop} (C : CnS ro y M2 (.ref b :: As) al.1 h Post2) (by0 : BY y M2 n) (hrt : MI.rt M2 = none) (hy1 : y.name = "<init>") (hi : (Cond.instanceMethod y) ∈ lw_good) (hlk : (MI.own M, idx, y, host) ∈ lw_nests) (hd : decode (MI.cc M) pc = .ok (.invokespecial idx, 3))
    (hn : As.length = n) (hs0 : st0 = As.reverse ++ .ref b :: st) (hst : (st.map fun v => v.category).sum ≤ 8) (hdp : MI.dp M2 + 1 ≤ MI.dp M ∧ MI.lo M2 + 19 + MI.nL M2 ≤ MI.lo M) (hroom : al.2.1 + MI.mc M2 ≤ MI.mc M ∧ al.2.2 + MI.ms M2 ≤ MI.ms M)
    (k : ∀ (r : Option Value) (h2 : AH) (z2 : Nat), Post2 r h2 z2 → VS ro M Post (z2, al.2.1 + MI.mc M2, al.2.2 + MI.ms M2) h2 (pc + 3) ls (r.toList ++ st)) : VS ro M Post al h pc ls st0 := by
  subst hs0
  intro G p l e R s m args below meth c Q A H locs lsA hX hF hA hK hT hP hz hd2 hS hl
  obtain ⟨hx, hb, hml, hown, hts, hR1, hR2, hR3, hR4, -⟩ := id hX
  have hls : lsA.size = MI.nL M := hl.choose_spec.1.1
  have C' := C l G
  have by1 := en_words by0
  rw [hrt] at C' by1
  have hnw := hK.2.1 _ hlk
  refine zen_behind (st0 := As.reverse ++ .ref b :: st) hX hF hA hK hT hz hd2 hS hl (va_runIN (As := As) (rest := st) (b := b) ⟨hx, hb, hml, hown, hts⟩ C' ⟨va_cnB n hts by1 rfl rfl rfl hnw (hts _ by0.2.1) by0.2.2.1 ⟨by show MI.dp M2 + 1 ≤ _; omega, by show 8 + (MI.nL M2 + 11) + MI.lo M2 ≤ _; omega⟩, hy1, hts _ hi⟩
    ⟨zen_blind, fun U hU hW => ⟨rfl, by rw [hU]; exact hz, by rw [hU]; exact hP, hK.warm hW, by rw [hU]; exact ((hT.kept hS.2.1).moved hW.alike).narrow (fun q hq => hq.elim (hd2 q) (fun hq => hA.1 q (by have := hS.1; omega))), by rw [hU]; exact ((hA.2.kept hS.2.1).warm hW).narrow (fun q hq => hq.elim (hd2 q) (fun hq => hA.1 q (by have := hS.1; omega)))⟩⟩ rfl hn hls rfl (lv_room hst) hd ⟨by omega, by omega⟩) k
theorem zn_S {Pr : Int32 → AH → Prop} (C : CIS ro y M2 As h Pr) (by0 : BY y M2 n) (hi : (Cond.static y) ∈ lw_good) (hlk : (Cond.methodLink (MI.own M) idx y) ∈ lw_good) (hd : decode (MI.cc M) pc = .ok (.invokestatic idx, 3)) (hn : As.length = n) (hs0 : st0 = As.reverse ++ st) (hst : (st.map fun v => v.category).sum ≤ 8) (hdp : MI.dp M2 + 1 ≤ MI.dp M ∧ MI.lo M2 + 19 + MI.nL M2 ≤ MI.lo M) (hroom : MI.mc M2 = 0 ∧ MI.ms M2 = 0 ∧ al.2.1 ≤ MI.mc M ∧ al.2.2 ≤ MI.ms M)
    (k : ∀ (x : Int32) (h2 : AH), Pr x h2 → VS ro M Post al h2 (pc + 3) ls (.int x :: st)) : VS ro M Post al h pc ls st0 := by
  subst hs0
  refine ze_callS (C al.1) by0 hi hlk hd hn rfl hst hdp ⟨by omega, by omega⟩ (fun r h2 z2 hp => ?_)
  obtain ⟨rfl, x, rfl, hp⟩ := hp
  rw [hroom.1, hroom.2.1]
  exact k x h2 hp
theorem zn_Sv {Pr : AH → Prop} (C : CVS ro y M2 As h Pr) (by0 : BY y M2 n) (hi : (Cond.static y) ∈ lw_good) (hlk : (Cond.methodLink (MI.own M) idx y) ∈ lw_good) (hd : decode (MI.cc M) pc = .ok (.invokestatic idx, 3)) (hn : As.length = n) (hs0 : st0 = As.reverse ++ st) (hst : (st.map fun v => v.category).sum ≤ 8) (hdp : MI.dp M2 + 1 ≤ MI.dp M ∧ MI.lo M2 + 19 + MI.nL M2 ≤ MI.lo M) (hroom : MI.mc M2 = 0 ∧ MI.ms M2 = 0 ∧ al.2.1 ≤ MI.mc M ∧ al.2.2 ≤ MI.ms M)
    (k : ∀ (h2 : AH), Pr h2 → VS ro M Post al h2 (pc + 3) ls st) : VS ro M Post al h pc ls st0 := by
  subst hs0
  refine ze_callS (C al.1) by0 hi hlk hd hn rfl hst hdp ⟨by omega, by omega⟩ (fun r h2 z2 hp => ?_)
  obtain ⟨rfl, rfl, hp⟩ := hp
  rw [hroom.1, hroom.2.1]
  exact k h2 hp
theorem zn_V {Pr : Int32 → AH → Prop} (C : CIS ro y M2 (.ref b :: As) h Pr) (by0 : BY y M2 n) (hi : (Cond.instanceMethod y) ∈ lw_good) (hsel : (Cond.selects y.cls y y) ∈ lw_good) (hlk : (Cond.methodLink (MI.own M) idx y) ∈ lw_good) (hd : decode (MI.cc M) pc = .ok (.invokevirtual idx, 3)) (hn : As.length = n) (hs0 : st0 = As.reverse ++ .ref b :: st) (hb0 : h b = some (ob ci fs)) (hc : vwCl[ci]? = some r0) (hr0 : r0.1 = y.cls) (hst : (st.map fun v => v.category).sum ≤ 8) (hdp : MI.dp M2 + 1 ≤ MI.dp M ∧ MI.lo M2 + 19 + MI.nL M2 ≤ MI.lo M) (hroom : MI.mc M2 = 0 ∧ MI.ms M2 = 0 ∧ al.2.1 ≤ MI.mc M ∧ al.2.2 ≤ MI.ms M)
    (k : ∀ (x : Int32) (h2 : AH), Pr x h2 → VS ro M Post al h2 (pc + 3) ls (.int x :: st)) : VS ro M Post al h pc ls st0 := by
  subst hs0
  refine ze_callV (C al.1) by0 hi hsel hlk hd hn rfl hb0 hc hr0 hst hdp ⟨by omega, by omega⟩ (fun r h2 z2 hp => ?_)
  obtain ⟨rfl, x, rfl, hp⟩ := hp
  rw [hroom.1, hroom.2.1]
  exact k x h2 hp
theorem zn_Vv {Pr : AH → Prop} (C : CVS ro y M2 (.ref b :: As) h Pr) (by0 : BY y M2 n) (hi : (Cond.instanceMethod y) ∈ lw_good) (hsel : (Cond.selects y.cls y y) ∈ lw_good) (hlk : (Cond.methodLink (MI.own M) idx y) ∈ lw_good) (hd : decode (MI.cc M) pc = .ok (.invokevirtual idx, 3)) (hn : As.length = n) (hs0 : st0 = As.reverse ++ .ref b :: st) (hb0 : h b = some (ob ci fs)) (hc : vwCl[ci]? = some r0) (hr0 : r0.1 = y.cls) (hst : (st.map fun v => v.category).sum ≤ 8) (hdp : MI.dp M2 + 1 ≤ MI.dp M ∧ MI.lo M2 + 19 + MI.nL M2 ≤ MI.lo M) (hroom : MI.mc M2 = 0 ∧ MI.ms M2 = 0 ∧ al.2.1 ≤ MI.mc M ∧ al.2.2 ≤ MI.ms M)
    (k : ∀ (h2 : AH), Pr h2 → VS ro M Post al h2 (pc + 3) ls st) : VS ro M Post al h pc ls st0 := by
  subst hs0
  refine ze_callV (C al.1) by0 hi hsel hlk hd hn rfl hb0 hc hr0 hst hdp ⟨by omega, by omega⟩ (fun r h2 z2 hp => ?_)
  obtain ⟨rfl, rfl, hp⟩ := hp
  rw [hroom.1, hroom.2.1]
  exact k h2 hp
theorem zn_Vr {Pr : Option Nat → AH → Prop} (C : CRS ro y M2 (.ref b :: As) h Pr) (by0 : BY y M2 n) (hi : (Cond.instanceMethod y) ∈ lw_good) (hsel : (Cond.selects y.cls y y) ∈ lw_good) (hlk : (Cond.methodLink (MI.own M) idx y) ∈ lw_good) (hd : decode (MI.cc M) pc = .ok (.invokevirtual idx, 3)) (hn : As.length = n) (hs0 : st0 = As.reverse ++ .ref b :: st) (hb0 : h b = some (ob ci fs)) (hc : vwCl[ci]? = some r0) (hr0 : r0.1 = y.cls) (hst : (st.map fun v => v.category).sum ≤ 8) (hdp : MI.dp M2 + 1 ≤ MI.dp M ∧ MI.lo M2 + 19 + MI.nL M2 ≤ MI.lo M) (hroom : MI.mc M2 = 0 ∧ MI.ms M2 = 0 ∧ al.2.1 ≤ MI.mc M ∧ al.2.2 ≤ MI.ms M)
    (k : ∀ (x : Option Nat) (h2 : AH), Pr x h2 → VS ro M Post al h2 (pc + 3) ls (va_rf x :: st)) : VS ro M Post al h pc ls st0 := by
  subst hs0
  refine ze_callV (C al.1) by0 hi hsel hlk hd hn rfl hb0 hc hr0 hst hdp ⟨by omega, by omega⟩ (fun r h2 z2 hp => ?_)
  obtain ⟨rfl, x, rfl, hp⟩ := hp
  rw [hroom.1, hroom.2.1]
  exact k x h2 hp
theorem zn_SP {v : Int32} (C : CPS ro y M2 As h v) (by0 : BY y M2 n) (hi : (Cond.static y) ∈ lw_good) (hlk : (Cond.methodLink (MI.own M) idx y) ∈ lw_good) (hd : decode (MI.cc M) pc = .ok (.invokestatic idx, 3)) (hn : As.length = n) (hs0 : st0 = As.reverse ++ st) (hst : (st.map fun v => v.category).sum ≤ 8) (hdp : MI.dp M2 + 1 ≤ MI.dp M ∧ MI.lo M2 + 19 + MI.nL M2 ≤ MI.lo M) (hroom : MI.mc M2 = 0 ∧ MI.ms M2 = 0 ∧ al.2.1 ≤ MI.mc M ∧ al.2.2 ≤ MI.ms M)
    (k : VS ro M Post al h (pc + 3) ls (.int v :: st)) : VS ro M Post al h pc ls st0 := zn_S C by0 hi hlk hd hn hs0 hst hdp hroom (fun x h2 hp => by obtain ⟨rfl, rfl⟩ := hp; exact k)
theorem zn_VP {v : Int32} (C : CPS ro y M2 (.ref b :: As) h v) (by0 : BY y M2 n) (hi : (Cond.instanceMethod y) ∈ lw_good) (hsel : (Cond.selects y.cls y y) ∈ lw_good) (hlk : (Cond.methodLink (MI.own M) idx y) ∈ lw_good) (hd : decode (MI.cc M) pc = .ok (.invokevirtual idx, 3)) (hn : As.length = n) (hs0 : st0 = As.reverse ++ .ref b :: st) (hb0 : h b = some (ob ci fs)) (hc : vwCl[ci]? = some r0) (hr0 : r0.1 = y.cls) (hst : (st.map fun v => v.category).sum ≤ 8) (hdp : MI.dp M2 + 1 ≤ MI.dp M ∧ MI.lo M2 + 19 + MI.nL M2 ≤ MI.lo M) (hroom : MI.mc M2 = 0 ∧ MI.ms M2 = 0 ∧ al.2.1 ≤ MI.mc M ∧ al.2.2 ≤ MI.ms M)
    (k : VS ro M Post al h (pc + 3) ls (.int v :: st)) : VS ro M Post al h pc ls st0 := zn_V C by0 hi hsel hlk hd hn hs0 hb0 hc hr0 hst hdp hroom (fun x h2 hp => by obtain ⟨rfl, rfl⟩ := hp; exact k)
-- what may be read: of the heap, or of the cells that nobody writes
theorem ze_getO {idx kf : Nat} {v : Value} (f : FL (MI.own M) idx ci kf) (hd : decode (MI.cc M) pc = .ok (.getfield idx, 3)) (hh : h a = some (ob ci fs) ∨ ro.1 a = some (ob ci fs)) (hv : fs[kf]? = some v) (k : VS ro M Post al h (pc + 3) ls (v :: st)) : VS ro M Post al h pc ls (.ref a :: st) := by
  rcases hh with hh | hh
  · exact ze_get f hd hh hv k
  · intro G p l e R s m args below meth c Q A H locs lsA hX hF hA hK hT hP hz hd2 hS hl
    obtain ⟨C, T, N, hc, hk, hin, hl'⟩ := f
    obtain ⟨hx, hb, hml, hown, hts, -⟩ := id hX
    obtain ⟨r, h1, h2, h3⟩ := hA.2.1 a _ hh
    have hr : r = (C, T, N) := Option.some.inj (h1.symm.trans hc)
    subst hr
    have h4 := h3 kf hk
    rw [show vp_V fs kf = v by simp [vp_V, hv]] at h4
    exact vk_getf hx hb h4 hS hown (hts _ hl') (fun _ q => q) hd (k G p l e R s m args below meth c Q A H locs lsA hX hF hA hK hT hP hz hd2 hS hl)
theorem ze_alenB {n : Nat} {f : Nat → Int32} (hd : decode (MI.cc M) pc = .ok (.arraylength, 1)) (hh : h a = some (aB n f) ∨ ro.1 a = some (aB n f)) (k : VS ro M Post al h (pc + 1) ls (.int (nI n) :: st)) : VS ro M Post al h pc ls (.ref a :: st) := by
  rcases hh with hh | hh
  · exact ze_alen (x := (4, n, .inl f)) hd hh (show 4 < 6 by decide) rfl k
  · intro G p l e R s m args below meth c Q A H locs lsA hX hF hA hK hT hP hz hd2 hS hl
    obtain ⟨f', ty, e1, e2, e3⟩ := hA.2.1 a _ hh
    exact va_tlen hX.1 hX.2.1 e3 hS rfl hd (k G p l e R s m args below meth c Q A H locs lsA hX hF hA hK hT hP hz hd2 hS hl)
theorem ze_alenR {n : Nat} {f : Nat → Int32} (hd : decode (MI.cc M) pc = .ok (.arraylength, 1)) (hh : ro.1 a = some (aI n f)) (k : VS ro M Post al h (pc + 1) ls (.int (nI n) :: st)) : VS ro M Post al h pc ls (.ref a :: st) := by
  intro G p l e R s m args below meth c Q A H locs lsA hX hF hA hK hT hP hz hd2 hS hl
  obtain ⟨f', ty, e1, e2, e3⟩ := hA.2.1 a _ hh
  exact va_tlen hX.1 hX.2.1 e3 hS rfl hd (k G p l e R s m args below meth c Q A H locs lsA hX hF hA hK hT hP hz hd2 hS hl)
theorem ze_baldN {n : Nat} {f : Nat → Int32} {i : Int32} (j : Nat) (hd : decode (MI.cc M) pc = .ok (.baload, 1)) (hh : h a = some (aB n f) ∨ ro.1 a = some (aB n f)) (hi : i = nI j) (hj : j < n) (hn : n < 2 ^ 31) (k : VS ro M Post al h (pc + 1) ls (.int (f j) :: st)) : VS ro M Post al h pc ls (.int i :: .ref a :: st) := by
  subst hi
  intro G p l e R s m args below meth c Q A H locs lsA hX hF hA hK hT hP hz hd2 hS hl
  rcases hh with hh | hh
  · exact va_bald hX.1 hX.2.1 hK.1 (en_P.one hP hh) 0 4 rfl rfl (vp_in_nI hj hn) hd (by rw [nI_clamp (by omega)]; exact k G p l e R s m args below meth c Q A H locs lsA hX hF hA hK hT hP hz hd2 hS hl)
  · obtain ⟨f', ty, e1, e2, e3⟩ := hA.2.1 a _ hh
    cases e1
    rcases e2 with ⟨e2, -⟩ | ⟨-, rfl⟩
    · cases e2
    · exact va_tb hX.1 hX.2.1 e3 hS (vp_in_nI hj hn) (by show Value.int _ = Value.int _; rw [nI_clamp (by omega)]) hd (k G p l e R s m args below meth c Q A H locs lsA hX hF hA hK hT hP hz hd2 hS hl)
theorem ze_ialdR {n : Nat} {f : Nat → Int32} {i : Int32} (j : Nat) (hd : decode (MI.cc M) pc = .ok (.iaload, 1)) (hh : ro.1 a = some (aI n f)) (hi : i = nI j) (hj : j < n) (hn : n < 2 ^ 31) (k : VS ro M Post al h (pc + 1) ls (.int (f j) :: st)) : VS ro M Post al h pc ls (.int i :: .ref a :: st) := by
  subst hi
  intro G p l e R s m args below meth c Q A H locs lsA hX hF hA hK hT hP hz hd2 hS hl
  obtain ⟨f', ty, e1, e2, e3⟩ := hA.2.1 a _ hh
  cases e1
  rcases e2 with ⟨-, rfl⟩ | ⟨e2, -⟩
  · exact va_ti hX.1 hX.2.1 e3 hS (vp_in_nI hj hn) (by show Value.int _ = Value.int _; rw [nI_clamp (by omega)]) hd (k G p l e R s m args below meth c Q A H locs lsA hX hF hA hK hT hP hz hd2 hS hl)
  · cases e2
-- byte arrays
theorem ze_bastN {n : Nat} {f : Nat → Int32} {i x : Int32} (j : Nat) (hd : decode (MI.cc M) pc = .ok (.bastore, 1)) (hh : h a = some (aB n f)) (hi : i = nI j) (hj : j < n) (hn : n < 2 ^ 31) (k : VS ro M Post al (hset h a (aB n (upd f j (vp_nar .byte x)))) (pc + 1) ls st) : VS ro M Post al h pc ls (.int x :: .int i :: .ref a :: st) := by
  subst hi
  intro G p l e R s m args below meth c Q A H locs lsA hX hF hA hK hT hP hz hd2 hS hl
  have ha : A a := hd2 a (by rw [hh]; exact fun z => by cases z)
  have hin : vp_in (nI j) n := vp_in_nI hj hn
  have hcl : (nI j).toNatClampNeg = j := nI_clamp (by omega)
  refine W.bast hX.1 hX.2.1 (hP a _ hh) ((hK.1.2 4 _ rfl).1 n (fun j => .int (f j))) (fun q => by cases q) (by show ¬ (nI j < 0 ∨ (arrV _ _ _).slots.size ≤ _); rw [arrV_size]; exact hin) rfl rfl hd fun H1 e1 z oq => ?_
  refine k G p l e R s m args below meth c Q A H1 _ lsA hX hF hA hK hT (hP.put ?_ oq) (z.trans hz) (en_dom hd2 ha) (hS.put z oq ha) hl
  show H1[a]? = some (vp_cell _ _)
  rw [e1]
  show some ((vp_cell _ (n, .inl f)).setSlot _ _) = some (vp_cell _ (n, .inl _))
  rw [hcl, vp_cell_i, vp_cell_i, arrV_store]
  congr 2
  funext q
  by_cases hq : q = j
  · subst hq
    simp [updV, upd, vp_nar]
    try rfl
  · simp [updV, upd, hq]
theorem ze_newB {N : Nat} {n : Int32} (hd : decode (MI.cc M) pc = .ok (.newarray .byte, 2)) (hn : n = nI N) (hN : N < 100000) (hlim : al.2.1 + 1 ≤ MI.mc M ∧ al.2.2 + N ≤ MI.ms M) (k : VS ro M Post (al.1 + 1, al.2.1 + 1, al.2.2 + N) (hset h al.1 (aB N (fun _ => 0))) (pc + 2) ls (.ref al.1 :: st)) : VS ro M Post al h pc ls (.int n :: st) :=
  ze_newa 4 (by omega) (ty := .byte) rfl (fun _ => rfl) (fun _ _ q => q) q_ac_byte rfl (by decide) hd hn hN hlim k
theorem ze_copyB {index a0 n0 n1 sp dp N : Nat} {f g : Nat → Int32} (hlink : (Cond.methodLink (MI.own M) index arraycopyName) ∈ lw_good) (hd : decode (MI.cc M) pc = .ok (.invokestatic index, 3)) (ha0 : h a0 = some (aB n0 f) ∨ ro.1 a0 = some (aB n0 f)) (ha1 : h a = some (aB n1 g)) (hN : sp + N < 100000) (hD : dp + N < 100000) (hN0 : sp + N ≤ n0) (hN1 : dp + N ≤ n1) (hfit : ∀ i, i < N → fits .byte (.int (f (sp + i))) = true) (hdp : 2 ≤ MI.dp M) (hst : (st.map fun v => v.category).sum ≤ 8)
    (k : VS ro M Post al (hset h a (aB n1 (va_cpy f g sp dp N))) (pc + 3) ls st) : VS ro M Post al h pc ls (.int (nI N) :: .int (nI dp) :: .ref a :: .int (nI sp) :: .ref a0 :: st) := by
  intro G p l e R s m args below meth c Q A H locs lsA hX hF hA hK hT hP hz hd2 hS hl
  obtain ⟨hx, hb, hml, hown, hts, hR1, hR2, hR3, hR4, -⟩ := id hX
  have hls : lsA.size = MI.nL M := hl.choose_spec.1.1
  have ti : ∀ z : Nat, z < 100000 → (nI z).toInt = (z : Int) := fun z hz => nI_toInt (by omega)
  have tc : ∀ z : Nat, z < 100000 → (nI z).toNatClampNeg = z := fun z hz => nI_clamp (by omega)
  have hsrc : ∃ scr : Cell, H[a0]? = some scr ∧ s.isArrayOf scr .byte ∧ scr.vm ≠ .unknown ∧ n0 ≤ scr.slots.size ∧ ∀ j, j < n0 → scr.slots[j]? = some (.int (f j)) := by
    rcases ha0 with ha0 | ha0
    · exact ⟨_, hP a0 _ ha0, (hK.1.2 4 _ rfl).1 n0 (fun j => .int (f j)), (fun q => by cases q), by show _ ≤ (arrV _ _ _).slots.size; rw [arrV_size]; exact Nat.le_refl _, fun j hj => arrV_read _ _ hj⟩
    · obtain ⟨f', ty, e1, e2, e3⟩ := hA.2.1 a0 _ ha0
      cases e1
      rcases e2 with ⟨e2, -⟩ | ⟨-, rfl⟩
      · cases e2
      · obtain ⟨scr, g1, g2, g3, g4, -, g5, g6⟩ := e3
        exact ⟨scr, by rw [hS.2.1 a0 (Array.getElem?_eq_some_iff.mp g1).1 g6]; exact g1, g2, g3, g4, g5⟩
  obtain ⟨scr, hc0, hs2, hs3, hs4, hs5⟩ := hsrc
  intro T hTT X
  have hc1 : H[a]? = some (vp_cell (G.2.1 4) (n1, .inl g)) := hP a _ ha1
  obtain ⟨hs6, k0, hk0, cm0, hkk0⟩ := hs2
  obtain ⟨-, k1, hk1, cm1, hkk1⟩ := (hK.1.2 4 _ rfl).1 n1 (fun j => .int (g j))
  obtain ⟨vm', X', step⟩ := X.arraycopy hx hown (hts _ hlink) (hts _ q_nat_arraycopy) (hts _ q_st_J10_arraycopy) (hts _ q_in_J10) (src := a0) (dst := a) (cs := scr) (cd := vp_cell (G.2.1 4) (n1, .inl g)) (srcPos := nI sp) (destPos := nI dp) (n := nI N) (by rw [hTT]; exact hc0) (by rw [hTT]; exact hc1)
    hs6 (fun _ h => by cases h) hs3 (fun h => by cases h) hk0 hk1 hkk0 hkk1 (by simp [refKind]) (nI_pos (by omega)) (nI_pos (by omega)) (nI_pos (by omega))
    (by rw [ti _ (by omega), ti _ (by omega)]; omega)
    (by rw [ti _ (by omega), ti _ (by omega)]; show ¬ _ > ((arrV (G.2.1 4) n1 (fun j => .int (g j))).slots.size : Int); rw [arrV_size]; omega)
    (fun vm₁ _ i hi => by
      rw [tc _ (by omega)] at hi
      have e : scr.slots.getD ((nI sp).toNatClampNeg + i) .null = .int (f (sp + i)) := by
        rw [tc _ (by omega), Array.getD_eq_getD_getElem?, hs5 _ (by omega)]
        rfl
      refine ⟨?_, ?_⟩
      · rw [e]
        exact hfit i hi
      · rw [e]
        exact trivial)
    (g := F0 m pc lsA (.int (nI N) :: .int (nI dp) :: .ref a :: .int (nI sp) :: .ref a0 :: st)) rfl (by rw [hml, ← hls]) (rest := st) rfl (by rw [hb]; exact hd) (by omega) (by
      show 2 * 0 + _ + (nativeFrameWords "java/lang/System" "arraycopy" 5 + 11) ≤ _
      have : nativeFrameWords "java/lang/System" "arraycopy" 5 ≤ 50 := by decide +kernel
      omega)
  have e1 : copied scr (vp_cell (G.2.1 4) (n1, .inl g)) (nI sp) (nI dp) (nI N) = vp_cell (G.2.1 4) (n1, .inl (va_cpy f g (nI sp).toNatClampNeg (nI dp).toNatClampNeg (nI N).toNatClampNeg)) := va_copiedX (fun z => .int z) scr (G.2.1 4) f g hs5 (by rw [tc _ (by omega), tc _ (by omega)]; exact hN0)
  rw [tc _ (by omega), tc _ (by omega), tc _ (by omega)] at e1
  rw [e1] at X' step
  have hla : a < H.size := (Array.getElem?_eq_some_iff.mp hc1).1
  have hheap : ((T.setVm vm').setCell a (vp_cell (G.2.1 4) (n1, .inl (va_cpy f g sp dp N)))).heap = H.setIfInBounds a (vp_cell (G.2.1 4) (n1, .inl (va_cpy f g sp dp N))) := by rw [← hTT]; rfl
  have oq : ∀ q : Nat, q ≠ a → (H.setIfInBounds a (vp_cell (G.2.1 4) (n1, .inl (va_cpy f g sp dp N))))[q]? = H[q]? := fun q hq => by simp [Array.getElem?_setIfInBounds, Ne.symm hq]
  have haA : A a := hd2 a (by rw [ha1]; exact fun z => by cases z)
  obtain ⟨t, a1, b1⟩ := k G p l e R s m args below meth c Q A _ _ lsA hX hF hA hK hT (hP.put (x := aB n1 (va_cpy f g sp dp N)) (show (H.setIfInBounds a _)[a]? = some _ by simp [Array.getElem?_setIfInBounds, hla]) oq) (by simp; exact hz) (en_dom hd2 haA) ⟨by simp; exact hS.1, fun q g1 g2 => by
      rw [oq q (fun e => g2 (by rw [e]; exact haA))]
      exact hS.2.1 q g1 g2, fun q hq => by
      rcases List.mem_append.mp hq with h | h
      · exact hS.2.2 q h
      · obtain ⟨z, -, hz⟩ := List.mem_map.mp h
        rw [← hz]
        exact haA⟩ hl _ hheap X'
  exact ⟨t, step t a1, b1⟩
theorem ze_cloneB {index n : Nat} {f : Nat → Int32} (hlink : (Cond.methodLink (MI.own M) index ⟨"[B", "clone", "()Ljava/lang/Object;"⟩) ∈ lw_good) (hd : decode (MI.cc M) pc = .ok (.invokevirtual index, 3)) (hh : h a = some (aB n f)) (hfit : ∀ i, i < n → fits .byte (.int (f i)) = true) (hdp : 2 ≤ MI.dp M) (hst : (st.map fun v => v.category).sum ≤ 8) (hlim : al.2.1 + 1 ≤ MI.mc M ∧ al.2.2 + n ≤ MI.ms M)
    (k : VS ro M Post (al.1 + 1, al.2.1 + 1, al.2.2 + n) (hset h al.1 (aB n f)) (pc + 3) ls (.ref al.1 :: st)) : VS ro M Post al h pc ls (.ref a :: st) := by
  intro G p l e R s m args below meth c Q A H locs lsA hX hF hA hK hT hP hz hd2 hS hl
  obtain ⟨hx, hb, hml, hown, hts, hR1, hR2, hR3, hR4, -⟩ := id hX
  have hls : lsA.size = MI.nL M := hl.choose_spec.1.1
  have hnm := va_nm_byte ((hK.1.2 4 _ rfl).2)
  obtain ⟨c0, t0', f1, f2, f3⟩ := Cond.castable_spec (va_Nw.use (A := args) rfl hA.2.2.2.2.2.2)
  cases hnm.symm.trans f1
  intro T hTT X
  have hcellT : T.heap[a]? = some (vp_cell (G.2.1 4) (n, .inl f)) := by rw [hTT]; exact hP a _ hh
  obtain ⟨-, kA, hkA, comp, hkind⟩ := State.isArrayOf_alike X.warmed.alike ((hK.1.2 4 _ rfl).1 0 (fun _ => .null))
  obtain ⟨-, kS, hkS, compS, hkindS⟩ := (hK.1.2 4 _ rfl).1 0 (fun _ => .null)
  have hsz : (vp_cell (G.2.1 4) (n, .inl f)).slots.size = n := arrV_size _ _ _
  obtain ⟨vm', X', st'⟩ := X.cloneArray hx hown (hts _ hlink) (hts _ q_sm__B_java_lang_Object_clone) (hts _ q_nat_clone) (hts _ q_i_java_lang_Object_clone) (hts _ q_s__B_clone) (a := a) (cell := vp_cell (G.2.1 4) (n, .inl f)) hcellT (fun k h => by cases h) (fun h => by cases h) hnm f2 f3
    (fun i v hv => by
      have hk' : T.vm.classes[G.2.1 4]? = some kA := hkA
      have hfv : fits .byte v = true := va_fit (F := fun j => .int (f j)) hfit i v hv
      have hc9 : (vp_cell (G.2.1 4) (n, .inl f)).cls = G.2.1 4 := rfl
      rw [hc9]
      simpa [State.fitsSlot, State.slotType?, hk', hkind] using hfv)
    (g := F0 m pc lsA (.ref a :: st)) rfl (by rw [hml, ← hls]) rfl (by rw [hb]; exact hd) (by omega) (by show 2 * 0 + _ + 14 ≤ _; omega) (by omega) (by rw [hsz]; omega) (hloader := Vm.clonesLoader_of_array hkS hkindS)
  have hcellE : ({ cls := (vp_cell (G.2.1 4) (n, .inl f)).cls, slots := (vp_cell (G.2.1 4) (n, .inl f)).slots } : Cell) = vp_cell (G.2.1 4) (n, .inl f) := rfl
  rw [hcellE, hsz] at X'
  generalize hH1 : H.push (vp_cell (G.2.1 4) (n, .inl f)) = H1
  have z1 : H1.size = H.size + 1 := by rw [← hH1, Array.size_push]
  have e1 : H1[H.size]? = some (vp_cell (G.2.1 4) (n, .inl f)) := by rw [← hH1, Array.getElem?_push_size]
  have o1 : ∀ q : Nat, q < H.size → H1[q]? = H[q]? := fun q hq => by rw [← hH1, Array.getElem?_push, if_neg (Nat.ne_of_lt hq)]
  rw [hz] at e1 z1
  obtain ⟨t, b1, b2⟩ := k G p l e R s m args below meth c Q A H1 locs lsA hX hF hA hK hT (hP.born (x := aB n f) e1 o1) z1 (en_dom hd2 (hA.1 _ (by have := hS.1; omega))) (hS.born (n := 1) (by omega) o1) hl
    ((T.setVm vm').pushCell (vp_cell (G.2.1 4) (n, .inl f))) (by rw [← hH1, ← hTT]; rfl) X'
  refine ⟨t, st' t ?_, b2⟩
  rw [hcellE, hTT, hz]
  exact b1
theorem ze_castB {idx n : Nat} {f : Nat → Int32} (hcl : (Cond.classLink (MI.own M) idx "[B") ∈ lw_good) (hd : decode (MI.cc M) pc = .ok (.checkcast idx, 3)) (hh : h a = some (aB n f)) (k : VS ro M Post al h (pc + 3) ls (.ref a :: st)) : VS ro M Post al h pc ls (.ref a :: st) := by
  intro G p l e R s m args below meth c Q A H locs lsA hX hF hA hK hT hP hz hd2 hS hl
  obtain ⟨hx, hb, hml, hown, hts, -⟩ := id hX
  exact va_castA hx hb hown (hts _ hcl) (en_P.one hP hh) 0 rfl (va_nm_byte ((hK.1.2 4 _ rfl).2)) hd (k G p l e R s m args below meth c Q A H locs lsA hX hF hA hK hT hP hz hd2 hS hl)
-- statics, constants, conversions
theorem ze_compact {idx : Nat} (hl : (Cond.fieldLink (MI.own M) idx "java/lang/String" "COMPACT_STRINGS" "Z") ∈ lw_good) (hd : decode (MI.cc M) pc = .ok (.getstatic idx, 3)) (k : VS ro M Post al h (pc + 3) ls (.int 1 :: st)) : VS ro M Post al h pc ls st := by
  intro G p l e R s m args below meth c Q A H locs lsA hX hF hA hK hT hP hz hd2 hS hl'
  obtain ⟨hx, hb, hml, hown, hts, -⟩ := id hX
  exact va_gets hx hb hT.2.1 hS hown (hts _ hl) (fun _ q => q) hd (k G p l e R s m args below meth c Q A H locs lsA hX hF hA hK hT hP hz hd2 hS hl')
theorem ze_sioobe {idx : Nat} (hl : (Cond.fieldLink (MI.own M) idx "jdk/internal/util/Preconditions" "SIOOBE_FORMATTER" "Ljava/util/function/BiFunction;") ∈ lw_good) (hd : decode (MI.cc M) pc = .ok (.getstatic idx, 3)) (k : ∀ v : Option Nat, VS ro M Post al h (pc + 3) ls (va_rf v :: st)) : VS ro M Post al h pc ls st := by
  intro G p l e R s m args below meth c Q A H locs lsA hX hF hA hK hT hP hz hd2 hS hl'
  obtain ⟨hx, hb, hml, hown, hts, -⟩ := id hX
  rcases hT.2.2 with hZ | ⟨t, hZ⟩
  · exact va_gets hx hb hZ hS hown (hts _ hl) (fun _ q => q) hd (k none G p l e R s m args below meth c Q A H locs lsA hX hF hA hK hT hP hz hd2 hS hl')
  · exact va_gets hx hb hZ hS hown (hts _ hl) (fun _ q => q) hd (k (some t) G p l e R s m args below meth c Q A H locs lsA hX hF hA hK hT hP hz hd2 hS hl')
theorem ze_ones {idx : Nat} (hl : (Cond.fieldLink (MI.own M) idx RJ6 "DigitOnes" "[B") ∈ lw_good) (hd : decode (MI.cc M) pc = .ok (.getstatic idx, 3)) (k : VS ro M Post al h (pc + 3) ls (.ref (ro.2 8) :: st)) : VS ro M Post al h pc ls st := by
  intro G p l e R s m args below meth c Q A H locs lsA hX hF hA hK hT hP hz hd2 hS hl'
  obtain ⟨hx, hb, hml, hown, hts, -⟩ := id hX
  exact va_gets hx hb hA.2.2.2.1 hS hown (hts _ hl) (fun _ q => q) hd (k G p l e R s m args below meth c Q A H locs lsA hX hF hA hK hT hP hz hd2 hS hl')
theorem ze_tens {idx : Nat} (hl : (Cond.fieldLink (MI.own M) idx RJ6 "DigitTens" "[B") ∈ lw_good) (hd : decode (MI.cc M) pc = .ok (.getstatic idx, 3)) (k : VS ro M Post al h (pc + 3) ls (.ref (ro.2 9) :: st)) : VS ro M Post al h pc ls st := by
  intro G p l e R s m args below meth c Q A H locs lsA hX hF hA hK hT hP hz hd2 hS hl'
  obtain ⟨hx, hb, hml, hown, hts, -⟩ := id hX
  exact va_gets hx hb hA.2.2.2.2.1 hS hown (hts _ hl) (fun _ q => q) hd (k G p l e R s m args below meth c Q A H locs lsA hX hF hA hK hT hP hz hd2 hS hl')
theorem ze_ldcI {idx : Nat} {v : Int32} (hq : (Cond.constant (MI.own M) idx v) ∈ lw_good) (hd : decode (MI.cc M) pc = .ok (.ldc idx, 2)) (k : VS ro M Post al h (pc + 2) ls (.int v :: st)) : VS ro M Post al h pc ls st := by
  intro G p l e R s m args below meth c Q A H locs lsA hX hF hA hK hT hP hz hd2 hS hl
  obtain ⟨hx, hb, hml, hown, hts, -⟩ := id hX
  exact lv_ldc hx hb hown (hts _ hq) hd (k G p l e R s m args below meth c Q A H locs lsA hX hF hA hK hT hP hz hd2 hS hl)
theorem ze_ldcS {idx i : Nat} {tx : String} (ho : MI.own M = RL) (q : (idx, tx, i) ∈ lt_strs) (hd : decode (MI.cc M) pc = .ok (.ldc idx, 2)) (k : VS ro M Post al h (pc + 2) ls (.ref (ro.2 i) :: st)) : VS ro M Post al h pc ls st := by
  intro G p l e R s m args below meth c Q A H locs lsA hX hF hA hK hT hP hz hd2 hS hl
  obtain ⟨hx, hb, hml, hown, hts, -⟩ := id hX
  rw [ho] at hown
  exact va_ldcS hx hb hown (hA.2.2.1 _ q) hd (k G p l e R s m args below meth c Q A H locs lsA hX hF hA hK hT hP hz hd2 hS hl)
theorem ze_i2c {x v : Int32} (hd : decode (MI.cc M) pc = .ok (.i2c, 1)) (hv : (x.toUInt32 % 65536).toInt32 = v) (k : VS ro M Post al h (pc + 1) ls (.int v :: st)) : VS ro M Post al h pc ls (.int x :: st) := VS.go (fun hx hb _ w => lv_i2c hx hb hd hv w) k
theorem ze_ineg {x : Int32} (hd : decode (MI.cc M) pc = .ok (.ineg, 1)) (k : VS ro M Post al h (pc + 1) ls (.int (-x) :: st)) : VS ro M Post al h pc ls (.int x :: st) := VS.go (fun hx hb _ w => lv_ineg hx hb hd w) k
theorem ze_ishl {x y : Int32} (hd : decode (MI.cc M) pc = .ok (.ishl, 1)) (k : VS ro M Post al h (pc + 1) ls (.int (x <<< (y &&& 31)) :: st)) : VS ro M Post al h pc ls (.int y :: .int x :: st) := VS.go (fun hx hb _ w => lv_ishl hx hb hd w) k
theorem ze_ior {x y : Int32} (hd : decode (MI.cc M) pc = .ok (.ior, 1)) (k : VS ro M Post al h (pc + 1) ls (.int (x ||| y) :: st)) : VS ro M Post al h pc ls (.int y :: .int x :: st) := VS.go (fun hx hb _ w => lv_ior hx hb hd w) k
theorem ze_getN {idx kf : Nat} {v : Value} (ho : MI.own M = RL) (q : (idx, kf) ∈ lt_fn) (hk : kf < 5) (hT1 : (TX11 kf).1 = RX11) (hd : decode (MI.cc M) pc = .ok (.getfield idx, 3)) (hh : h a = some (ob 10 fs)) (hv : fs[kf]? = some v) (k : VS ro M Post al h (pc + 3) ls (v :: st)) : VS ro M Post al h pc ls (.ref a :: st) := by
  intro G p l e R s m args below meth c Q A H locs lsA hX hF hA hK hT hP hz hd2 hS hl
  obtain ⟨hx, hb, hml, hown, hts, -⟩ := id hX
  rw [ho] at hown
  have hn := va_Nw.use (A := args) (w := Cond.fieldLinkNest RL idx RX11 (TX11 kf).2.1 (TX11 kf).2.2.1 RL) rfl (hA.2.2.2.2.2.1 (idx, kf) q)
  exact va_getN (T := TX11) (C := RX11) (N := 5) hx hb hts uX11 hown hK.1 (en_P.one hP hh) 0 (fs := fs) rfl rfl kf hk hn (fun x z => by rw [hT1] at z; exact z) hv hd (k G p l e R s m args below meth c Q A H locs lsA hX hF hA hK hT hP hz hd2 hS hl)
theorem ze_aldC {n : Nat} {f : Nat → Option Nat} {i : Int32} (j : Nat) {q : Nat} (hd : decode (MI.cc M) pc = .ok (.aaload, 1)) (hh : h a = some (aC n f)) (hi : i = nI j) (hj : j < n) (hn : n < 2 ^ 31) (hq : f j = some q) (k : VS ro M Post al h (pc + 1) ls (.ref q :: st)) : VS ro M Post al h pc ls (.int i :: .ref a :: st) := by
  subst hi
  intro G p l e R s m args below meth c Q A H locs lsA hX hF hA hK hT hP hz hd2 hS hl
  refine W.aald (v := va_rf (f j)) (ty := .array (.array .int)) hX.1 hX.2.1 (hP a _ hh) ((hK.1.2 5 _ rfl).1 n (fun j => va_rf (f j))) rfl (fun q => by cases q) (by show ¬ (nI j < 0 ∨ (arrV _ _ _).slots.size ≤ _); rw [arrV_size]; exact vp_in_nI hj hn) (by show (arrV _ _ _).slots[_]? = _; rw [nI_clamp (by omega), arrV_read _ _ hj]) rfl rfl hd (by rw [hq]; exact k G p l e R s m args below meth c Q A H locs lsA hX hF hA hK hT hP hz hd2 hS hl)
theorem en_At.use {ty : FieldType} {Ar : Array Value} {U : State} (hq : en_At ty U) : (Cond.arrayOver (.array ty)).before Ar U = true := by
  unfold en_At Cond.before Cond.holds at hq
  unfold Cond.before Cond.holds
  simp only [Cond.value] at hq ⊢
  exact hq
theorem ze_newGr {idx N : Nat} {n : Int32} (hcl : (Cond.classLink (MI.own M) idx "[I") ∈ lw_good) (hd : decode (MI.cc M) pc = .ok (.anewarray idx, 3)) (hn : n = nI N) (hN : N < 100000) (hlim : al.2.1 + 1 ≤ MI.mc M ∧ al.2.2 + N ≤ MI.ms M) (k : VS ro M Post (al.1 + 1, al.2.1 + 1, al.2.2 + N) (hset h al.1 (aG N (fun _ => none))) (pc + 3) ls (.ref al.1 :: st)) : VS ro M Post al h pc ls (.int n :: st) := by
  intro G p l e R s m args below meth c Q A H locs lsA hX hF hA hK hT hP hz hd2 hS hl
  obtain ⟨hx, hb, hml, hown, hts, hR1, hR2, hR3, hR4, -⟩ := id hX
  have hcN : n.toNatClampNeg = N := by rw [hn]; exact nI_clamp (by omega)
  have e0 : (FieldType.array FieldType.int).toString = "[I" := by decide +kernel
  refine W.anewA (t := .int) hx hb hown (by rw [e0]; exact hts _ hcl) (en_At.use hK.2.2.2.2.1) rfl hd rfl (by rw [hn]; exact nI_pos (by omega)) (by omega) (by omega) (by omega) fun cA kA comp f1 f2 f3 f4 => ?_
  rw [hcN]
  generalize hH1 : H.push ({ cls := cA, slots := Array.replicate N .null, vm := .none } : Cell) = H1
  have z1 : H1.size = al.1 + 1 := by rw [← hH1, Array.size_push, hz]
  have e1 : H1[al.1]? = some (arrV cA N (fun _ => .null)) := by rw [← hH1, ← hz, Array.getElem?_push_size, ← arrV_new]
  have o1' : ∀ q : Nat, q < H.size → H1[q]? = H[q]? := fun q hq => by rw [← hH1, Array.getElem?_push, if_neg (Nat.ne_of_lt hq)]
  have hcA : cA = G.2.1 2 := Option.some.inj (f1.symm.trans ((hK.1.2 2 _ rfl).2 : s.vm.findClass _ = some _))
  rw [hz]
  exact k G p l e R s m args below meth c Q A H1 locs lsA hX hF hA hK hT (hP.born (by
    show H1[al.1]? = some (vp_cell _ _)
    rw [vp_cell_q, e1, hcA]; rfl) o1') z1 (en_dom hd2 (hA.1 _ (by have := hS.1; omega))) (hS.born (n := 1) (by omega) o1') hl
/-- the budgets may be told larger -/
theorem VS.widen {c2 s2 : Nat} (h1 : al.2.1 ≤ c2) (h2 : al.2.2 ≤ s2) (k : VS ro M Post (al.1, c2, s2) h pc ls st) : VS ro M Post al h pc ls st := by
  intro G p l e R s m args below meth c Q A H locs lsA hX hF hA hK hT hP hz hd2 hS hl
  exact W.widen h1 h2 (k G p l e R s m args below meth c Q A H locs lsA hX hF hA hK hT hP hz hd2 hS hl)
/-- cells may be forgotten -/
theorem VS.drop {h2 : AH} (hh : ∀ q x, h2 q = some x → h q = some x) (k : VS ro M Post al h2 pc ls st) : VS ro M Post al h pc ls st := by
  intro G p l e R s m args below meth c Q A H locs lsA hX hF hA hK hT hP hz hd2 hS hl
  refine k G p l e R s m args below meth c Q A H locs lsA hX hF hA hK hT (fun a x q => hP a x (hh a x q)) hz (fun q hq => ?_) hS hl
  cases e : h2 q with
  | none => exact absurd e hq
  | some x => exact hd2 q (by rw [hh q x e]; exact fun z => by cases z)
-- calls: inherited methods on a StringBuilder, the superclass's own
theorem en_goodl {l : List Cond} (hl : ∀ w ∈ l, w ∈ lw_good) : GoodIn lw_good l := fun w hw => en_good w (hl w hw)
theorem ze_callU {x : MethodName} {As : List Value} {Post2 : Option Value → AH → Nat → Prop} (C : CnS ro y M2 (.ref b :: As) al.1 h Post2) (by0 : BY y M2 n) (hyx : y = ⟨RJ5, x.name, x.desc⟩) (hpx : (parseMethodDescriptor x.desc).map (fun d => d.parameters.length) = some n) (hlk : (Cond.methodLink (MI.own M) idx x) ∈ lw_good) (hsm : (Cond.sameMethod x.cls RJ5 x.name x.desc) ∈ lw_good) (hsel : (Cond.selects RJ4 x y) ∈ lw_good) (hi : (Cond.instanceMethod y) ∈ lw_good) (hd : decode (MI.cc M) pc = .ok (.invokevirtual idx, 3))
    (hn : As.length = n) (hs0 : st0 = As.reverse ++ .ref b :: st) (hb0 : h b = some (ob 12 fs)) (hst : (st.map fun v => v.category).sum ≤ 8) (hdp : MI.dp M2 + 1 ≤ MI.dp M ∧ MI.lo M2 + 19 + MI.nL M2 ≤ MI.lo M) (hroom : al.2.1 + MI.mc M2 ≤ MI.mc M ∧ al.2.2 + MI.ms M2 ≤ MI.ms M)
    (k : ∀ (r : Option Value) (h2 : AH) (z2 : Nat), Post2 r h2 z2 → VS ro M Post (z2, al.2.1 + MI.mc M2, al.2.2 + MI.ms M2) h2 (pc + 3) ls (r.toList ++ st)) : VS ro M Post al h pc ls st0 := by
  subst hs0
  intro G p l e R s m args below meth c Q A H locs lsA hX hF hA hK hT hP hz hd2 hS hl
  obtain ⟨hx, hb, hml, hown, hts, hR1, hR2, hR3, hR4, -⟩ := id hX
  have hls : lsA.size = MI.nL M := hl.choose_spec.1.1
  refine zen_behind (st0 := As.reverse ++ .ref b :: st) hX hF hA hK hT hz hd2 hS hl (va_runU (As := As) (rest := st) (C := RJ4) (owner := RJ5) (x := x) ⟨hx, hb, hml, hown, hts⟩ (C l G) (va_cwU n hts (fun w hw => by
      rcases List.mem_append.mp hw with hw | hw
      · exact en_goodl (List.forall_mem_cons.mpr ⟨hlk, List.forall_mem_cons.mpr ⟨hsm, List.forall_mem_cons.mpr ⟨hsel, List.forall_mem_cons.mpr ⟨hi, List.forall_mem_cons.mpr ⟨by0.2.1, fun w hw => by cases hw⟩⟩⟩⟩⟩) w hw
      · exact en_words by0 w hw) rfl rfl rfl hyx ⟨by decide +kernel, by decide +kernel, hpx⟩ ⟨by show MI.dp M2 + 1 ≤ _; omega, by show 8 + (MI.nL M2 + 11) + MI.lo M2 ≤ _; omega⟩)
    ⟨zen_blind, va_recv (ci := 12) (q0 := 0) (fs := fs) hK.1 (en_P.one hP hb0) (show vwCl[12]? = some (RJ4, TJ4, 4) from rfl) rfl, fun U hU hW => ⟨rfl, by rw [hU]; exact hz, by rw [hU]; exact hP, hK.warm hW, by rw [hU]; exact ((hT.kept hS.2.1).moved hW.alike).narrow (fun q hq => hq.elim (hd2 q) (fun hq => hA.1 q (by have := hS.1; omega))), by rw [hU]; exact ((hA.2.kept hS.2.1).warm hW).narrow (fun q hq => hq.elim (hd2 q) (fun hq => hA.1 q (by have := hS.1; omega)))⟩⟩ rfl hn hls rfl (lv_room hst) hd ⟨by omega, by omega⟩) k
theorem ze_callO {x : MethodName} {b0 : ByteArray} {m0 : Nat} {rt0 : Option FieldType} {As : List Value} {Post2 : Option Value → AH → Nat → Prop} (C : CnS ro y M2 (.ref b :: As) al.1 h Post2) (by0 : BY y M2 n) (hpx : (parseMethodDescriptor x.desc).map (fun d => d.parameters.length) = some n) (hlk : (Cond.methodLink (MI.own M) idx x) ∈ lw_good) (hsm : (Cond.sameMethod x.cls RJ5 x.name x.desc) ∈ lw_good) (hsel : (Cond.selects RJ4 x y) ∈ lw_good) (hi0 : (Cond.instanceMethod ⟨RJ5, x.name, x.desc⟩) ∈ lw_good) (hc0 : (Cond.code ⟨RJ5, x.name, x.desc⟩ b0 m0 rt0) ∈ lw_good) (hi : (Cond.instanceMethod y) ∈ lw_good) (hd : decode (MI.cc M) pc = .ok (.invokevirtual idx, 3))
    (hn : As.length = n) (hs0 : st0 = As.reverse ++ .ref b :: st) (hb0 : h b = some (ob 12 fs)) (hst : (st.map fun v => v.category).sum ≤ 8) (hdp : MI.dp M2 + 1 ≤ MI.dp M ∧ MI.lo M2 + 19 + MI.nL M2 ≤ MI.lo M) (hroom : al.2.1 + MI.mc M2 ≤ MI.mc M ∧ al.2.2 + MI.ms M2 ≤ MI.ms M)
    (k : ∀ (r : Option Value) (h2 : AH) (z2 : Nat), Post2 r h2 z2 → VS ro M Post (z2, al.2.1 + MI.mc M2, al.2.2 + MI.ms M2) h2 (pc + 3) ls (r.toList ++ st)) : VS ro M Post al h pc ls st0 := by
  subst hs0
  intro G p l e R s m args below meth c Q A H locs lsA hX hF hA hK hT hP hz hd2 hS hl
  obtain ⟨hx, hb, hml, hown, hts, hR1, hR2, hR3, hR4, -⟩ := id hX
  have hls : lsA.size = MI.nL M := hl.choose_spec.1.1
  refine zen_behind (st0 := As.reverse ++ .ref b :: st) hX hF hA hK hT hz hd2 hS hl (va_runU (As := As) (rest := st) (C := RJ4) (owner := RJ5) (x := x) ⟨hx, hb, hml, hown, hts⟩ (C l G) (va_cwO n hts (fun w hw => by
      rcases List.mem_append.mp hw with hw | hw
      · exact en_goodl (List.forall_mem_cons.mpr ⟨hlk, List.forall_mem_cons.mpr ⟨hsm, List.forall_mem_cons.mpr ⟨hi0, List.forall_mem_cons.mpr ⟨hsel, List.forall_mem_cons.mpr ⟨hi, List.forall_mem_cons.mpr ⟨by0.2.1, fun w hw => by cases hw⟩⟩⟩⟩⟩⟩) w hw
      · exact en_words by0 w hw) rfl rfl rfl hc0 ⟨by decide +kernel, by decide +kernel, hpx⟩ ⟨by show MI.dp M2 + 1 ≤ _; omega, by show 8 + (MI.nL M2 + 11) + MI.lo M2 ≤ _; omega⟩)
    ⟨zen_blind, va_recv (ci := 12) (q0 := 0) (fs := fs) hK.1 (en_P.one hP hb0) (show vwCl[12]? = some (RJ4, TJ4, 4) from rfl) rfl, fun U hU hW => ⟨rfl, by rw [hU]; exact hz, by rw [hU]; exact hP, hK.warm hW, by rw [hU]; exact ((hT.kept hS.2.1).moved hW.alike).narrow (fun q hq => hq.elim (hd2 q) (fun hq => hA.1 q (by have := hS.1; omega))), by rw [hU]; exact ((hA.2.kept hS.2.1).warm hW).narrow (fun q hq => hq.elim (hd2 q) (fun hq => hA.1 q (by have := hS.1; omega)))⟩⟩ rfl hn hls rfl (lv_room hst) hd ⟨by omega, by omega⟩) k
theorem ze_callSU {As : List Value} {Post2 : Option Value → AH → Nat → Prop} (C : CnS ro y M2 (.ref b :: As) al.1 h Post2) (by0 : BY y M2 n) (hno : y.name ≠ "<init>") (hlk : (Cond.methodLink (MI.own M) idx y) ∈ lw_good) (hsm : (Cond.sameMethod y.cls y.cls y.name y.desc) ∈ lw_good) (hsu : (Cond.superclass (MI.own M) y.cls) ∈ lw_good) (hi : (Cond.instanceMethod y) ∈ lw_good) (hd : decode (MI.cc M) pc = .ok (.invokespecial idx, 3))
    (hn : As.length = n) (hs0 : st0 = As.reverse ++ .ref b :: st) (hb0 : h b = some (ob 12 fs)) (hst : (st.map fun v => v.category).sum ≤ 8) (hdp : MI.dp M2 + 1 ≤ MI.dp M ∧ MI.lo M2 + 19 + MI.nL M2 ≤ MI.lo M) (hroom : al.2.1 + MI.mc M2 ≤ MI.mc M ∧ al.2.2 + MI.ms M2 ≤ MI.ms M)
    (k : ∀ (r : Option Value) (h2 : AH) (z2 : Nat), Post2 r h2 z2 → VS ro M Post (z2, al.2.1 + MI.mc M2, al.2.2 + MI.ms M2) h2 (pc + 3) ls (r.toList ++ st)) : VS ro M Post al h pc ls st0 := by
  subst hs0
  intro G p l e R s m args below meth c Q A H locs lsA hX hF hA hK hT hP hz hd2 hS hl
  obtain ⟨hx, hb, hml, hown, hts, hR1, hR2, hR3, hR4, -⟩ := id hX
  have hls : lsA.size = MI.nL M := hl.choose_spec.1.1
  refine zen_behind (st0 := As.reverse ++ .ref b :: st) hX hF hA hK hT hz hd2 hS hl (va_runSU (As := As) (rest := st) (C := RJ4) ((hK.1.1 12 _ rfl).2) ⟨hx, hb, hml, hown, hts⟩ (C l G) (va_cwSU n hts (fun w hw => by
      rcases List.mem_append.mp hw with hw | hw
      · exact en_goodl (List.forall_mem_cons.mpr ⟨hlk, List.forall_mem_cons.mpr ⟨hsm, List.forall_mem_cons.mpr ⟨hsu, List.forall_mem_cons.mpr ⟨hi, List.forall_mem_cons.mpr ⟨by0.2.1, fun w hw => by cases hw⟩⟩⟩⟩⟩) w hw
      · exact en_words by0 w hw) rfl rfl rfl ⟨hno, by0.2.2.1.2.2⟩ ⟨by show MI.dp M2 + 1 ≤ _; omega, by show 8 + (MI.nL M2 + 11) + MI.lo M2 ≤ _; omega⟩)
    ⟨zen_blind, va_recv (ci := 12) (q0 := 0) (fs := fs) hK.1 (en_P.one hP hb0) (show vwCl[12]? = some (RJ4, TJ4, 4) from rfl) rfl, fun U hU hW => ⟨rfl, by rw [hU]; exact hz, by rw [hU]; exact hP, hK.warm hW, by rw [hU]; exact ((hT.kept hS.2.1).moved hW.alike).narrow (fun q hq => hq.elim (hd2 q) (fun hq => hA.1 q (by have := hS.1; omega))), by rw [hU]; exact ((hA.2.kept hS.2.1).warm hW).narrow (fun q hq => hq.elim (hd2 q) (fun hq => hA.1 q (by have := hS.1; omega)))⟩⟩ rfl hn hls rfl (lv_room hst) hd ⟨by omega, by omega⟩) k
/-- a String, of the heap or of those that nobody writes, is asked -/
theorem ze_callT {As : List Value} {Post2 : Option Value → AH → Nat → Prop} (C : CnS ro y M2 (.ref b :: As) al.1 h Post2) (by0 : BY y M2 n) (hi : (Cond.instanceMethod y) ∈ lw_good) (hsel : (Cond.selects y.cls y y) ∈ lw_good) (hlk : (Cond.methodLink (MI.own M) idx y) ∈ lw_good) (hd : decode (MI.cc M) pc = .ok (.invokevirtual idx, 3))
    (hn : As.length = n) (hs0 : st0 = As.reverse ++ .ref b :: st) (hb0 : h b = some (ob 11 fs) ∨ ro.1 b = some (ob 11 fs)) (hr0 : RJ0 = y.cls) (hst : (st.map fun v => v.category).sum ≤ 8) (hdp : MI.dp M2 + 1 ≤ MI.dp M ∧ MI.lo M2 + 19 + MI.nL M2 ≤ MI.lo M) (hroom : al.2.1 + MI.mc M2 ≤ MI.mc M ∧ al.2.2 + MI.ms M2 ≤ MI.ms M)
    (k : ∀ (r : Option Value) (h2 : AH) (z2 : Nat), Post2 r h2 z2 → VS ro M Post (z2, al.2.1 + MI.mc M2, al.2.2 + MI.ms M2) h2 (pc + 3) ls (r.toList ++ st)) : VS ro M Post al h pc ls st0 := by
  subst hs0
  intro G p l e R s m args below meth c Q A H locs lsA hX hF hA hK hT hP hz hd2 hS hl
  obtain ⟨hx, hb, hml, hown, hts, hR1, hR2, hR3, hR4, -⟩ := id hX
  have hls : lsA.size = MI.nL M := hl.choose_spec.1.1
  have hrecv : ∃ cell : Cell, H[b]? = some cell ∧ cell.vm.isStatics = false ∧ s.vm.findClass y.cls = some cell.cls := by
    rcases hb0 with hb0 | hb0
    · rw [← hr0]; exact va_recv (ci := 11) (q0 := 0) (fs := fs) hK.1 (en_P.one hP hb0) (show vwCl[11]? = some (RJ0, TJ0, 2) from rfl) rfl
    · obtain ⟨r, h1, ⟨cell, g1, g2, g3, g4⟩, -⟩ := hA.2.1 b _ hb0
      have hr : r = (RJ0, TJ0, 2) := Option.some.inj (h1.symm.trans rfl)
      subst hr
      rw [← hr0]
      exact ⟨cell, by rw [hS.2.1 b (Array.getElem?_eq_some_iff.mp g1).1 g4]; exact g1, g2, g3⟩
  refine zen_behind (st0 := As.reverse ++ .ref b :: st) hX hF hA hK hT hz hd2 hS hl (va_runV (As := As) (rest := st) (C := y.cls) ⟨hx, hb, hml, hown, hts⟩ (C l G) ⟨callB_of n hts (en_words by0) rfl rfl rfl (hts _ by0.2.1) (hts _ hlk) by0.2.2.1 ⟨by show MI.dp M2 + 1 ≤ _; omega, by show 8 + (MI.nL M2 + 11) + MI.lo M2 ≤ _; omega⟩, hts _ hi, hts _ hsel⟩
    ⟨zen_blind, hrecv, fun U hU hW => ⟨rfl, by rw [hU]; exact hz, by rw [hU]; exact hP, hK.warm hW, by rw [hU]; exact ((hT.kept hS.2.1).moved hW.alike).narrow (fun q hq => hq.elim (hd2 q) (fun hq => hA.1 q (by have := hS.1; omega))), by rw [hU]; exact ((hA.2.kept hS.2.1).warm hW).narrow (fun q hq => hq.elim (hd2 q) (fun hq => hA.1 q (by have := hS.1; omega)))⟩⟩ rfl hn hls rfl (lv_room hst) hd ⟨by omega, by omega⟩) k
theorem ze_aretA {v : Option Nat} (hd : decode (MI.cc M) pc = .ok (.areturn, 1)) (hr : ∃ t, MI.rt M = some (.array t)) (lim : al.2.1 ≤ MI.mc M ∧ al.2.2 ≤ MI.ms M) (hp : Post (some (va_rf v)) h al.1) : VS ro M Post al h pc ls [va_rf v] := ze_ret (lim := lim) (some (va_rf v)) (Or.inr (Or.inr (Or.inl ⟨Or.inr hr, ⟨v, rfl⟩, hd⟩))) hp
theorem ze_aretR {v : Nat} (hd : decode (MI.cc M) pc = .ok (.areturn, 1)) (hr : (∃ C, MI.rt M = some (.object C)) ∨ ∃ t, MI.rt M = some (.array t)) (lim : al.2.1 ≤ MI.mc M ∧ al.2.2 ≤ MI.ms M) (hp : Post (some (.ref v)) h al.1) : VS ro M Post al h pc ls [.ref v] := ze_ret (lim := lim) (some (va_rf (some v))) (Or.inr (Or.inr (Or.inl ⟨hr, ⟨some v, rfl⟩, hd⟩))) hp
theorem ze_newT {idx : Nat} (hcl : (Cond.classLink (MI.own M) idx RJ0) ∈ lw_good) (hd : decode (MI.cc M) pc = .ok (.new idx, 3)) (hlim : al.2.1 + 1 ≤ MI.mc M ∧ al.2.2 + 4 ≤ MI.ms M) (k : VS ro M Post (al.1 + 1, al.2.1 + 1, al.2.2 + 4) (hset h al.1 (ob 11 [.null, .int 0])) (pc + 3) ls (.ref al.1 :: st)) : VS ro M Post al h pc ls st := by
  intro G p l e R s m args below meth c Q A H locs lsA hX hF hA hK hT hP hz hd2 hS hl
  obtain ⟨hx, hb, hml, hown, hts, hR1, hR2, hR3, hR4, -⟩ := id hX
  have hKn := hK.1.1 11 (RJ0, TJ0, 2) rfl
  refine W.newcK (n := 4) hx hb hown (hts _ hcl) (hts _ q_ib_J0) (hts _ q_in_J0) rfl hd (by omega) (by omega) hKn.2.1 hz fun H1 kC hkC e1 z1 o1 => ?_
  have o1' : ∀ q : Nat, q < H.size → H1[q]? = H[q]? := fun q hq => o1 q (by omega)
  exact k G p l e R s m args below meth c Q A H1 locs lsA hX hF hA hK hT (hP.born (x := ob 11 [.null, .int 0]) ⟨_, rfl, (u_born tyJ0 hts uJ0 hKn hkC e1 tyJ0_ok2).to (fun j hj => by
    match j, hj with
    | 0, _ => rfl
    | 1, _ => rfl)⟩ o1') z1 (en_dom hd2 (hA.1 _ (by have := hS.1; omega))) (hS.born (n := 1) (by omega) o1') hl

end VS1
