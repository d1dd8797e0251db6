/-! ===== the engine: one judgement V over an abstract heap (address -> cell), all of the kit's context hidden; one list of words for every method ===== -/
abbrev AE : Type := (Nat × vp_A) ⊕ (Nat × List Value)
abbrev AH : Type := Nat → Option AE
/-- classes and slots; the array classes; the addresses of the five texts and of their bytes -/
abbrev en_G : Type := va_G × (Nat → ClassId) × (Nat → Nat) × (Nat → Nat)
/-- arrays by kind: 0 int[], 1 boolean[], 2 int[][], 3 World[], 4 byte[], 5 int[][][] -/
abbrev aI (n : Nat) (f : Nat → Int32) : AE := .inl (0, n, .inl f)
abbrev aZ (n : Nat) (f : Nat → Int32) : AE := .inl (1, n, .inl f)
abbrev aG (n : Nat) (f : Nat → Option Nat) : AE := .inl (2, n, .inr (.inr (.inr (.inr f))))
abbrev aB (n : Nat) (f : Nat → Int32) : AE := .inl (4, n, .inl f)
abbrev aC (n : Nat) (f : Nat → Option Nat) : AE := .inl (5, n, .inr (.inr (.inr (.inr f))))
abbrev aQ (n : Nat) (f : Nat → Option Nat) : AE := .inl (3, n, .inr (.inr (.inr (.inr f))))
abbrev ob (ci : Nat) (fs : List Value) : AE := .inr (ci, fs)
def hset (h : AH) (a : Nat) (x : AE) : AH := fun q => if q = a then some x else h q
theorem hset_eq (h : AH) (a : Nat) (x : AE) : hset h a x a = some x := if_pos rfl
theorem hset_ne (h : AH) {a q : Nat} (x : AE) (n : q ≠ a) : hset h a x q = h q := if_neg n
theorem hset_hset (h : AH) (a : Nat) (x y : AE) : hset (hset h a x) a y = hset h a y := by
  funext q; by_cases e : q = a <;> simp [hset, e]
theorem hset_comm (h : AH) {a b : Nat} (n : a ≠ b) (x y : AE) : hset (hset h a x) b y = hset (hset h b y) a x := by
  funext q; by_cases e : q = a <;> by_cases e2 : q = b <;> simp [hset, e, e2]
  · exact absurd (e.symm.trans e2) n
  · intro z; exact absurd z n
  · intro z; exact absurd z.symm n
theorem hset_self {h : AH} {a : Nat} {x : AE} (e : h a = some x) : hset h a x = h := by
  funext q; by_cases c : q = a <;> simp [hset, c, e]
def en_cv (G : en_G) (x : AE) : va_E := match x with
  | .inl (k, a) => .inl (G.2.1 k, a)
  | .inr o => .inr o
def en_P (G : en_G) (h : AH) (H : Heap) : Prop := ∀ (a : Nat) (x : AE), h a = some x → va_at G.1 vwCl (a, en_cv G x) H
def en_tys (G : en_G) : List (ClassId × FieldType) := [(G.2.1 0, .int), (G.2.1 1, .boolean), (G.2.1 2, .array .int), (G.2.1 3, .object RX9), (G.2.1 4, .byte), (G.2.1 5, .array (.array .int))]
def lw_nests : List (String × Nat × MethodName × String) := [("NeedNotJoin$State", 34, ⟨"NeedNotJoin$World", "<init>", "()V"⟩, "NeedNotJoin"), ("NeedNotJoin", 25, ⟨"NeedNotJoin$Reader", "<init>", "()V"⟩, "NeedNotJoin"), ("NeedNotJoin$Reader", 46, ⟨"NeedNotJoin$World", "<init>", "()V"⟩, "NeedNotJoin"), ("NeedNotJoin", 32, ⟨"NeedNotJoin$Echelon", "<init>", "()V"⟩, "NeedNotJoin"), ("NeedNotJoin", 66, ⟨"NeedNotJoin$Search", "<init>", "()V"⟩, "NeedNotJoin"), ("NeedNotJoin$Lists", 11, ⟨"NeedNotJoin$World", "<init>", "()V"⟩, "NeedNotJoin"), ("NeedNotJoin", 80, ⟨"NeedNotJoin$World", "<init>", "()V"⟩, "NeedNotJoin"), ("NeedNotJoinLaw", 30, ⟨"NeedNotJoinLaw$World", "<init>", "()V"⟩, "NeedNotJoinLaw")]
/-- texts: own class, place of the constant pool, text, which of the five -/
def lw_strs : List (String × Nat × String × Nat) := [(RX4, 76, "order", 0), (RX4, 82, "twist", 1), (RX4, 84, "field", 2), (RX4, 85, "at", 3), (RX4, 87, "turn", 4)]
def lw_len : List Nat := [5, 5, 5, 2, 4]
def lw_byt : List (List Int32) := [[111, 114, 100, 101, 114], [116, 119, 105, 115, 116], [102, 105, 101, 108, 100], [97, 116], [116, 117, 114, 110]]
def lw_good : List Cond := lw_tbl.filter goodWord
/-- int[][] can be made -/
def en_At (ty : FieldType) (U : State) : Prop := (Cond.arrayOver (.array ty)).before #[] U = true
theorem en_At.moved {ty : FieldType} {u U : State} (hvm : u.vm.Alike U.vm) (h : en_At ty u) : en_At ty U := by
  obtain ⟨comp, c, k, h1, h2, h3, h4, h5⟩ := arrayOverA_spec h
  obtain ⟨k', hk', he⟩ := hvm.2.2 _ _ h3
  have hb := va_idx_bare U.vm comp
  have hb2 := va_idx_bare u.vm comp
  first | rw [hvm.bare_eq] at hb2 | rw [← hvm.bare_eq] at hb2
  have hi := hb.symm.trans (hb2.trans h2)
  have hkind : k'.kind = .array comp (.array ty) := by rw [he]; exact h4
  have f1 : U.vm.findClass (FieldType.array ty).toString = some comp := by rw [hvm.findClass]; exact h1
  have f2 : U.vm.findClass ("[" ++ (FieldType.array ty).toString) = some c := by rw [hvm.findClass]; exact h5
  unfold en_At Cond.before Cond.holds
  simp only [Cond.value]
  first
    | (rw [f1, Option.bind_some]
       refine (congrArg (fun o : Option Nat => (o.bind (fun c => (U.vm.classes[c]?).map fun (k : Class) => match k.kind with | .array _ ty9 => decide (ty9 = FieldType.array ty) && decide (U.vm.findClass ("[" ++ (FieldType.array ty).toString) = some c) | _ => false) == some true)) hi).trans ?_
       simp [hk', hkind, f2])
def en_AA (U : State) : Prop := en_At .int U ∧ en_At (.array .int) U
theorem en_AA.moved {u U : State} (hvm : u.vm.Alike U.vm) (h : en_AA u) : en_AA U := ⟨h.1.moved hvm, h.2.moved hvm⟩
/-- what the tables say, at a state -/
def en_K (G : en_G) (U : State) : Prop := va_K G.1 vwCl (en_tys G) U ∧ (∀ q ∈ lw_nests, va_Nw (.methodLinkNest q.1 q.2.1 q.2.2.1 q.2.2.2) U) ∧ (∀ q ∈ lw_strs, vk_R q.1 q.2.1 q.2.2.1 (G.2.2.1 q.2.2.2) U) ∧ va_AO RX9 U ∧ en_AA U
theorem en_K.warm {G : en_G} {s U : State} (hW : s.WarmedH U.vm) (h : en_K G s) : en_K G U := ⟨va_K.moved hW.alike h.1, fun q hq => va_Nw.warmM hW (h.2.1 q hq), fun q hq => vk_R.warm hW (h.2.2.1 q hq), va_AO.moved hW.alike h.2.2.2.1, en_AA.moved hW.alike h.2.2.2.2⟩
theorem en_K.same {G : en_G} {u U : State} (hv : u.vm = U.vm) (h : en_K G u) : en_K G U := ⟨va_K.moved (by rw [← hv]; exact Vm.Alike.refl u.vm) h.1, fun q hq => va_Nw.same rfl hv (h.2.1 q hq), fun q hq => vk_R.same hv.symm (h.2.2.1 q hq), va_AO.moved (by rw [← hv]; exact Vm.Alike.refl u.vm) h.2.2.2.1, en_AA.moved (by rw [← hv]; exact Vm.Alike.refl u.vm) h.2.2.2.2⟩
/-- what nobody writes: the texts, the static of String -/
def en_S (G : en_G) (A : Nat → Prop) (U : State) (H : Heap) : Prop := vk_S 5 lw_len lw_byt G.2.2.1 G.2.2.2 A U H ∧ va_Z "java/lang/String" "COMPACT_STRINGS" "Z" (.int 1) A U H ∧ va_Zq "jdk/internal/util/Preconditions" "SIOOBE_FORMATTER" "Ljava/util/function/BiFunction;" A U H
theorem en_S.moved {G : en_G} {A : Nat → Prop} {u U : State} {H : Heap} (hvm : u.vm.Alike U.vm) (h : en_S G A u H) : en_S G A U H := ⟨h.1.moved hvm, h.2.1.moved hvm, h.2.2.moved hvm⟩
theorem en_S.kept {G : en_G} {A : Nat → Prop} {U : State} {H H1 : Heap} (h : en_S G A U H) (hq : ∀ a : Nat, a < H.size → ¬ A a → H1[a]? = H[a]?) : en_S G A U H1 := ⟨h.1.kept hq, h.2.1.kept hq, h.2.2.kept hq⟩
theorem en_S.narrow {G : en_G} {A B : Nat → Prop} {U : State} {H : Heap} (h : en_S G A U H) (hAB : ∀ q, B q → A q) : en_S G B U H := ⟨h.1.narrow hAB, h.2.1.narrow hAB, h.2.2.narrow hAB⟩
/-- own class, code, locals, answer's type, depth, cells, slots, constructor -/
abbrev MI : Type := String × ByteArray × Nat × Option FieldType × Nat × Nat × Nat × Bool
abbrev MI.own (M : MI) : String := M.1
abbrev MI.cc (M : MI) : ByteArray := M.2.1
abbrev MI.nL (M : MI) : Nat := M.2.2.1
abbrev MI.rt (M : MI) : Option FieldType := M.2.2.2.1
abbrev MI.dp (M : MI) : Nat := M.2.2.2.2.1
abbrev MI.mc (M : MI) : Nat := M.2.2.2.2.2.1
abbrev MI.ms (M : MI) : Nat := M.2.2.2.2.2.2.1
abbrev MI.ini (M : MI) : Bool := M.2.2.2.2.2.2.2
/-- words of locals that a method of that depth has -/
def en_lo (d : Nat) : Nat := if d = 13 then 534 else 38 * d + 20
theorem en_lo_ge (d : Nat) : en_lo d ≤ en_lo d ∧ 38 * d + 20 ≤ en_lo d := by
  refine ⟨Nat.le_refl _, ?_⟩
  unfold en_lo
  split <;> omega
abbrev MI.lo (M : MI) : Nat := en_lo (MI.dp M)
abbrev en_rm (M : MI) : Room := { frames := MI.dp M, cells := MI.mc M, slots := MI.ms M, locals := MI.lo M }
def en_X (M : MI) (p : Program) (R : Room) (s : State) (m : MethodId) (args : Array Value) (meth : Method) (c : Code) : Prop :=
  p.tables.exec = Jvm.exec ∧ c.code = MI.cc M ∧ c.maxLocals = MI.nL M ∧ s.vm.findClass (MI.own M) = some m.cls ∧ (∀ w ∈ lw_good, w.before args s = true) ∧ MI.dp M ≤ R.frames ∧ (MI.lo M ≤ R.locals ∧ 38 * MI.dp M + 20 ≤ R.locals) ∧ MI.mc M ≤ R.cells ∧ MI.ms M ≤ R.slots ∧ (MI.ini M = true → meth.name = "<init>")
/-- the locals: what is known of them; every known value takes one place -/
def en_L (lsA : Array Slot) (nL : Nat) (ls : List (Option Value)) : Prop := ∃ l, lv_has lsA nL l ∧ ls.length ≤ nL ∧ ∀ (i : Nat) (v : Value), ls[i]? = some (some v) → v.category = 1 ∧ (i, v) ∈ l
def en_ro (rt : Option FieldType) (r : Option Value) (cc : ByteArray) (pc : Nat) : Prop :=
  (rt = none ∧ r = none ∧ decode cc pc = .ok (.return_, 1)) ∨ ((rt = some .int ∨ rt = some .boolean) ∧ (∃ x : Int32, r = some (.int x) ∧ (rt = some .boolean → narrow .boolean (.int x) = .int x)) ∧ decode cc pc = .ok (.ireturn, 1)) ∨ (((∃ C, rt = some (.object C)) ∨ ∃ t, rt = some (.array t)) ∧ (∃ v : Option Nat, r = some (va_rf v)) ∧ decode cc pc = .ok (.areturn, 1)) ∨ (∃ (ty : FieldType) (x : Int32), rt = some ty ∧ r = some (.int x) ∧ narrow ty (.int x) = .int x ∧ decode cc pc = .ok (.ireturn, 1))
def en_F (M : MI) (G : en_G) (p : Program) (l : Launch) (e : Env) (R : Room) (s : State) (m : MethodId) (args : Array Value) (below : List Frame) (meth : Method) (c : Code) (Q : State → Prop) (A : Nat → Prop) (Post : Option Value → AH → Nat → Prop) : Prop :=
  ∀ (r : Option Value) (h' : AH) (H' : Heap) (locs' : List Loc) (k' n' pc' : Nat) (lsA' : Array Slot), Post r h' H'.size → en_P G h' H' → (∀ q, h' q ≠ none → A q) → va_S A s.heap H' locs' → k' ≤ MI.mc M → n' ≤ MI.ms M → en_ro (MI.rt M) r (MI.cc M) pc' →
    W p l e R s m args below meth c H' locs' k' n' Q (F0 m pc' lsA' r.toList)
def V (M : MI) (Post : Option Value → AH → Nat → Prop) (al : Nat × Nat × Nat) (h : AH) (pc : Nat) (ls : List (Option Value)) (st : List Value) : Prop :=
  ∀ (G : en_G) (p : Program) (l : Launch) (e : Env) (R : Room) (s : State) (m : MethodId) (args : Array Value) (below : List Frame) (meth : Method) (c : Code) (Q : State → Prop) (A : Nat → Prop) (H : Heap) (locs : List Loc) (lsA : Array Slot),
    en_X M p R s m args meth c → en_F M G p l e R s m args below meth c Q A Post → (∀ q, s.heap.size ≤ q → A q) → en_K G s → en_S G A s s.heap →
    en_P G h H → H.size = al.1 → (∀ q, h q ≠ none → A q) → va_S A s.heap H locs → en_L lsA (MI.nL M) ls →
    W p l e R s m args below meth c H locs al.2.1 al.2.2 Q (F0 m pc lsA st)
section EN1
variable {M : MI} {Post : Option Value → AH → Nat → Prop} {al : Nat × Nat × Nat} {h : AH} {pc : Nat} {ls : List (Option Value)} {st : List Value}
theorem V.go {pc2 : Nat} {st2 : List Value} (f : ∀ {p : Program} {l : Launch} {e : Env} {R : Room} {s : State} {m : MethodId} {args : Array Value} {below : List Frame} {meth : Method} {c : Code} {H : Heap} {locs : List Loc} {cells slots : Nat} {Q : State → Prop} {lsA : Array Slot},
    p.tables.exec = Jvm.exec → c.code = MI.cc M → en_L lsA (MI.nL M) ls → W p l e R s m args below meth c H locs cells slots Q (F0 m pc2 lsA st2) → W p l e R s m args below meth c H locs cells slots Q (F0 m pc lsA st))
    (k : V M Post al h pc2 ls st2) : V M Post al h pc ls st := by
  intro G p l e R s m args below meth c Q A H locs lsA hX hF hA hK hT hP hz hd hS hl
  exact f hX.1 hX.2.1 hl (k G p l e R s m args below meth c Q A H locs lsA hX hF hA hK hT hP hz hd hS hl)
theorem V.store {pc2 : Nat} {st2 : List Value} {ls2 : List (Option Value)} (f : ∀ {p : Program} {l : Launch} {e : Env} {R : Room} {s : State} {m : MethodId} {args : Array Value} {below : List Frame} {meth : Method} {c : Code} {H : Heap} {locs : List Loc} {cells slots : Nat} {Q : State → Prop} {lsA : Array Slot},
    p.tables.exec = Jvm.exec → c.code = MI.cc M → en_L lsA (MI.nL M) ls → (∀ lsB, en_L lsB (MI.nL M) ls2 → W p l e R s m args below meth c H locs cells slots Q (F0 m pc2 lsB st2)) → W p l e R s m args below meth c H locs cells slots Q (F0 m pc lsA st))
    (k : V M Post al h pc2 ls2 st2) : V M Post al h pc ls st := by
  intro G p l e R s m args below meth c Q A H locs lsA hX hF hA hK hT hP hz hd hS hl
  exact f hX.1 hX.2.1 hl (fun lsB hl2 => k G p l e R s m args below meth c Q A H locs lsB hX hF hA hK hT hP hz hd hS hl2)
theorem en_L.at {lsA : Array Slot} {nL i : Nat} {ls : List (Option Value)} {v : Value} (hl : en_L lsA nL ls) (h : ls[i]? = some (some v)) : lsA[i]? = some (.val v) := by
  obtain ⟨l, h1, -, h2⟩ := hl
  exact h1.2.2 _ (h2 i v h).2
theorem en_L.put {nL i : Nat} {ls : List (Option Value)} {v : Value} {l : List (Nat × Value)} (hlen : ls.length ≤ nL) (hl : ∀ (j : Nat) (w : Value), ls[j]? = some (some w) → w.category = 1 ∧ (j, w) ∈ l) (hv : v.category = 1) {lsB : Array Slot} (hB : lv_has lsB nL ((i, v) :: l.filter (fun q => !(q.1 == i) && !(q.1 + 1 == i && q.2.category == 2)))) : en_L lsB nL (ls.set i (some v)) := by
  refine ⟨_, hB, by simpa using hlen, fun j w hj => ?_⟩
  by_cases e : j = i
  · subst e
    have hlt : j < ls.length := by
      have := (List.getElem?_eq_some_iff.mp hj).1
      simpa using this
    rw [List.getElem?_set_self hlt] at hj
    cases hj
    exact ⟨hv, List.mem_cons_self⟩
  · rw [List.getElem?_set_ne (Ne.symm e)] at hj
    obtain ⟨h1, h2⟩ := hl j w hj
    refine ⟨h1, List.mem_cons_of_mem _ (List.mem_filter.mpr ⟨h2, ?_⟩)⟩
    simp [e, h1]
theorem V.forget {ls2 : List (Option Value)} (hlen : ls2.length ≤ ls.length) (hsub : ∀ (i : Nat) (v : Value), ls2[i]? = some (some v) → ls[i]? = some (some v)) (k : V M Post al h pc ls2 st) : V M Post al h pc ls st := by
  intro G p l e R s m args below meth c Q A H locs lsA hX hF hA hK hT hP hz hd hS hl
  obtain ⟨l1, h1, h3, h2⟩ := hl
  exact k G p l e R s m args below meth c Q A H locs lsA hX hF hA hK hT hP hz hd hS ⟨l1, h1, by omega, fun i v hi => h2 i v (hsub i v hi)⟩
theorem V.post {Post2 : Option Value → AH → Nat → Prop} (hp : ∀ r h' z, Post2 r h' z → Post r h' z) (k : V M Post2 al h pc ls st) : V M Post al h pc ls st := by
  intro G p l e R s m args below meth c Q A H locs lsA hX hF hA hK hT hP hz hd hS hl
  exact k G p l e R s m args below meth c Q A H locs lsA hX (fun r h' H' locs' k' n' pc' lsA' q => hF r h' H' locs' k' n' pc' lsA' (hp _ _ _ q)) hA hK hT hP hz hd hS hl
-- constants, locals, stack
theorem e_iconst {n : Int} {v : Int32} (hd : decode (MI.cc M) pc = .ok (.iconst n, 1)) (hv : Int32.ofInt n = v) (k : V M Post al h (pc + 1) ls (.int v :: st)) : V M Post al h pc ls st := V.go (fun hx hb _ w => lv_iconst hx hb hd hv w) k
theorem e_bipush {n : Int} {v : Int32} (hd : decode (MI.cc M) pc = .ok (.bipush n, 2)) (hv : (Int8.ofInt n).toInt32 = v) (k : V M Post al h (pc + 2) ls (.int v :: st)) : V M Post al h pc ls st := V.go (fun hx hb _ w => lv_bipush hx hb hd hv w) k
theorem e_sipush {n : Int} {v : Int32} (hd : decode (MI.cc M) pc = .ok (.sipush n, 3)) (hv : (Int16.ofInt n).toInt32 = v) (k : V M Post al h (pc + 3) ls (.int v :: st)) : V M Post al h pc ls st := V.go (fun hx hb _ w => lv_sipush hx hb hd hv w) k
theorem e_null (hd : decode (MI.cc M) pc = .ok (.aconst_null, 1)) (k : V M Post al h (pc + 1) ls (.null :: st)) : V M Post al h pc ls st := V.go (fun hx hb _ w => lv_null hx hb hd w) k
theorem e_iload_n {i : Nat} {x : Int32} {k4 : Fin 4} (hd : decode (MI.cc M) pc = .ok (.iload_n k4, 1)) (hi : (k4 : Nat) = i) (hv : ls[i]? = some (some (.int x))) (k : V M Post al h (pc + 1) ls (.int x :: st)) : V M Post al h pc ls st := V.go (fun hx hb hl w => lv_iload_n hx hb hd hi (hl.at hv) w) k
theorem e_iload {i : Nat} {x : Int32} (hd : decode (MI.cc M) pc = .ok (.iload i, 2)) (hv : ls[i]? = some (some (.int x))) (k : V M Post al h (pc + 2) ls (.int x :: st)) : V M Post al h pc ls st := V.go (fun hx hb hl w => lv_iload hx hb hd (hl.at hv) w) k
theorem e_aload_n {i : Nat} {x : Nat} {k4 : Fin 4} (hd : decode (MI.cc M) pc = .ok (.aload_n k4, 1)) (hi : (k4 : Nat) = i) (hv : ls[i]? = some (some (.ref x))) (k : V M Post al h (pc + 1) ls (.ref x :: st)) : V M Post al h pc ls st := V.go (fun hx hb hl w => lv_aload_n hx hb hd hi (hl.at hv) w) k
theorem e_aload {i : Nat} {x : Nat} (hd : decode (MI.cc M) pc = .ok (.aload i, 2)) (hv : ls[i]? = some (some (.ref x))) (k : V M Post al h (pc + 2) ls (.ref x :: st)) : V M Post al h pc ls st := V.go (fun hx hb hl w => lv_aload hx hb hd (hl.at hv) w) k
theorem e_aload_nN {i : Nat} {k4 : Fin 4} (hd : decode (MI.cc M) pc = .ok (.aload_n k4, 1)) (hi : (k4 : Nat) = i) (hv : ls[i]? = some (some .null)) (k : V M Post al h (pc + 1) ls (.null :: st)) : V M Post al h pc ls st := V.go (fun hx hb hl w => lv_aload_nN hx hb hd hi (hl.at hv) w) k
theorem e_istore_n {i : Nat} {x : Int32} {k4 : Fin 4} (hd : decode (MI.cc M) pc = .ok (.istore_n k4, 1)) (hi : (k4 : Nat) = i) (hn : i < MI.nL M) (k : V M Post al h (pc + 1) (ls.set i (some (.int x))) st) : V M Post al h pc ls (.int x :: st) := V.store (fun hx hb hl w => by
  obtain ⟨l1, h1, h3, h2⟩ := hl
  exact lv_istore_n hx hb hd hi h1 hn rfl (fun lsB hB => w lsB (en_L.put h3 h2 rfl hB))) k
theorem e_istore {i : Nat} {x : Int32} (hd : decode (MI.cc M) pc = .ok (.istore i, 2)) (hn : i < MI.nL M) (k : V M Post al h (pc + 2) (ls.set i (some (.int x))) st) : V M Post al h pc ls (.int x :: st) := V.store (fun hx hb hl w => by
  obtain ⟨l1, h1, h3, h2⟩ := hl
  exact lv_istore hx hb hd h1 hn rfl (fun lsB hB => w lsB (en_L.put h3 h2 rfl hB))) k
theorem e_astore_n {i : Nat} {x : Nat} {k4 : Fin 4} (hd : decode (MI.cc M) pc = .ok (.astore_n k4, 1)) (hi : (k4 : Nat) = i) (hn : i < MI.nL M) (k : V M Post al h (pc + 1) (ls.set i (some (.ref x))) st) : V M Post al h pc ls (.ref x :: st) := V.store (fun hx hb hl w => by
  obtain ⟨l1, h1, h3, h2⟩ := hl
  exact lv_astore_n hx hb hd hi h1 hn rfl (fun lsB hB => w lsB (en_L.put h3 h2 rfl hB))) k
theorem e_astore {i : Nat} {x : Nat} (hd : decode (MI.cc M) pc = .ok (.astore i, 2)) (hn : i < MI.nL M) (k : V M Post al h (pc + 2) (ls.set i (some (.ref x))) st) : V M Post al h pc ls (.ref x :: st) := V.store (fun hx hb hl w => by
  obtain ⟨l1, h1, h3, h2⟩ := hl
  exact lv_astore hx hb hd h1 hn rfl (fun lsB hB => w lsB (en_L.put h3 h2 rfl hB))) k
theorem e_astore_nN {i : Nat} {k4 : Fin 4} (hd : decode (MI.cc M) pc = .ok (.astore_n k4, 1)) (hi : (k4 : Nat) = i) (hn : i < MI.nL M) (k : V M Post al h (pc + 1) (ls.set i (some .null)) st) : V M Post al h pc ls (.null :: st) := V.store (fun hx hb hl w => by
  obtain ⟨l1, h1, h3, h2⟩ := hl
  exact lv_astore_nN hx hb hd hi h1 hn rfl (fun lsB hB => w lsB (en_L.put h3 h2 rfl hB))) k
theorem e_iinc {i : Nat} {n : Int} {x v : Int32} (hd : decode (MI.cc M) pc = .ok (.iinc i n, 3)) (hx0 : ls[i]? = some (some (.int x))) (hv : x + Int32.ofInt n = v) (hn : i < MI.nL M) (k : V M Post al h (pc + 3) (ls.set i (some (.int v))) st) : V M Post al h pc ls st := V.store (fun hx hb hl w => by
  obtain ⟨l1, h1, h3, h2⟩ := hl
  obtain ⟨kk, hkk⟩ := List.getElem?_of_mem (h2 _ _ hx0).2
  exact lv_iinc hx hb hd h1 hkk hv hn rfl (fun lsB hB => w lsB (en_L.put h3 h2 rfl hB))) k
theorem e_dup {v : Value} (hd : decode (MI.cc M) pc = .ok (.dup, 1)) (hv : v.category = 1) (k : V M Post al h (pc + 1) ls (v :: v :: st)) : V M Post al h pc ls (v :: st) := V.go (fun hx hb _ w => lv_dup hx hb hd hv w) k
theorem e_dup2 {v u : Value} (hd : decode (MI.cc M) pc = .ok (.dup2, 1)) (hv : v.category = 1) (hu : u.category = 1) (k : V M Post al h (pc + 1) ls (v :: u :: v :: u :: st)) : V M Post al h pc ls (v :: u :: st) := V.go (fun hx hb _ w => lv_dup2_11 hx hb hd hv hu w) k
theorem e_pop {v : Value} (hd : decode (MI.cc M) pc = .ok (.pop, 1)) (hv : v.category = 1) (k : V M Post al h (pc + 1) ls st) : V M Post al h pc ls (v :: st) := V.go (fun hx hb _ w => lv_pop hx hb hd hv w) k
-- arithmetic
theorem e_iadd {x y : Int32} (hd : decode (MI.cc M) pc = .ok (.iadd, 1)) (k : V M Post al h (pc + 1) ls (.int (x + y) :: st)) : V M Post al h pc ls (.int y :: .int x :: st) := V.go (fun hx hb _ w => lv_iadd hx hb hd w) k
theorem e_isub {x y : Int32} (hd : decode (MI.cc M) pc = .ok (.isub, 1)) (k : V M Post al h (pc + 1) ls (.int (x - y) :: st)) : V M Post al h pc ls (.int y :: .int x :: st) := V.go (fun hx hb _ w => lv_isub hx hb hd w) k
theorem e_imul {x y : Int32} (hd : decode (MI.cc M) pc = .ok (.imul, 1)) (k : V M Post al h (pc + 1) ls (.int (x * y) :: st)) : V M Post al h pc ls (.int y :: .int x :: st) := V.go (fun hx hb _ w => lv_imul hx hb hd w) k
theorem e_idiv {x y : Int32} (hd : decode (MI.cc M) pc = .ok (.idiv, 1)) (hne : ¬ y = 0) (k : V M Post al h (pc + 1) ls (.int (x / y) :: st)) : V M Post al h pc ls (.int y :: .int x :: st) := V.go (fun hx hb _ w => lv_idiv hx hb hd hne w) k
theorem e_irem {x y : Int32} (hd : decode (MI.cc M) pc = .ok (.irem, 1)) (hne : ¬ y = 0) (k : V M Post al h (pc + 1) ls (.int (x - x / y * y) :: st)) : V M Post al h pc ls (.int y :: .int x :: st) := V.go (fun hx hb _ w => lv_irem hx hb hd hne w) k
theorem e_iand {x y : Int32} (hd : decode (MI.cc M) pc = .ok (.iand, 1)) (k : V M Post al h (pc + 1) ls (.int (x &&& y) :: st)) : V M Post al h pc ls (.int y :: .int x :: st) := V.go (fun hx hb _ w => lv_iand hx hb hd w) k
theorem e_ixor {x y : Int32} (hd : decode (MI.cc M) pc = .ok (.ixor, 1)) (k : V M Post al h (pc + 1) ls (.int (x ^^^ y) :: st)) : V M Post al h pc ls (.int y :: .int x :: st) := V.go (fun hx hb _ w => lv_ixor hx hb hd w) k
theorem e_top {x y : Int32} (e : x = y) (k : V M Post al h pc ls (.int y :: st)) : V M Post al h pc ls (.int x :: st) := by subst e; exact k
theorem e_loc {ls2 : List (Option Value)} (e : ls = ls2) (k : V M Post al h pc ls2 st) : V M Post al h pc ls st := by subst e; exact k
theorem e_heap {h2 : AH} (e : h = h2) (k : V M Post al h2 pc ls st) : V M Post al h pc ls st := by subst e; exact k
theorem e_goto {off : Int} {tgt : Nat} (hd : decode (MI.cc M) pc = .ok (.goto off, 3)) (ht : (pc : Int) + off = (tgt : Int)) (k : V M Post al h tgt ls st) : V M Post al h pc ls st := V.go (fun hx hb _ w => lv_goto hx hb hd ht w) k
end EN1
section EN2
variable {M : MI} {Post : Option Value → AH → Nat → Prop} {al : Nat × Nat × Nat} {h : AH} {pc : Nat} {ls : List (Option Value)} {st : List Value}
theorem e_if_eq {x : Int32} {off : Int} {tgt : Nat} (hd : decode (MI.cc M) pc = .ok (.ifCond .eq off, 3)) (ht : (pc : Int) + off = (tgt : Int)) (kt : x = 0 → V M Post al h tgt ls st) (kf : ¬ x = 0 → V M Post al h (pc + 3) ls st) : V M Post al h pc ls (.int x :: st) := by
  intro G p l e R s m args below meth c Q A H locs lsA hX hF hA hK hT hP hz hd2 hS hl
  exact lv_if_eq hX.1 hX.2.1 hd ht (fun q => kt q G p l e R s m args below meth c Q A H locs lsA hX hF hA hK hT hP hz hd2 hS hl) (fun q => kf q G p l e R s m args below meth c Q A H locs lsA hX hF hA hK hT hP hz hd2 hS hl)
theorem e_if_ne {x : Int32} {off : Int} {tgt : Nat} (hd : decode (MI.cc M) pc = .ok (.ifCond .ne off, 3)) (ht : (pc : Int) + off = (tgt : Int)) (kt : ¬ x = 0 → V M Post al h tgt ls st) (kf : x = 0 → V M Post al h (pc + 3) ls st) : V M Post al h pc ls (.int x :: st) := by
  intro G p l e R s m args below meth c Q A H locs lsA hX hF hA hK hT hP hz hd2 hS hl
  exact lv_if_ne hX.1 hX.2.1 hd ht (fun q => kt q G p l e R s m args below meth c Q A H locs lsA hX hF hA hK hT hP hz hd2 hS hl) (fun q => kf q G p l e R s m args below meth c Q A H locs lsA hX hF hA hK hT hP hz hd2 hS hl)
theorem e_if_lt {x : Int32} {off : Int} {tgt : Nat} (hd : decode (MI.cc M) pc = .ok (.ifCond .lt off, 3)) (ht : (pc : Int) + off = (tgt : Int)) (kt : x < 0 → V M Post al h tgt ls st) (kf : ¬ x < 0 → V M Post al h (pc + 3) ls st) : V M Post al h pc ls (.int x :: st) := by
  intro G p l e R s m args below meth c Q A H locs lsA hX hF hA hK hT hP hz hd2 hS hl
  exact lv_if_lt hX.1 hX.2.1 hd ht (fun q => kt q G p l e R s m args below meth c Q A H locs lsA hX hF hA hK hT hP hz hd2 hS hl) (fun q => kf q G p l e R s m args below meth c Q A H locs lsA hX hF hA hK hT hP hz hd2 hS hl)
theorem e_if_ge {x : Int32} {off : Int} {tgt : Nat} (hd : decode (MI.cc M) pc = .ok (.ifCond .ge off, 3)) (ht : (pc : Int) + off = (tgt : Int)) (kt : 0 ≤ x → V M Post al h tgt ls st) (kf : ¬ 0 ≤ x → V M Post al h (pc + 3) ls st) : V M Post al h pc ls (.int x :: st) := by
  intro G p l e R s m args below meth c Q A H locs lsA hX hF hA hK hT hP hz hd2 hS hl
  exact lv_if_ge hX.1 hX.2.1 hd ht (fun q => kt q G p l e R s m args below meth c Q A H locs lsA hX hF hA hK hT hP hz hd2 hS hl) (fun q => kf q G p l e R s m args below meth c Q A H locs lsA hX hF hA hK hT hP hz hd2 hS hl)
theorem e_if_gt {x : Int32} {off : Int} {tgt : Nat} (hd : decode (MI.cc M) pc = .ok (.ifCond .gt off, 3)) (ht : (pc : Int) + off = (tgt : Int)) (kt : 0 < x → V M Post al h tgt ls st) (kf : ¬ 0 < x → V M Post al h (pc + 3) ls st) : V M Post al h pc ls (.int x :: st) := by
  intro G p l e R s m args below meth c Q A H locs lsA hX hF hA hK hT hP hz hd2 hS hl
  exact lv_if_gt hX.1 hX.2.1 hd ht (fun q => kt q G p l e R s m args below meth c Q A H locs lsA hX hF hA hK hT hP hz hd2 hS hl) (fun q => kf q G p l e R s m args below meth c Q A H locs lsA hX hF hA hK hT hP hz hd2 hS hl)
theorem e_if_le {x : Int32} {off : Int} {tgt : Nat} (hd : decode (MI.cc M) pc = .ok (.ifCond .le off, 3)) (ht : (pc : Int) + off = (tgt : Int)) (kt : x ≤ 0 → V M Post al h tgt ls st) (kf : ¬ x ≤ 0 → V M Post al h (pc + 3) ls st) : V M Post al h pc ls (.int x :: st) := by
  intro G p l e R s m args below meth c Q A H locs lsA hX hF hA hK hT hP hz hd2 hS hl
  exact lv_if_le hX.1 hX.2.1 hd ht (fun q => kt q G p l e R s m args below meth c Q A H locs lsA hX hF hA hK hT hP hz hd2 hS hl) (fun q => kf q G p l e R s m args below meth c Q A H locs lsA hX hF hA hK hT hP hz hd2 hS hl)
theorem e_icmp_eq {x y : Int32} {off : Int} {tgt : Nat} (hd : decode (MI.cc M) pc = .ok (.if_icmp .eq off, 3)) (ht : (pc : Int) + off = (tgt : Int)) (kt : x = y → V M Post al h tgt ls st) (kf : ¬ x = y → V M Post al h (pc + 3) ls st) : V M Post al h pc ls (.int y :: .int x :: st) := by
  intro G p l e R s m args below meth c Q A H locs lsA hX hF hA hK hT hP hz hd2 hS hl
  exact lv_icmp_eq hX.1 hX.2.1 hd ht (fun q => kt q G p l e R s m args below meth c Q A H locs lsA hX hF hA hK hT hP hz hd2 hS hl) (fun q => kf q G p l e R s m args below meth c Q A H locs lsA hX hF hA hK hT hP hz hd2 hS hl)
theorem e_icmp_ne {x y : Int32} {off : Int} {tgt : Nat} (hd : decode (MI.cc M) pc = .ok (.if_icmp .ne off, 3)) (ht : (pc : Int) + off = (tgt : Int)) (kt : ¬ x = y → V M Post al h tgt ls st) (kf : x = y → V M Post al h (pc + 3) ls st) : V M Post al h pc ls (.int y :: .int x :: st) := by
  intro G p l e R s m args below meth c Q A H locs lsA hX hF hA hK hT hP hz hd2 hS hl
  exact lv_icmp_ne hX.1 hX.2.1 hd ht (fun q => kt q G p l e R s m args below meth c Q A H locs lsA hX hF hA hK hT hP hz hd2 hS hl) (fun q => kf q G p l e R s m args below meth c Q A H locs lsA hX hF hA hK hT hP hz hd2 hS hl)
theorem e_icmp_lt {x y : Int32} {off : Int} {tgt : Nat} (hd : decode (MI.cc M) pc = .ok (.if_icmp .lt off, 3)) (ht : (pc : Int) + off = (tgt : Int)) (kt : x < y → V M Post al h tgt ls st) (kf : ¬ x < y → V M Post al h (pc + 3) ls st) : V M Post al h pc ls (.int y :: .int x :: st) := by
  intro G p l e R s m args below meth c Q A H locs lsA hX hF hA hK hT hP hz hd2 hS hl
  exact lv_icmp_lt hX.1 hX.2.1 hd ht (fun q => kt q G p l e R s m args below meth c Q A H locs lsA hX hF hA hK hT hP hz hd2 hS hl) (fun q => kf q G p l e R s m args below meth c Q A H locs lsA hX hF hA hK hT hP hz hd2 hS hl)
theorem e_icmp_ge {x y : Int32} {off : Int} {tgt : Nat} (hd : decode (MI.cc M) pc = .ok (.if_icmp .ge off, 3)) (ht : (pc : Int) + off = (tgt : Int)) (kt : y ≤ x → V M Post al h tgt ls st) (kf : ¬ y ≤ x → V M Post al h (pc + 3) ls st) : V M Post al h pc ls (.int y :: .int x :: st) := by
  intro G p l e R s m args below meth c Q A H locs lsA hX hF hA hK hT hP hz hd2 hS hl
  exact lv_icmp_ge hX.1 hX.2.1 hd ht (fun q => kt q G p l e R s m args below meth c Q A H locs lsA hX hF hA hK hT hP hz hd2 hS hl) (fun q => kf q G p l e R s m args below meth c Q A H locs lsA hX hF hA hK hT hP hz hd2 hS hl)
theorem e_icmp_gt {x y : Int32} {off : Int} {tgt : Nat} (hd : decode (MI.cc M) pc = .ok (.if_icmp .gt off, 3)) (ht : (pc : Int) + off = (tgt : Int)) (kt : y < x → V M Post al h tgt ls st) (kf : ¬ y < x → V M Post al h (pc + 3) ls st) : V M Post al h pc ls (.int y :: .int x :: st) := by
  intro G p l e R s m args below meth c Q A H locs lsA hX hF hA hK hT hP hz hd2 hS hl
  exact lv_icmp_gt hX.1 hX.2.1 hd ht (fun q => kt q G p l e R s m args below meth c Q A H locs lsA hX hF hA hK hT hP hz hd2 hS hl) (fun q => kf q G p l e R s m args below meth c Q A H locs lsA hX hF hA hK hT hP hz hd2 hS hl)
theorem e_icmp_le {x y : Int32} {off : Int} {tgt : Nat} (hd : decode (MI.cc M) pc = .ok (.if_icmp .le off, 3)) (ht : (pc : Int) + off = (tgt : Int)) (kt : x ≤ y → V M Post al h tgt ls st) (kf : ¬ x ≤ y → V M Post al h (pc + 3) ls st) : V M Post al h pc ls (.int y :: .int x :: st) := by
  intro G p l e R s m args below meth c Q A H locs lsA hX hF hA hK hT hP hz hd2 hS hl
  exact lv_icmp_le hX.1 hX.2.1 hd ht (fun q => kt q G p l e R s m args below meth c Q A H locs lsA hX hF hA hK hT hP hz hd2 hS hl) (fun q => kf q G p l e R s m args below meth c Q A H locs lsA hX hF hA hK hT hP hz hd2 hS hl)
theorem e_ifnonnull {x : Nat} {off : Int} {tgt : Nat} (hd : decode (MI.cc M) pc = .ok (.ifnonnull off, 3)) (ht : (pc : Int) + off = (tgt : Int)) (k : V M Post al h tgt ls st) : V M Post al h pc ls (.ref x :: st) := V.go (fun hx hb _ w => lv_ifnonnull hx hb hd ht w) k
theorem e_ifnonnullN {off : Int} (hd : decode (MI.cc M) pc = .ok (.ifnonnull off, 3)) (k : V M Post al h (pc + 3) ls st) : V M Post al h pc ls (.null :: st) := V.go (fun hx hb _ w => lv_ifnonnullN hx hb hd w) k
theorem e_ifnull {x : Nat} {off : Int} (hd : decode (MI.cc M) pc = .ok (.ifnull off, 3)) (k : V M Post al h (pc + 3) ls st) : V M Post al h pc ls (.ref x :: st) := V.go (fun hx hb _ w => lv_ifnull hx hb hd w) k
theorem e_ifnullN {off : Int} {tgt : Nat} (hd : decode (MI.cc M) pc = .ok (.ifnull off, 3)) (ht : (pc : Int) + off = (tgt : Int)) (k : V M Post al h tgt ls st) : V M Post al h pc ls (.null :: st) := V.go (fun hx hb _ w => lv_ifnullN hx hb hd ht w) k
theorem e_switchOut {dflt lo hi : Int} {offs : Array Int} {len : Nat} {x : Int32} {tgt : Nat} (hd : decode (MI.cc M) pc = .ok (.tableswitch dflt lo hi offs, len)) (hq : x.toInt < lo ∨ hi < x.toInt) (ht : (pc : Int) + dflt = (tgt : Int)) (k : V M Post al h tgt ls st) : V M Post al h pc ls (.int x :: st) := V.go (fun hx hb _ w => lv_tableOut hx hb hd hq ht w) k
theorem e_switchIn {dflt lo hi : Int} {offs : Array Int} {len : Nat} {x : Int32} {off : Int} {tgt : Nat} (hd : decode (MI.cc M) pc = .ok (.tableswitch dflt lo hi offs, len)) (h1 : ¬ x.toInt < lo) (h2 : ¬ hi < x.toInt) (ho : offs[(x.toInt - lo).toNat]? = some off) (ht : (pc : Int) + off = (tgt : Int)) (k : V M Post al h tgt ls st) : V M Post al h pc ls (.int x :: st) := V.go (fun hx hb _ w => lv_tableIn hx hb hd h1 h2 ho ht w) k
theorem e_ishr {x y : Int32} (hd : decode (MI.cc M) pc = .ok (.ishr, 1)) (k : V M Post al h (pc + 1) ls (.int (x >>> (y &&& 31)) :: st)) : V M Post al h pc ls (.int y :: .int x :: st) := V.go (fun hx hb _ w => lv_ishr hx hb hd w) k
theorem e_iushr {x y : Int32} (hd : decode (MI.cc M) pc = .ok (.iushr, 1)) (k : V M Post al h (pc + 1) ls (.int ((x.toUInt32 >>> (y.toUInt32 &&& Int32.toUInt32 31)).toInt32) :: st)) : V M Post al h pc ls (.int y :: .int x :: st) := V.go (fun hx hb _ w => lv_iushr hx hb hd rfl w) k
-- cells
theorem en_P.one {G : en_G} {H : Heap} {a : Nat} {x : AE} (hP : en_P G h H) (hh : h a = some x) : va_P G.1 vwCl [(a, en_cv G x)] H := by
  intro k q hk
  match k, hk with
  | 0, hk => cases hk; exact hP a x hh
  | k + 1, hk => simp at hk
theorem en_P.put {G : en_G} {H H1 : Heap} {a : Nat} {x : AE} (hP : en_P G h H) (hx : va_at G.1 vwCl (a, en_cv G x) H1) (oq : ∀ q : Nat, q ≠ a → H1[q]? = H[q]?) : en_P G (hset h a x) H1 := by
  intro b y hy
  by_cases e : b = a
  · subst e
    rw [hset_eq] at hy
    cases hy
    exact hx
  · rw [hset_ne h x e] at hy
    exact (hP b y hy).kept (oq b e)
theorem en_dom {A : Nat → Prop} {a : Nat} {x : AE} (hd : ∀ q, h q ≠ none → A q) (ha : A a) : ∀ q, hset h a x q ≠ none → A q := by
  intro q hq
  by_cases e : q = a
  · rw [e]; exact ha
  · rw [hset_ne h x e] at hq; exact hd q hq
/-- a field is read by this place of the constant pool -/
def FL (own : String) (idx ci k : Nat) : Prop := ∃ (C : String) (T : u_T) (N : Nat), vwCl[ci]? = some (C, T, N) ∧ k < N ∧ (∀ w ∈ u_ws C T N, w ∈ lw_good) ∧ (Cond.fieldLink own idx (T k).1 (T k).2.1 (T k).2.2.1) ∈ lw_good
def PL (own : String) (idx ci k : Nat) (ty : FieldType) (fin : Bool) : Prop := ∃ (C : String) (T : u_T) (N : Nat) (ty0 : Nat → FieldType), vwCl[ci]? = some (C, T, N) ∧ k < N ∧ (∀ w ∈ u_ws C T N, w ∈ lw_good) ∧ (Cond.fieldLink own idx (T k).1 (T k).2.1 (T k).2.2.1) ∈ lw_good ∧ (∀ k, k < N → parseFieldDescriptor (T k).2.2.1 = some (ty0 k)) ∧ (∀ a, a < N → ∀ b, b < N → a ≠ b → (T a).2.1 ≠ (T b).2.1) ∧ (T k).2.2.2 = fin ∧ ty0 k = ty ∧ (fin = true → (T k).1 = own)
theorem e_get {idx ci kf a : Nat} {fs : List Value} {v : Value} (f : FL (MI.own M) idx ci kf) (hd : decode (MI.cc M) pc = .ok (.getfield idx, 3)) (hh : h a = some (ob ci fs)) (hv : fs[kf]? = some v) (k : V M Post al h (pc + 3) ls (v :: st)) : V M Post al h pc ls (.ref a :: st) := by
  intro G p l e R s m args below meth c Q A H locs lsA hX hF hA hK hT hP hz hd2 hS hl
  obtain ⟨C, T, N, hc, hk, hin, hl'⟩ := f
  obtain ⟨hx, hb, hml, hown, hts, -⟩ := id hX
  exact va_get hx hb hts hin hown hK.1 (en_P.one hP hh) 0 (fs := fs) rfl hc kf hk (hts _ hl') (fun _ q => q) hv hd (k G p l e R s m args below meth c Q A H locs lsA hX hF hA hK hT hP hz hd2 hS hl)
theorem e_put {idx ci kf a : Nat} {fs : List Value} {v : Value} {ty : FieldType} (f : PL (MI.own M) idx ci kf ty false) (hd : decode (MI.cc M) pc = .ok (.putfield idx, 3)) (hh : h a = some (ob ci fs)) (hn : narrow ty v = v) (hft : fits ty v = true) (hl0 : kf < fs.length) (k : V M Post al (hset h a (ob ci (fs.set kf v))) (pc + 3) ls st) : V M Post al h pc ls (v :: .ref a :: st) := by
  intro G p l e R s m args below meth c Q A H locs lsA hX hF hA hK hT hP hz hd2 hS hl
  obtain ⟨C, T, N, ty0, hc, hk, hin, hl', hty, hnm, hfin, rfl, -⟩ := f
  obtain ⟨hx, hb, hml, hown, hts, -⟩ := id hX
  have hap := va_apart (own := MI.own M) hts hin ty0 hty hnm hK.1 hc
  obtain ⟨r, h1, cell, q1, q2, q3, q4⟩ := hP a _ hh
  have hr : r = (C, T, N) := Option.some.inj (h1.symm.trans hc)
  subst hr
  obtain ⟨hS', hfc, kC, hkC, hkind⟩ := hK.1.1 ci _ hc
  obtain ⟨cf, kf', fi, f, hi, hsl⟩ := hS' kf hk
  have hlay := hts _ (hin _ (u_in_lay hk))
  unfold u_lay at hlay
  rw [if_neg (by rw [hfin]; decide)] at hlay
  have hst := (u_facts hfc hkC (u_lays hts hin hk) hi).1
  have h6 := u_store hfc hkC hkind hlay hi (hty kf hk) hn hft
  refine W.putK hx hb (f := f) ⟨hown, hts _ hl', ⟨_, _, _, hi⟩, hst⟩ (by rw [q2]; exact h6) q1 q3 (by rw [hsl]; exact k2_hasslot (q4 kf hk)) rfl rfl hd fun H' e1 e2 e3 => ?_
  rw [hsl] at e1 ⊢
  have ha : A a := hd2 a (by rw [hh]; exact fun z => by cases z)
  exact k G p l e R s m args below meth c Q A H' _ lsA hX hF hA hK hT (hP.put (x := ob ci (fs.set kf v)) ⟨_, hc, t_OB.to (V := updV (vp_V fs) kf v) ⟨_, e1, q2, q3, t_set q4 hap hk v⟩ (fun j _ => vp_updV_set hl0 v j)⟩ e3) (e2.trans hz) (en_dom hd2 ha) (hS.put e2 e3 ha) hl
theorem e_putF {idx ci kf a : Nat} {fs : List Value} {v : Value} {ty : FieldType} (f : PL (MI.own M) idx ci kf ty true) (hini : MI.ini M = true) (hd : decode (MI.cc M) pc = .ok (.putfield idx, 3)) (hh : h a = some (ob ci fs)) (hn : narrow ty v = v) (hft : fits ty v = true) (hl0 : kf < fs.length) (k : V M Post al (hset h a (ob ci (fs.set kf v))) (pc + 3) ls st) : V M Post al h pc ls (v :: .ref a :: st) := by
  intro G p l e R s m args below meth c Q A H locs lsA hX hF hA hK hT hP hz hd2 hS hl
  obtain ⟨C, T, N, ty0, hc, hk, hin, hl', hty, hnm, hfin, rfl, hdecl⟩ := f
  obtain ⟨hx, hb, hml, hown, hts, -, -, -, -, hin2⟩ := id hX
  have hap := va_apart (own := MI.own M) hts hin ty0 hty hnm hK.1 hc
  obtain ⟨r, h1, cell, q1, q2, q3, q4⟩ := hP a _ hh
  have hr : r = (C, T, N) := Option.some.inj (h1.symm.trans hc)
  subst hr
  obtain ⟨hS', hfc, kC, hkC, hkind⟩ := hK.1.1 ci _ hc
  obtain ⟨cf, kf', fi, f, hi, hsl⟩ := hS' kf hk
  have hlay := hts _ (hin _ (u_in_lay hk))
  unfold u_lay at hlay
  rw [if_pos hfin] at hlay
  have hst := (u_facts hfc hkC (u_lays hts hin hk) hi).1
  have hcf : m.cls = cf := by
    obtain ⟨_, _, c', _, _, _, -, -, hf', -, -, -, hown2, -⟩ := Cond.laysFinal_spec hlay
    have e1 : c' = cf := by have := hi.symm.trans hf'; simp at this; exact this.1.symm
    rw [hdecl rfl] at hown2
    rw [← e1]; exact Option.some.inj (hown.symm.trans hown2)
  have h6 := u_fits hfc hkC hkind (Or.inr hlay) hi (hty kf hk) hn hft
  refine W.putFinK hx hb hown (hts _ hl') hi hst hcf (hin2 hini) (by rw [q2]; exact h6) q1 q3 (by rw [hsl]; exact k2_hasslot (q4 kf hk)) rfl rfl hd fun H' e1 e2 e3 => ?_
  rw [hsl] at e1 ⊢
  have ha : A a := hd2 a (by rw [hh]; exact fun z => by cases z)
  exact k G p l e R s m args below meth c Q A H' _ lsA hX hF hA hK hT (hP.put (x := ob ci (fs.set kf v)) ⟨_, hc, t_OB.to (V := updV (vp_V fs) kf v) ⟨_, e1, q2, q3, t_set q4 hap hk v⟩ (fun j _ => vp_updV_set hl0 v j)⟩ e3) (e2.trans hz) (en_dom hd2 ha) (hS.put e2 e3 ha) hl
theorem e_iald {a n : Nat} {f : Nat → Int32} {i : Int32} (hd : decode (MI.cc M) pc = .ok (.iaload, 1)) (hh : h a = some (aI n f)) (hin : vp_in i n) (k : V M Post al h (pc + 1) ls (.int (f i.toNatClampNeg) :: st)) : V M Post al h pc ls (.int i :: .ref a :: st) := by
  intro G p l e R s m args below meth c Q A H locs lsA hX hF hA hK hT hP hz hd2 hS hl
  exact va_iald hX.1 hX.2.1 hK.1 (en_P.one hP hh) 0 0 rfl rfl hin hd (k G p l e R s m args below meth c Q A H locs lsA hX hF hA hK hT hP hz hd2 hS hl)
theorem e_ialdN {a n : Nat} {f : Nat → Int32} {i : Int32} (j : Nat) (hd : decode (MI.cc M) pc = .ok (.iaload, 1)) (hh : h a = some (aI n f)) (hi : i = nI j) (hj : j < n) (hn : n < 2 ^ 31) (k : V M Post al h (pc + 1) ls (.int (f j) :: st)) : V M Post al h pc ls (.int i :: .ref a :: st) := by
  subst hi
  exact e_iald hd hh (vp_in_nI hj hn) (by rw [nI_clamp (by omega)]; exact k)
theorem e_zald {a n : Nat} {f : Nat → Int32} {i : Int32} (hd : decode (MI.cc M) pc = .ok (.baload, 1)) (hh : h a = some (aZ n f)) (hin : vp_in i n) (k : V M Post al h (pc + 1) ls (.int (f i.toNatClampNeg) :: st)) : V M Post al h pc ls (.int i :: .ref a :: st) := by
  intro G p l e R s m args below meth c Q A H locs lsA hX hF hA hK hT hP hz hd2 hS hl
  exact va_zald hX.1 hX.2.1 hK.1 (en_P.one hP hh) 0 1 rfl rfl hin hd (k G p l e R s m args below meth c Q A H locs lsA hX hF hA hK hT hP hz hd2 hS hl)
theorem e_zaldN {a n : Nat} {f : Nat → Int32} {i : Int32} (j : Nat) (hd : decode (MI.cc M) pc = .ok (.baload, 1)) (hh : h a = some (aZ n f)) (hi : i = nI j) (hj : j < n) (hn : n < 2 ^ 31) (k : V M Post al h (pc + 1) ls (.int (f j) :: st)) : V M Post al h pc ls (.int i :: .ref a :: st) := by
  subst hi
  exact e_zald hd hh (vp_in_nI hj hn) (by rw [nI_clamp (by omega)]; exact k)
theorem e_iast {a n : Nat} {f : Nat → Int32} {i x : Int32} (hd : decode (MI.cc M) pc = .ok (.iastore, 1)) (hh : h a = some (aI n f)) (hin : vp_in i n) (k : V M Post al (hset h a (aI n (upd f i.toNatClampNeg x))) (pc + 1) ls st) : V M Post al h pc ls (.int x :: .int i :: .ref a :: st) := by
  intro G p l e R s m args below meth c Q A H locs lsA hX hF hA hK hT hP hz hd2 hS hl
  have ha : A a := hd2 a (by rw [hh]; exact fun z => by cases z)
  refine W.iast hX.1 hX.2.1 (hP a _ hh) ((hK.1.2 0 _ rfl).1 n (fun j => .int (f j))) (fun q => by cases q) (by show ¬ (i < 0 ∨ (arrV _ _ _).slots.size ≤ _); rw [arrV_size]; exact hin) rfl rfl hd fun H1 e1 z oq => ?_
  refine k G p l e R s m args below meth c Q A H1 _ lsA hX hF hA hK hT (hP.put ?_ oq) (z.trans hz) (en_dom hd2 ha) (hS.put z oq ha) hl
  show H1[a]? = some (vp_cell _ _)
  rw [e1]
  show some ((vp_cell _ (n, .inl f)).setSlot _ _) = some (vp_cell _ (n, .inl _))
  rw [vp_cell_i, vp_cell_i, arrV_store]
  congr 2
  funext q
  by_cases hq : q = i.toNatClampNeg
  · subst hq
    simp [updV, upd]
    try rfl
  · simp [updV, upd, hq]
theorem e_iastN {a n : Nat} {f : Nat → Int32} {i x : Int32} (j : Nat) (hd : decode (MI.cc M) pc = .ok (.iastore, 1)) (hh : h a = some (aI n f)) (hi : i = nI j) (hj : j < n) (hn : n < 2 ^ 31) (k : V M Post al (hset h a (aI n (upd f j x))) (pc + 1) ls st) : V M Post al h pc ls (.int x :: .int i :: .ref a :: st) := by
  subst hi
  exact e_iast hd hh (vp_in_nI hj hn) (by rw [nI_clamp (by omega)]; exact k)
theorem e_zast {a n : Nat} {f : Nat → Int32} {i x : Int32} (hd : decode (MI.cc M) pc = .ok (.bastore, 1)) (hh : h a = some (aZ n f)) (hin : vp_in i n) (k : V M Post al (hset h a (aZ n (upd f i.toNatClampNeg (vp_nar .boolean x)))) (pc + 1) ls st) : V M Post al h pc ls (.int x :: .int i :: .ref a :: st) := by
  intro G p l e R s m args below meth c Q A H locs lsA hX hF hA hK hT hP hz hd2 hS hl
  have ha : A a := hd2 a (by rw [hh]; exact fun z => by cases z)
  refine W.zast hX.1 hX.2.1 (hP a _ hh) ((hK.1.2 1 _ rfl).1 n (fun j => .int (f j))) (fun q => by cases q) (by show ¬ (i < 0 ∨ (arrV _ _ _).slots.size ≤ _); rw [arrV_size]; exact hin) rfl rfl hd fun H1 e1 z oq => ?_
  refine k G p l e R s m args below meth c Q A H1 _ lsA hX hF hA hK hT (hP.put ?_ oq) (z.trans hz) (en_dom hd2 ha) (hS.put z oq ha) hl
  show H1[a]? = some (vp_cell _ _)
  rw [e1]
  show some ((vp_cell _ (n, .inl f)).setSlot _ _) = some (vp_cell _ (n, .inl _))
  rw [vp_cell_i, vp_cell_i, arrV_store]
  congr 2
  funext q
  by_cases hq : q = i.toNatClampNeg
  · subst hq
    simp [updV, upd, vp_nar]
    try rfl
  · simp [updV, upd, hq]
theorem e_zastN {a n : Nat} {f : Nat → Int32} {i x : Int32} (j : Nat) (hd : decode (MI.cc M) pc = .ok (.bastore, 1)) (hh : h a = some (aZ n f)) (hi : i = nI j) (hj : j < n) (hn : n < 2 ^ 31) (k : V M Post al (hset h a (aZ n (upd f j (vp_nar .boolean x)))) (pc + 1) ls st) : V M Post al h pc ls (.int x :: .int i :: .ref a :: st) := by
  subst hi
  exact e_zast hd hh (vp_in_nI hj hn) (by rw [nI_clamp (by omega)]; exact k)
theorem e_alen {a : Nat} {x : Nat × vp_A} {v : Int32} (hd : decode (MI.cc M) pc = .ok (.arraylength, 1)) (hh : h a = some (.inl x)) (hx3 : x.1 < 6) (hv : nI x.2.1 = v) (k : V M Post al h (pc + 1) ls (.int v :: st)) : V M Post al h pc ls (.ref a :: st) := by
  intro G p l e R s m args below meth c Q A H locs lsA hX hF hA hK hT hP hz hd2 hS hl
  obtain ⟨t0, y⟩ := x
  have ht : (en_tys G)[t0]? = some (G.2.1 t0, (match t0 with | 0 => FieldType.int | 1 => .boolean | 2 => .array .int | 4 => .byte | 5 => .array (.array .int) | _ => .object RX9)) := by
    have : t0 < 6 := hx3
    match t0, this with
    | 0, _ => rfl
    | 1, _ => rfl
    | 2, _ => rfl
    | 3, _ => rfl
    | 4, _ => rfl
    | 5, _ => rfl
  exact va_alen hX.1 hX.2.1 hK.1 (en_P.one hP hh) 0 t0 rfl ht hv hd (k G p l e R s m args below meth c Q A H locs lsA hX hF hA hK hT hP hz hd2 hS hl)
theorem e_aldQ {a n : Nat} {f : Nat → Option Nat} {i : Int32} (j : Nat) (hd : decode (MI.cc M) pc = .ok (.aaload, 1)) (hh : h a = some (aQ n f)) (hi : i = nI j) (hj : j < n) (hn : n < 2 ^ 31) (k : V M Post al h (pc + 1) ls (va_rf (f j) :: st)) : V M Post al h pc ls (.int i :: .ref a :: st) := by
  subst hi
  intro G p l e R s m args below meth c Q A H locs lsA hX hF hA hK hT hP hz hd2 hS hl
  exact va_aldq hX.1 hX.2.1 hK.1 (en_P.one hP hh) 0 3 rfl rfl (vp_in_nI hj hn) hd (by rw [nI_clamp (by omega)]; exact k G p l e R s m args below meth c Q A H locs lsA hX hF hA hK hT hP hz hd2 hS hl)
theorem e_aldG {a n : Nat} {f : Nat → Option Nat} {i : Int32} (j : Nat) (hd : decode (MI.cc M) pc = .ok (.aaload, 1)) (hh : h a = some (aG n f)) (hi : i = nI j) (hj : j < n) (hn : n < 2 ^ 31) (k : V M Post al h (pc + 1) ls (va_rf (f j) :: st)) : V M Post al h pc ls (.int i :: .ref a :: st) := by
  subst hi
  intro G p l e R s m args below meth c Q A H locs lsA hX hF hA hK hT hP hz hd2 hS hl
  refine W.aald (v := va_rf (f j)) (ty := .array .int) hX.1 hX.2.1 (hP a _ hh) ((hK.1.2 2 _ rfl).1 n (fun j => va_rf (f j))) rfl (fun q => by cases q) (by show ¬ (nI j < 0 ∨ (arrV _ _ _).slots.size ≤ _); rw [arrV_size]; exact vp_in_nI hj hn) (by show (arrV _ _ _).slots[_]? = _; rw [nI_clamp (by omega), arrV_read _ _ hj]) rfl rfl hd (k G p l e R s m args below meth c Q A H locs lsA hX hF hA hK hT hP hz hd2 hS hl)
end EN2
