/-! ===== int[][] made whole: the outer array, then row by row (the machine's own order), our own walk of it ===== -/
def mq_out (cA : ClassId) (n a i : Nat) : Cell := arrV cA n (fun j => if j < i then .ref (a + 1 + j) else .null)
def mq_in (cI : ClassId) (k : Nat) : Cell := arrV cI k (fun _ => .int 0)
/-- when i rows have been made -/
def mq_st (T : State) (cA cI : ClassId) (n k : Nat) : Nat → State
  | 0 => T.pushCell (mq_out cA n T.heap.size 0)
  | i + 1 => ((mq_st T cA cI n k i).pushCell (mq_in cI k)).setCell T.heap.size (mq_out cA n T.heap.size (i + 1))
theorem mq_in_eq (cI : ClassId) (k : Nat) : ({ cls := cI, slots := Array.replicate k (.int 0), vm := .none } : Cell) = mq_in cI k := arrV_new _ _ _
theorem mq_out_eq (cA : ClassId) (n a : Nat) : ({ cls := cA, slots := Array.replicate n .null, vm := .none } : Cell) = mq_out cA n a 0 := by
  rw [arrV_new]
  unfold mq_out
  congr 1
theorem mq_set (cA : ClassId) (n a i : Nat) : (mq_out cA n a i).setSlot i (.ref (a + 1 + i)) = mq_out cA n a (i + 1) := by
  unfold mq_out
  rw [arrV_store]
  congr 1
  funext j
  unfold updV
  by_cases e : j = i
  · subst e; simp
  · simp only [e, if_false]
    by_cases g : j < i
    · rw [if_pos g, if_pos (by omega)]
    · rw [if_neg g, if_neg (by omega)]
theorem mq_size (cA : ClassId) (n a i : Nat) : (mq_out cA n a i).slots.size = n := arrV_size _ _ _
theorem mq_facts (T : State) (cA cI : ClassId) (n k i : Nat) : (mq_st T cA cI n k i).heap.size = T.heap.size + 1 + i ∧ (mq_st T cA cI n k i).heap[T.heap.size]? = some (mq_out cA n T.heap.size i) ∧ (mq_st T cA cI n k i).vm = T.vm ∧ (mq_st T cA cI n k i).slotsUsed = T.slotsUsed + n + i * k ∧
    (∀ q, q < T.heap.size → (mq_st T cA cI n k i).heap[q]? = T.heap[q]?) ∧ ∀ j, j < i → (mq_st T cA cI n k i).heap[T.heap.size + 1 + j]? = some (mq_in cI k) := by
  induction i with
  | zero => exact ⟨by simp [mq_st], by simp [mq_st], rfl, by simp [mq_st, mq_size], fun q hq => State.heap_pushCell_of_lt _ _ hq, fun j hj => absurd hj (Nat.not_lt_zero _)⟩
  | succ i ih =>
    obtain ⟨a1, a2, a3, a4, a5, a6⟩ := ih
    have hlt : T.heap.size < (mq_st T cA cI n k i).heap.size := by rw [a1]; omega
    have b1 : ((mq_st T cA cI n k i).pushCell (mq_in cI k)).heap[T.heap.size]? = some (mq_out cA n T.heap.size i) := by rw [State.heap_pushCell_of_lt (h := hlt)]; exact a2
    have b2 : (mq_in cI k).slots.size = k := arrV_size _ _ _
    refine ⟨by simp [mq_st, State.setCell, a1]; omega, State.heap_setCell_self b1, by simp [mq_st, a3], by simp [mq_st, a4, b2, Nat.succ_mul]; omega, fun q hq => ?_, fun j hj => ?_⟩
    · show (((mq_st T cA cI n k i).pushCell (mq_in cI k)).setCell T.heap.size _).heap[q]? = _
      rw [State.heap_setCell_other (show T.heap.size ≠ q by omega), State.heap_pushCell_of_lt (h := Nat.lt_trans hq hlt)]
      exact a5 q hq
    · show (((mq_st T cA cI n k i).pushCell (mq_in cI k)).setCell T.heap.size _).heap[T.heap.size + 1 + j]? = _
      rw [State.heap_setCell_other (show T.heap.size ≠ T.heap.size + 1 + j by omega)]
      by_cases g : j < i
      · rw [State.heap_pushCell_of_lt (h := show T.heap.size + 1 + j < _ by rw [a1]; omega)]
        exact a6 j g
      · have g2 : j = i := by omega
        subst g2
        rw [← a1]
        exact State.heap_pushCell_size _ _
theorem mq_top (T : State) (f : JFrame) (cA cI : ClassId) (n k i : Nat) : mq_st (T.setTop f) cA cI n k i = (mq_st T cA cI n k i).setTop f := by
  induction i with
  | zero => rfl
  | succ i ih => simp only [mq_st, ih, State.heap_setTop, State.pushCell_setTop, State.setCell_setTop]
section MQ1
variable {E : CtlPost} {e : Env} {d : Bool} {acts : List Action} {s : State}
theorem mq_row {cI cc : ClassId} {kI : Class} {k : Nat} (hk : s.vm.classes[cI]? = some kI) (hkind : kI.kind = .array cc .int) (h31 : k < 2 ^ 31) (hl : ¬ k > e.platform.arrayLengthLimit) (hh : ¬ k * 4 > e.platform.maxHeapBytes) (h1 : s.heap.size < e.platform.maxCells) (h2 : s.slotsUsed + k ≤ e.platform.maxSlots)
    {Q : Addr → Jvm.Pre} (hq : ∀ acts', Q s.heap.size d acts' (s.pushCell (mq_in cI k))) : wp (Op.multianewarray.make cI [nI k]) Q E e d acts s := by
  rw [Op.multianewarray.make]
  simp only [wp_bind', W.ite, nI_pos h31, if_false, wp_pure', W.theClass, hk, hkind, Option.some.injEq, exists_eq_left', nI_clamp h31]
  exact W.newArray_of hk hkind hl hh h1 h2 rfl (fun acts' => by rw [show defaultValue FieldType.int = .int 0 from rfl, mq_in_eq]; exact hq acts')
theorem mq_make {cA cI cc : ClassId} {kA kI : Class} {n k : Nat} (hkA : s.vm.classes[cA]? = some kA) (hkindA : kA.kind = .array cI (.array .int)) (hkI : s.vm.classes[cI]? = some kI) (hkindI : kI.kind = .array cc .int) (hn : n < 2 ^ 31) (hk : k < 2 ^ 31)
    (hln : ¬ n > e.platform.arrayLengthLimit) (hhn : ¬ n * 4 > e.platform.maxHeapBytes) (hlk : ¬ k > e.platform.arrayLengthLimit) (hhk : ¬ k * 4 > e.platform.maxHeapBytes) (hc : s.heap.size + 1 + n ≤ e.platform.maxCells) (hs : s.slotsUsed + n + n * k ≤ e.platform.maxSlots)
    {Q : Addr → Jvm.Pre} (hq : ∀ d' acts', Q s.heap.size d' acts' (mq_st s cA cI n k n)) : wp (Op.multianewarray.make cA [nI n, nI k]) Q E e d acts s := by
  rw [Op.multianewarray.make]
  simp only [wp_bind', W.ite, nI_pos hn, if_false, wp_pure', W.theClass, hkA, hkindA, Option.some.injEq, exists_eq_left', nI_clamp hn]
  refine W.newArray_of hkA hkindA hln hhn (by omega) (by omega) rfl fun acts0 => ?_
  rw [mq_out_eq cA n s.heap.size]
  have hf : ([nI k].find? (· < 0)) = none := by simp [nI_pos hk]
  simp only [hf]
  rw [ite_self, wp_bind', Std.Legacy.Range.forIn_eq_forIn_range', show ([:n] : Std.Legacy.Range).size = n by simp [Std.Legacy.Range.size]]
  refine wp_forIn_inv (fun rest t => ∃ i, i + rest.length = n ∧ rest = List.range' i rest.length ∧ t = mq_st s cA cI n k i) _ _ ⟨0, by simp, by simp, rfl⟩ ?_ ?_
  · rintro x rest t d' acts' Q' ⟨i, hi, hl, rfl⟩ hnext
    rw [List.length_cons] at hi hl
    rw [List.range'_succ] at hl
    obtain ⟨rfl, hl2⟩ := List.cons.inj hl
    obtain ⟨a1, a2, a3, a4, -, -⟩ := mq_facts s cA cI n k x
    have hm : x * k + k ≤ n * k := by
      have := Nat.mul_le_mul_right k (show x + 1 ≤ n by omega)
      rwa [Nat.succ_mul] at this
    simp only [wp_bind']
    refine mq_row (by rw [a3]; exact hkI) hkindI hk hlk hhk (by omega) (by omega) fun acts2 => ?_
    simp only [wp_bind', W.writeLoc, wp_pure']
    have hlt : s.heap.size < (mq_st s cA cI n k x).heap.size := by rw [a1]; omega
    refine ⟨mq_out cA n s.heap.size x, by rw [State.heap_pushCell_of_lt (h := hlt)]; exact a2, (by simp [mq_out, arrV]), (by rw [mq_size]; omega), ?_, hnext _ _ _ ⟨x + 1, by omega, hl2, ?_⟩⟩
    · simp [State.fitsSlot, State.slotType?, mq_out, arrV, a3, hkA, hkindA, fits]
    · rw [a1, mq_set]; rfl
  · rintro t d' acts' ⟨i, hi, -, rfl⟩
    have hiN : i = n := by simpa using hi
    subst hiN
    simp only [wp_pure']
    exact hq _ _
end MQ1
section MQ2
variable {p : Program} {l : Launch} {e : Env} {R : Room} {s : State} {m : MethodId} {args : Array Value} {below : List Frame} {meth : Method} {c : Code} {T : State} {locs : List Jvm.Loc} {cells slots : Nat}
theorem mq_stand (X : Stand p l e R s m args below meth c T locs cells slots) (cA cI : ClassId) (n k i : Nat) : Stand p l e R s m args below meth c (mq_st T cA cI n k i) (locs ++ (List.range i).map fun j => ⟨T.heap.size, j⟩) (cells + 1 + i) (slots + n + i * k) := by
  induction i with
  | zero =>
    have g := X.pushed (mq_out cA n T.heap.size 0)
    rw [mq_size] at g
    simpa [mq_st] using g
  | succ i ih =>
    obtain ⟨a1, a2, -, -, -, -⟩ := mq_facts T cA cI n k i
    have hlt : T.heap.size < (mq_st T cA cI n k i).heap.size := by rw [a1]; omega
    have b1 : ((mq_st T cA cI n k i).pushCell (mq_in cI k)).heap[T.heap.size]? = some (mq_out cA n T.heap.size i) := by rw [State.heap_pushCell_of_lt (h := hlt)]; exact a2
    have g := (ih.pushed (mq_in cI k)).stored b1 i (.ref (T.heap.size + 1 + i))
    rw [show (mq_in cI k).slots.size = k from arrV_size _ _ _, mq_set] at g
    have b2 : (locs ++ (List.range (i + 1)).map fun j => (⟨T.heap.size, j⟩ : Jvm.Loc)) = (locs ++ (List.range i).map fun j => (⟨T.heap.size, j⟩ : Jvm.Loc)) ++ [⟨T.heap.size, i⟩] := by simp [List.range_succ, List.append_assoc]
    rw [b2, show slots + n + (i + 1) * k = slots + n + i * k + k by rw [Nat.succ_mul]; omega]
    exact g
theorem mq_W (hexec : p.tables.exec = Jvm.exec) {cc : ByteArray} (hb : c.code = cc) {own : String} {index n k : Nat} {H : Heap} {Q : State → Prop} (hown : s.vm.findClass own = some m.cls) (hclink : (Cond.classLink own index "[[I").before args s = true) (hAA : en_AA s) (harr : (Cond.arrayClass .int).before args s = true)
    {g : JFrame} (hg : g.method = m) (hdg : decode cc g.pc = .ok (.multianewarray index 2, 4)) {rest : List Value} (hstack : g.stack = .int (nI k) :: .int (nI n) :: rest) (hn : n < 1000) (hk : k < 1000) (hcells : cells + (1 + n) ≤ R.cells) (hslots : slots + (n + n * k) ≤ R.slots)
    (kk : ∀ (H1 : Heap) (cA cI : ClassId) (L : List Jvm.Loc), s.vm.findClass "[[I" = some cA → s.vm.findClass "[I" = some cI → H1.size = H.size + 1 + n → H1[H.size]? = some (mq_out cA n H.size n) → (∀ j, j < n → H1[H.size + 1 + j]? = some (mq_in cI k)) → (∀ q, q < H.size → H1[q]? = H[q]?) → (∀ x ∈ L, x.base = H.size) →
      W p l e R s m args below meth c H1 (locs ++ L) (cells + (1 + n)) (slots + (n + n * k)) Q { g with pc := g.pc + 4, stack := .ref H.size :: rest }) : W p l e R s m args below meth c H locs cells slots Q g := by
  intro T hT X
  subst hT; subst hg; subst hb
  have hpl : e.platform.magicAccessors = ({} : Platform).magicAccessors := by rw [X.admits.platform]
  obtain ⟨cI, cA, kA, hcI, -, hkA, hkindA, hnA⟩ := arrayOverA_spec hAA.1
  obtain ⟨cI2, kI, cc, hcI2, hkI, hkindI⟩ := Cond.arrayClass_spec harr
  have ec : cI2 = cI := Option.some.inj (hcI2.symm.trans hcI)
  subst ec
  obtain ⟨c0, hfc0, hcl⟩ := Cond.classLink_spec hown hclink e.platform hpl
  have ec0 : cA = c0 := Option.some.inj (hnA.symm.trans hfc0)
  subst ec0
  obtain ⟨hg₁, hwarm₁, -⟩ := State.classEntry (e := e) X.warmed hcl
  generalize T.vm.noted g.method.cls index (.cls cA) = vm₁ at hg₁ hwarm₁
  obtain ⟨kA₁, hkA₁, heA⟩ := hwarm₁.alike.2.2 _ _ hkA
  obtain ⟨kI₁, hkI₁, heI⟩ := hwarm₁.alike.2.2 _ _ hkI
  have hkindA₁ : kA₁.kind = .array cI2 (.array .int) := by rw [heA]; exact hkindA
  have hkindI₁ : kI₁.kind = .array cc .int := by rw [heI]; exact hkindI
  have X₁ := X.noted hwarm₁
  obtain ⟨hr1, hr2⟩ := X.roomAbove hcells hslots
  have XF := mq_stand X₁ cA cI2 n k n
  obtain ⟨a1, a2, a3, a4, a5, a6⟩ := mq_facts (T.setVm vm₁) cA cI2 n k n
  rw [show cells + 1 + n = cells + (1 + n) by omega, show slots + n + n * k = slots + (n + n * k) by omega] at XF
  obtain ⟨t, b1, b2⟩ := kk _ cA cI2 _ hnA hcI a1 a2 a6 a5 (fun x hx => by
    obtain ⟨j, -, rfl⟩ := List.mem_map.mp hx
    rfl) _ rfl XF
  refine ⟨t, ?_, b2⟩
  jvm_step X.here [hexec, hdg]
  simp only [Op.multianewarray.sem, wp_bind', W.resolveClassAt_links (State.method?_setTop g X.here.top) hg₁]
  rw [W.popN, if_neg (by decide)]
  refine ⟨g, State.topJava?_setTop' (s := T.setVm vm₁) g X.here.top, [.int (nI n), .int (nI k)], rest, rfl, hstack, ?_⟩
  simp only [List.mapM_cons, List.mapM_nil, wp_bind', wp_pure']
  refine mq_make (kA := kA₁) (kI := kI₁) (cc := cc) hkA₁ hkindA₁ hkI₁ hkindI₁ (by omega) (by omega) (by rw [Launch.admits_arrayLengthLimit X.admits]; omega) (by rw [Launch.admits_maxHeapBytes X.admits]; omega) (by rw [Launch.admits_arrayLengthLimit X.admits]; omega) (by rw [Launch.admits_maxHeapBytes X.admits]; omega) (by show T.heap.size + 1 + _ ≤ _; omega) (by show T.slotsUsed + _ + _ ≤ _; omega) (fun d' acts' => ?_)
  have eS : ((T.setTop g).setVm vm₁).setTop { g with stack := rest } = (T.setVm vm₁).setTop { g with stack := rest } := by
    exact State.setTop_setTop (T.setVm vm₁) g _
  rw [eS, mq_top]
  simp only [wp_bind', W.mark, W.pushRef]
  refine ⟨_, State.topJava?_setTop' _ XF.here.top, ?_⟩
  rw [State.setTop_setTop]
  intro acts
  simp [jvm, XF.here.top]
  exact b1
end MQ2
/-- a grid of n rows of k ints at a -/
def hgrid (h : AH) (a n k : Nat) : AH := fun q => if q = a then some (aG n (fun i => if i < n then some (a + 1 + i) else none)) else if a < q ∧ q ≤ a + n then some (aI k (fun _ => 0)) else h q
section EN10
variable {M : MI} {Post : Option Value → AH → Nat → Prop} {al : Nat × Nat × Nat} {h : AH} {pc : Nat} {ls : List (Option Value)} {st : List Value}
theorem e_newG {idx n k : Nat} {x y : Int32} (hcl : (Cond.classLink (MI.own M) idx "[[I") ∈ lw_good) (hd : decode (MI.cc M) pc = .ok (.multianewarray idx 2, 4)) (hx : x = nI n) (hy : y = nI k) (hn : n < 1000) (hk : k < 1000) (hlim : al.2.1 + (1 + n) ≤ MI.mc M ∧ al.2.2 + (n + n * k) ≤ MI.ms M)
    (kk : V M Post (al.1 + (1 + n), al.2.1 + (1 + n), al.2.2 + (n + n * k)) (hgrid h al.1 n k) (pc + 4) ls (.ref al.1 :: st)) : V M Post al h pc ls (.int y :: .int x :: st) := by
  subst hx; subst hy
  intro G p l e R s m args below meth c Q A H locs lsA hX hF hA hK hT hP hz hd2 hS hl
  obtain ⟨hx, hb, hml, hown, hts, hR1, hR2, hR3, hR4, -⟩ := id hX
  refine mq_W hx hb hown (hts _ hcl) hK.2.2.2.2 (hts _ q_ac_int) rfl hd rfl hn hk (by omega) (by omega) fun H1 cA cI L f1 f2 z1 e1 r1 o1 hL => ?_
  have hcA : cA = G.2.1 2 := Option.some.inj (f1.symm.trans ((hK.1.2 2 _ rfl).2 : s.vm.findClass _ = some _))
  have hcI : cI = G.2.1 0 := Option.some.inj (f2.symm.trans ((hK.1.2 0 _ rfl).2 : s.vm.findClass _ = some _))
  subst hcA; subst hcI
  rw [hz] at e1 r1 z1
  have hAa : A al.1 := hA _ (by have := hS.1; omega)
  have hS1 := hS.born (n := 1 + n) (by omega) o1
  refine hz ▸ kk G p l e R s m args below meth c Q A H1 (locs ++ L) lsA hX hF hA hK hT (fun b y hy => ?_) (by show H1.size = al.1 + (1 + n); omega) (fun q hq => ?_) ⟨hS1.1, hS1.2.1, fun q hq => ?_⟩ hl
  · by_cases e : b = al.1
    · subst e
      rw [show hgrid h al.1 n k al.1 = _ from if_pos rfl] at hy
      cases hy
      show H1[al.1]? = some (vp_cell _ _)
      rw [vp_cell_q, e1]
      unfold mq_out
      refine congrArg some (congrArg (arrV _ n) (funext fun j => ?_))
      by_cases g : j < n <;> simp [g, va_rf]
    · by_cases g : al.1 < b ∧ b ≤ al.1 + n
      · rw [show hgrid h al.1 n k b = some (aI k (fun _ => 0)) by unfold hgrid; rw [if_neg e, if_pos g]] at hy
        cases hy
        have := r1 (b - (al.1 + 1)) (by omega)
        rw [show al.1 + 1 + (b - (al.1 + 1)) = b by omega] at this
        exact this
      · rw [show hgrid h al.1 n k b = h b by unfold hgrid; rw [if_neg e, if_neg g]] at hy
        exact (hP b y hy).kept (o1 b (hP b y hy).lt)
  · by_cases e : q = al.1
    · rw [e]; exact hAa
    · by_cases g : al.1 < q ∧ q ≤ al.1 + n
      · exact hA _ (by have := hS.1; omega)
      · rw [show hgrid h al.1 n k q = h q by unfold hgrid; rw [if_neg e, if_neg g]] at hq
        exact hd2 q hq
  · rcases List.mem_append.mp hq with g | g
    · exact hS.2.2 q g
    · rw [hL q g, hz]; exact hAa
end EN10
