/-! ===== int[][][] made whole: as the machine makes it, block by block ===== -/
def mr_out (cA : ClassId) (n a b i : Nat) : Cell := arrV cA n (fun j => if j < i then .ref (a + 1 + b * j) else .null)
def mr_st (T : State) (cB cA cI : ClassId) (n k r : Nat) : Nat → State
  | 0 => T.pushCell (mr_out cB n T.heap.size (1 + k) 0)
  | i + 1 => (mq_st (mr_st T cB cA cI n k r i) cA cI k r k).setCell T.heap.size (mr_out cB n T.heap.size (1 + k) (i + 1))
theorem mr_out_eq (cA : ClassId) (n a b : Nat) : ({ cls := cA, slots := Array.replicate n .null, vm := .none } : Cell) = mr_out cA n a b 0 := by
  rw [arrV_new]
  unfold mr_out
  congr 1
theorem mr_set (cA : ClassId) (n a b i : Nat) : (mr_out cA n a b i).setSlot i (.ref (a + 1 + b * i)) = mr_out cA n a b (i + 1) := by
  unfold mr_out
  rw [arrV_store]
  congr 1
  funext j
  unfold updV
  by_cases e : j = i
  · subst e; simp
  · simp only [e, if_false]
    by_cases g : j < i
    · rw [if_pos g, if_pos (by omega)]
    · rw [if_neg g, if_neg (by omega)]
theorem mr_size (cA : ClassId) (n a b i : Nat) : (mr_out cA n a b i).slots.size = n := arrV_size _ _ _
theorem mr_facts (T : State) (cB cA cI : ClassId) (n k r i : Nat) : (mr_st T cB cA cI n k r i).heap.size = T.heap.size + 1 + (1 + k) * i ∧ (mr_st T cB cA cI n k r i).heap[T.heap.size]? = some (mr_out cB n T.heap.size (1 + k) i) ∧ (mr_st T cB cA cI n k r i).vm = T.vm ∧ (mr_st T cB cA cI n k r i).slotsUsed = T.slotsUsed + n + i * (k + k * r) ∧
    (∀ q, q < T.heap.size → (mr_st T cB cA cI n k r i).heap[q]? = T.heap[q]?) ∧ ∀ j, j < i → (mr_st T cB cA cI n k r i).heap[T.heap.size + 1 + (1 + k) * j]? = some (mq_out cA k (T.heap.size + 1 + (1 + k) * j) k) ∧ ∀ t, t < k → (mr_st T cB cA cI n k r i).heap[T.heap.size + 1 + (1 + k) * j + 1 + t]? = some (mq_in cI r) := by
  induction i with
  | zero => exact ⟨by simp [mr_st], by simp [mr_st], rfl, by simp [mr_st, mr_size], fun q hq => State.heap_pushCell_of_lt _ _ hq, fun j hj => absurd hj (Nat.not_lt_zero _)⟩
  | succ i ih =>
    obtain ⟨a1, a2, a3, a4, a5, a6⟩ := ih
    obtain ⟨m1, m2, m3, m4, m5, m6⟩ := mq_facts (mr_st T cB cA cI n k r i) cA cI k r k
    have hs : (1 + k) * (i + 1) = (1 + k) * i + (1 + k) := Nat.mul_succ _ _
    have hlt : T.heap.size < (mr_st T cB cA cI n k r i).heap.size := by rw [a1]; omega
    have b1 : (mq_st (mr_st T cB cA cI n k r i) cA cI k r k).heap[T.heap.size]? = some (mr_out cB n T.heap.size (1 + k) i) := by rw [m5 _ hlt]; exact a2
    refine ⟨?_, State.heap_setCell_self b1, by simp [mr_st, m3, a3], ?_, fun q hq => ?_, fun j hj => ?_⟩
    · show ((mq_st (mr_st T cB cA cI n k r i) cA cI k r k).setCell T.heap.size _).heap.size = _
      simp [State.setCell]
      rw [m1, a1, hs]
      omega
    · show ((mq_st (mr_st T cB cA cI n k r i) cA cI k r k).setCell T.heap.size _).slotsUsed = _
      simp [m4, a4, Nat.succ_mul]
      omega
    · show ((mq_st (mr_st T cB cA cI n k r i) cA cI k r k).setCell T.heap.size _).heap[q]? = _
      rw [State.heap_setCell_other (show T.heap.size ≠ q by omega), m5 q (by omega)]
      exact a5 q hq
    · have ne : ∀ x, T.heap.size ≠ T.heap.size + 1 + x := fun x => by omega
      have go : ∀ x, ((mq_st (mr_st T cB cA cI n k r i) cA cI k r k).setCell T.heap.size (mr_out cB n T.heap.size (1 + k) (i + 1))).heap[T.heap.size + 1 + x]? = (mq_st (mr_st T cB cA cI n k r i) cA cI k r k).heap[T.heap.size + 1 + x]? := fun x => State.heap_setCell_other (ne x)
      have e1 : (mr_st T cB cA cI n k r (i + 1)) = (mq_st (mr_st T cB cA cI n k r i) cA cI k r k).setCell T.heap.size (mr_out cB n T.heap.size (1 + k) (i + 1)) := rfl
      rw [e1, go]
      by_cases g : j < i
      · obtain ⟨q1, q2⟩ := a6 j g
        have hm : (1 + k) * j + (1 + k) ≤ (1 + k) * i := by rw [← Nat.mul_succ]; exact Nat.mul_le_mul_left _ g
        refine ⟨by rw [m5 _ (by rw [a1]; omega)]; exact q1, fun t ht => ?_⟩
        have := go ((1 + k) * j + 1 + t)
        rw [show T.heap.size + 1 + ((1 + k) * j + 1 + t) = T.heap.size + 1 + (1 + k) * j + 1 + t by omega] at this
        rw [this, m5 _ (by rw [a1]; omega)]
        exact q2 t ht
      · have g2 : j = i := by omega
        subst g2
        rw [← a1]
        refine ⟨m2, fun t ht => ?_⟩
        have := go ((1 + k) * j + 1 + t)
        rw [show T.heap.size + 1 + ((1 + k) * j + 1 + t) = (mr_st T cB cA cI n k r j).heap.size + 1 + t by rw [a1]; omega] at this
        rw [this]
        exact m6 t ht
theorem mr_top (T : State) (f : JFrame) (cB cA cI : ClassId) (n k r i : Nat) : mr_st (T.setTop f) cB cA cI n k r i = (mr_st T cB cA cI n k r i).setTop f := by
  induction i with
  | zero => rfl
  | succ i ih => simp only [mr_st, ih, State.heap_setTop, mq_top, State.setCell_setTop]
section MR1
variable {E : CtlPost} {e : Env} {d : Bool} {acts : List Action} {s : State}
theorem mr_make {cB cA cI cc : ClassId} {kB kA kI : Class} {n k r : Nat} (hkB : s.vm.classes[cB]? = some kB) (hkindB : kB.kind = .array cA (.array (.array .int))) (hkA : s.vm.classes[cA]? = some kA) (hkindA : kA.kind = .array cI (.array .int)) (hkI : s.vm.classes[cI]? = some kI) (hkindI : kI.kind = .array cc .int) (hn : n < 2 ^ 31) (hk : k < 2 ^ 31) (hr : r < 2 ^ 31)
    (hln : ¬ n > e.platform.arrayLengthLimit) (hhn : ¬ n * 4 > e.platform.maxHeapBytes) (hlk : ¬ k > e.platform.arrayLengthLimit) (hhk : ¬ k * 4 > e.platform.maxHeapBytes) (hlr : ¬ r > e.platform.arrayLengthLimit) (hhr : ¬ r * 4 > e.platform.maxHeapBytes) (hc : s.heap.size + 1 + (1 + k) * n ≤ e.platform.maxCells) (hs : s.slotsUsed + n + n * (k + k * r) ≤ e.platform.maxSlots)
    {Q : Addr → Jvm.Pre} (hq : ∀ d' acts', Q s.heap.size d' acts' (mr_st s cB cA cI n k r n)) : wp (Op.multianewarray.make cB [nI n, nI k, nI r]) Q E e d acts s := by
  rw [Op.multianewarray.make]
  simp only [wp_bind', W.ite, nI_pos hn, if_false, wp_pure', W.theClass, hkB, hkindB, Option.some.injEq, exists_eq_left', nI_clamp hn]
  refine W.newArray_of hkB hkindB hln hhn (by omega) (by omega) rfl fun acts0 => ?_
  rw [mr_out_eq cB n s.heap.size (1 + k)]
  have hf : ([nI k, nI r].find? (· < 0)) = none := by simp [nI_pos hk, nI_pos hr]
  simp only [hf]
  rw [ite_self, wp_bind', Std.Legacy.Range.forIn_eq_forIn_range', show ([:n] : Std.Legacy.Range).size = n by simp [Std.Legacy.Range.size]]
  refine wp_forIn_inv (fun rest t => ∃ i, i + rest.length = n ∧ rest = List.range' i rest.length ∧ t = mr_st s cB cA cI n k r i) _ _ ⟨0, by simp, by simp, rfl⟩ ?_ ?_
  · rintro x rest t d' acts' Q' ⟨i, hi, hl, rfl⟩ hnext
    rw [List.length_cons] at hi hl
    rw [List.range'_succ] at hl
    obtain ⟨rfl, hl2⟩ := List.cons.inj hl
    obtain ⟨a1, a2, a3, a4, -, -⟩ := mr_facts s cB cA cI n k r x
    have hm : x * (k + k * r) + (k + k * r) ≤ n * (k + k * r) := by
      have := Nat.mul_le_mul_right (k + k * r) (show x + 1 ≤ n by omega)
      rwa [Nat.succ_mul] at this
    have hm2 : (1 + k) * x + (1 + k) ≤ (1 + k) * n := by
      rw [← Nat.mul_succ]; exact Nat.mul_le_mul_left _ (by omega)
    simp only [wp_bind']
    refine mq_make (by rw [a3]; exact hkA) hkindA (by rw [a3]; exact hkI) hkindI hk hr hlk hhk hlr hhr (by omega) (by omega) fun d2 acts2 => ?_
    obtain ⟨m1, m2, m3, m4, m5, m6⟩ := mq_facts (mr_st s cB cA cI n k r x) cA cI k r k
    simp only [wp_bind', W.writeLoc, wp_pure']
    have hlt : s.heap.size < (mr_st s cB cA cI n k r x).heap.size := by rw [a1]; omega
    refine ⟨mr_out cB n s.heap.size (1 + k) x, by rw [m5 _ hlt]; exact a2, (by simp [mr_out, arrV]), (by rw [mr_size]; omega), ?_, hnext _ _ _ ⟨x + 1, by omega, hl2, ?_⟩⟩
    · simp [State.fitsSlot, State.slotType?, mr_out, arrV, m3, a3, hkB, hkindB, fits]
    · rw [a1, mr_set]; rfl
  · rintro t d' acts' ⟨i, hi, -, rfl⟩
    have hiN : i = n := by simpa using hi
    subst hiN
    simp only [wp_pure']
    exact hq _ _
end MR1
section MR2
variable {p : Program} {l : Launch} {e : Env} {R : Room} {s : State} {m : MethodId} {args : Array Value} {below : List Frame} {meth : Method} {c : Code} {T : State} {locs : List Jvm.Loc} {cells slots : Nat}
theorem mr_stand (X : Stand p l e R s m args below meth c T locs cells slots) (cB cA cI : ClassId) (n k r i : Nat) : ∃ L : List Jvm.Loc, (∀ x ∈ L, T.heap.size ≤ x.base) ∧ Stand p l e R s m args below meth c (mr_st T cB cA cI n k r i) (locs ++ L) (cells + 1 + (1 + k) * i) (slots + n + i * (k + k * r)) := by
  induction i with
  | zero =>
    have g := X.pushed (mr_out cB n T.heap.size (1 + k) 0)
    rw [mr_size] at g
    exact ⟨[], fun x hx => (by cases hx), by simpa [mr_st] using g⟩
  | succ i ih =>
    obtain ⟨L, hL, X1⟩ := ih
    obtain ⟨a1, a2, -, -, -, -⟩ := mr_facts T cB cA cI n k r i
    obtain ⟨m1, m2, m3, m4, m5, m6⟩ := mq_facts (mr_st T cB cA cI n k r i) cA cI k r k
    have hlt : T.heap.size < (mr_st T cB cA cI n k r i).heap.size := by rw [a1]; omega
    have b1 : (mq_st (mr_st T cB cA cI n k r i) cA cI k r k).heap[T.heap.size]? = some (mr_out cB n T.heap.size (1 + k) i) := by rw [m5 _ hlt]; exact a2
    have g := (mq_stand X1 cA cI k r k).stored b1 i (.ref (T.heap.size + 1 + (1 + k) * i))
    rw [mr_set] at g
    refine ⟨L ++ (List.range k).map (fun j => ⟨(mr_st T cB cA cI n k r i).heap.size, j⟩) ++ [⟨T.heap.size, i⟩], fun x hx => ?_, ?_⟩
    · rcases List.mem_append.mp hx with hx | hx
      · rcases List.mem_append.mp hx with hx | hx
        · exact hL x hx
        · obtain ⟨j, -, rfl⟩ := List.mem_map.mp hx
          show T.heap.size ≤ (mr_st T cB cA cI n k r i).heap.size
          omega
      · rw [List.mem_singleton.mp hx]
        exact Nat.le_refl _
    · rw [show cells + 1 + (1 + k) * (i + 1) = cells + 1 + (1 + k) * i + 1 + k by rw [Nat.mul_succ]; omega, show slots + n + (i + 1) * (k + k * r) = slots + n + i * (k + k * r) + k + k * r by rw [Nat.succ_mul]; omega]
      simpa [mr_st, List.append_assoc] using g
theorem mr_W (hexec : p.tables.exec = Jvm.exec) {cc : ByteArray} (hb : c.code = cc) {own : String} {index n k r : Nat} {H : Heap} {Q : State → Prop} (hown : s.vm.findClass own = some m.cls) (hclink : (Cond.classLink own index "[[[I").before args s = true) (hAA : en_AA s) (harr : (Cond.arrayClass .int).before args s = true)
    {g : JFrame} (hg : g.method = m) (hdg : decode cc g.pc = .ok (.multianewarray index 3, 4)) {rest : List Value} (hstack : g.stack = .int (nI r) :: .int (nI k) :: .int (nI n) :: rest) (hn : n < 1000) (hk : k < 1000) (hr : r < 1000) (hcells : cells + (1 + (1 + k) * n) ≤ R.cells) (hslots : slots + (n + n * (k + k * r)) ≤ R.slots)
    (kk : ∀ (H1 : Heap) (cB cA cI : ClassId) (L : List Jvm.Loc), s.vm.findClass "[[[I" = some cB → s.vm.findClass "[[I" = some cA → s.vm.findClass "[I" = some cI → H1.size = H.size + 1 + (1 + k) * n → H1[H.size]? = some (mr_out cB n H.size (1 + k) n) → (∀ j, j < n → H1[H.size + 1 + (1 + k) * j]? = some (mq_out cA k (H.size + 1 + (1 + k) * j) k) ∧ ∀ t, t < k → H1[H.size + 1 + (1 + k) * j + 1 + t]? = some (mq_in cI r)) → (∀ q, q < H.size → H1[q]? = H[q]?) → (∀ x ∈ L, H.size ≤ x.base) →
      W p l e R s m args below meth c H1 (locs ++ L) (cells + (1 + (1 + k) * n)) (slots + (n + n * (k + k * r))) Q { g with pc := g.pc + 4, stack := .ref H.size :: rest }) : W p l e R s m args below meth c H locs cells slots Q g := by
  intro T hT X
  subst hT; subst hg; subst hb
  have hpl : e.platform.magicAccessors = ({} : Platform).magicAccessors := by rw [X.admits.platform]
  obtain ⟨cI, cA, kA, hcI, -, hkA, hkindA, hnA⟩ := arrayOverA_spec hAA.1
  obtain ⟨cA2, cB, kB, hcA2, -, hkB, hkindB, hnB⟩ := arrayOverA_spec hAA.2
  obtain ⟨cI2, kI, cc, hcI2, hkI, hkindI⟩ := Cond.arrayClass_spec harr
  have ec : cI2 = cI := Option.some.inj (hcI2.symm.trans hcI)
  subst ec
  have ec2 : cA2 = cA := Option.some.inj (hcA2.symm.trans hnA)
  subst ec2
  obtain ⟨c0, hfc0, hcl⟩ := Cond.classLink_spec hown hclink e.platform hpl
  have ec0 : cB = c0 := Option.some.inj (hnB.symm.trans hfc0)
  subst ec0
  obtain ⟨hg₁, hwarm₁, -⟩ := State.classEntry (e := e) X.warmed hcl
  generalize T.vm.noted g.method.cls index (.cls cB) = vm₁ at hg₁ hwarm₁
  obtain ⟨kB₁, hkB₁, heB⟩ := hwarm₁.alike.2.2 _ _ hkB
  obtain ⟨kA₁, hkA₁, heA⟩ := hwarm₁.alike.2.2 _ _ hkA
  obtain ⟨kI₁, hkI₁, heI⟩ := hwarm₁.alike.2.2 _ _ hkI
  have hkindB₁ : kB₁.kind = .array cA2 (.array (.array .int)) := by rw [heB]; exact hkindB
  have hkindA₁ : kA₁.kind = .array cI2 (.array .int) := by rw [heA]; exact hkindA
  have hkindI₁ : kI₁.kind = .array cc .int := by rw [heI]; exact hkindI
  have X₁ := X.noted hwarm₁
  obtain ⟨hr1, hr2⟩ := X.roomAbove hcells hslots
  obtain ⟨L, hL, XF⟩ := mr_stand X₁ cB cA2 cI2 n k r n
  obtain ⟨a1, a2, a3, a4, a5, a6⟩ := mr_facts (T.setVm vm₁) cB cA2 cI2 n k r n
  rw [show cells + 1 + (1 + k) * n = cells + (1 + (1 + k) * n) by omega, show slots + n + n * (k + k * r) = slots + (n + n * (k + k * r)) by omega] at XF
  obtain ⟨t, b1, b2⟩ := kk _ cB cA2 cI2 _ hnB hnA hcI a1 a2 a6 a5 hL _ rfl XF
  refine ⟨t, ?_, b2⟩
  jvm_step X.here [hexec, hdg]
  simp only [Op.multianewarray.sem, wp_bind', W.resolveClassAt_links (State.method?_setTop g X.here.top) hg₁]
  rw [W.popN, if_neg (by decide)]
  refine ⟨g, State.topJava?_setTop' (s := T.setVm vm₁) g X.here.top, [.int (nI n), .int (nI k), .int (nI r)], rest, rfl, hstack, ?_⟩
  simp only [List.mapM_cons, List.mapM_nil, wp_bind', wp_pure']
  refine mr_make (kB := kB₁) (kA := kA₁) (kI := kI₁) (cc := cc) hkB₁ hkindB₁ hkA₁ hkindA₁ hkI₁ hkindI₁ (by omega) (by omega) (by omega) (by rw [Launch.admits_arrayLengthLimit X.admits]; omega) (by rw [Launch.admits_maxHeapBytes X.admits]; omega) (by rw [Launch.admits_arrayLengthLimit X.admits]; omega) (by rw [Launch.admits_maxHeapBytes X.admits]; omega) (by rw [Launch.admits_arrayLengthLimit X.admits]; omega) (by rw [Launch.admits_maxHeapBytes X.admits]; omega) (by show T.heap.size + 1 + _ ≤ _; omega) (by show T.slotsUsed + _ + _ ≤ _; omega) (fun d' acts' => ?_)
  have eS : ((T.setTop g).setVm vm₁).setTop { g with stack := rest } = (T.setVm vm₁).setTop { g with stack := rest } := by
    exact State.setTop_setTop (T.setVm vm₁) g _
  rw [eS, mr_top]
  simp only [wp_bind', W.mark, W.pushRef]
  refine ⟨_, State.topJava?_setTop' _ XF.here.top, ?_⟩
  rw [State.setTop_setTop]
  intro acts
  simp [jvm, XF.here.top]
  exact b1
end MR2
/-- a cube of 5 rows of 5 rows of 5 ints at a -/
def hcube (h : AH) (a : Nat) : AH := fun q => if q = a then some (aC 5 (fun i => if i < 5 then some (a + 1 + 6 * i) else none)) else if a < q ∧ q ≤ a + 30 then (if (q - (a + 1)) % 6 = 0 then some (aG 5 (fun j => if j < 5 then some (q + 1 + j) else none)) else some (aI 5 (fun _ => 0))) else h q
section EN13b
variable {ro : RT} {M : MI} {Post : Option Value → AH → Nat → Prop} {al : Nat × Nat × Nat} {h : AH} {pc : Nat} {ls : List (Option Value)} {st : List Value}
theorem ze_new3 {idx : Nat} {x y z : Int32} (hcl : (Cond.classLink (MI.own M) idx "[[[I") ∈ lw_good) (hd : decode (MI.cc M) pc = .ok (.multianewarray idx 3, 4)) (hx : x = nI 5) (hy : y = nI 5) (hz0 : z = nI 5) (hlim : al.2.1 + 31 ≤ MI.mc M ∧ al.2.2 + 155 ≤ MI.ms M)
    (kk : VS ro M Post (al.1 + 31, al.2.1 + 31, al.2.2 + 155) (hcube h al.1) (pc + 4) ls (.ref al.1 :: st)) : VS ro M Post al h pc ls (.int z :: .int y :: .int x :: st) := by
  subst hx; subst hy; subst hz0
  intro G p l e R s m args below meth c Q A H locs lsA hX hF hA hK hT hP hz hd2 hS hl
  obtain ⟨hx, hb, hml, hown, hts, hR1, hR2, hR3, hR4, -⟩ := id hX
  refine mr_W (n := 5) (k := 5) (r := 5) hx hb hown (hts _ hcl) hK.2.2.2.2 (hts _ q_ac_int) rfl hd rfl (by omega) (by omega) (by omega) (by omega) (by omega) fun H1 cB cA cI L f0 f1 f2 z1 e1 r1 o1 hL => ?_
  have hcB : cB = G.2.1 5 := Option.some.inj (f0.symm.trans ((hK.1.2 5 _ rfl).2 : s.vm.findClass _ = some _))
  have hcA : cA = G.2.1 2 := Option.some.inj (f1.symm.trans ((hK.1.2 2 _ rfl).2 : s.vm.findClass _ = some _))
  have hcI : cI = G.2.1 0 := Option.some.inj (f2.symm.trans ((hK.1.2 0 _ rfl).2 : s.vm.findClass _ = some _))
  subst hcB; subst hcA; subst hcI
  rw [hz] at e1 r1 z1
  have hAa : A al.1 := hA.1 _ (by have := hS.1; omega)
  have hS1 := hS.born (n := 31) (by omega) o1
  refine hz ▸ kk G p l e R s m args below meth c Q A H1 (locs ++ L) lsA hX hF hA hK hT (fun b y hy => ?_) (by show H1.size = al.1 + 31; omega) (fun q hq => ?_) ⟨hS1.1, hS1.2.1, fun q hq => ?_⟩ hl
  · by_cases e : b = al.1
    · subst e
      rw [show hcube h al.1 al.1 = _ from if_pos rfl] at hy
      cases hy
      show H1[al.1]? = some (vp_cell _ _)
      rw [vp_cell_q, e1]
      unfold mr_out
      refine congrArg some (congrArg (arrV _ 5) (funext fun j => ?_))
      by_cases g : j < 5 <;> simp [g, va_rf]
    · by_cases g : al.1 < b ∧ b ≤ al.1 + 30
      · obtain ⟨i, hi⟩ : ∃ i, i = (b - (al.1 + 1)) / 6 := ⟨_, rfl⟩
        obtain ⟨r2, r3⟩ := r1 i (by omega)
        by_cases g6 : (b - (al.1 + 1)) % 6 = 0
        · rw [show hcube h al.1 b = some (aG 5 (fun j => if j < 5 then some (b + 1 + j) else none)) by unfold hcube; rw [if_neg e, if_pos g, if_pos g6]] at hy
          cases hy
          have eb : al.1 + 1 + (1 + 5) * i = b := by omega
          rw [eb] at r2
          show H1[b]? = some (vp_cell _ _)
          rw [vp_cell_q, r2]
          unfold mq_out
          refine congrArg some (congrArg (arrV _ 5) (funext fun j => ?_))
          by_cases g : j < 5 <;> simp [g, va_rf]
        · rw [show hcube h al.1 b = some (aI 5 (fun _ => 0)) by unfold hcube; rw [if_neg e, if_pos g, if_neg g6]] at hy
          cases hy
          have := r3 ((b - (al.1 + 1)) % 6 - 1) (by omega)
          rw [show al.1 + 1 + (1 + 5) * i + 1 + ((b - (al.1 + 1)) % 6 - 1) = b by omega] at this
          exact this
      · rw [show hcube h al.1 b = h b by unfold hcube; rw [if_neg e, if_neg g]] at hy
        exact (hP b y hy).kept (o1 b (hP b y hy).lt)
  · by_cases e : q = al.1
    · rw [e]; exact hAa
    · by_cases g : al.1 < q ∧ q ≤ al.1 + 30
      · exact hA.1 _ (by have := hS.1; omega)
      · rw [show hcube h al.1 q = h q by unfold hcube; rw [if_neg e, if_neg g]] at hq
        exact hd2 q hq
  · rcases List.mem_append.mp hq with g | g
    · exact hS.2.2 q g
    · exact hA.1 _ (by have := hL q g; have := hS.1; omega)
end EN13b
