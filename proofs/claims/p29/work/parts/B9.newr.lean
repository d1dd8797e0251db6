/-! ===== cells made anew: the next address, the budget that goes with it ===== -/
theorem en_P.born {h : AH} {G : en_G} {H H1 : Heap} {a : Nat} {x : AE} (hP : en_P G h H) (hx : va_at G.1 vwCl (a, en_cv G x) H1) (oq : ∀ q : Nat, q < H.size → H1[q]? = H[q]?) : en_P G (hset h a x) H1 := by
  intro b y hy
  by_cases e : b = a
  · subst e
    rw [hset_eq] at hy
    cases hy
    exact hx
  · rw [hset_ne h x e] at hy
    exact (hP b y hy).kept (oq b (hP b y hy).lt)
theorem va_S.born {A : Nat → Prop} {H0 H H1 : Heap} {locs : List Jvm.Loc} {n : Nat} (hS : va_S A H0 H locs) (z : H1.size = H.size + n) (oq : ∀ q : Nat, q < H.size → H1[q]? = H[q]?) : va_S A H0 H1 locs :=
  ⟨Nat.le_trans hS.1 (by omega), fun x h1 h2 => (oq x (Nat.lt_of_lt_of_le h1 hS.1)).trans (hS.2.1 x h1 h2), hS.2.2⟩
/-- a class that can be made -/
def NW (own : String) (idx ci N : Nat) (fs : List Value) : Prop := ∃ (C : String) (T : u_T) (ty : Nat → FieldType), vwCl[ci]? = some (C, T, N) ∧ (∀ w ∈ u_ws C T N, w ∈ lw_good) ∧ (∀ k, k < N → parseFieldDescriptor (T k).2.2.1 = some (ty k)) ∧ (Cond.classLink own idx C) ∈ lw_good ∧ (Cond.instantiable C N) ∈ lw_good ∧ (Cond.initialized C) ∈ lw_good ∧ ∀ j, j < N → defaultValue (ty j) = vp_V fs j
section EN9
variable {M : MI} {Post : Option Value → AH → Nat → Prop} {al : Nat × Nat × Nat} {h : AH} {pc : Nat} {ls : List (Option Value)} {st : List Value}
theorem e_objInit {idx b : Nat} (hlk : (Cond.methodLink (MI.own M) idx Lib.objectInit) ∈ lw_good) (hd : decode (MI.cc M) pc = .ok (.invokespecial idx, 3)) (hst : (st.map fun v => v.category).sum ≤ 8) (hdp : 1 ≤ MI.dp M) (k : V M Post al h (pc + 3) ls st) : V M Post al h pc ls (.ref b :: st) := by
  intro G p l e R s m args below meth c Q A H locs lsA hX hF hA hK hT hP hz hd2 hS hl
  obtain ⟨hx, hb, hml, hown, hts, hR1, hR2, hR3, hR4, -⟩ := id hX
  have hls : lsA.size = MI.nL M := hl.choose_spec.1.1
  have h8 := lv_room (m := m) (pc := pc) (ls := lsA) (rest := .ref b :: st) hst
  exact W.objInit hx hb hown (hts _ hlk) (hts _ q_i_java_lang_Object_init) (hts _ q_c_java_lang_Object_init) rfl (hls.trans hml.symm) rfl hd (by omega) (by show 2 * (F0 m pc lsA (.ref b :: st)).monitorRoom + _ + 12 ≤ _; omega) (k G p l e R s m args below meth c Q A H locs lsA hX hF hA hK hT hP hz hd2 hS hl)
theorem e_new {idx ci N : Nat} {fs : List Value} (f : NW (MI.own M) idx ci N fs) (hd : decode (MI.cc M) pc = .ok (.new idx, 3)) (hlim : al.2.1 + 1 ≤ MI.mc M ∧ al.2.2 + N ≤ MI.ms M) (k : V M Post (al.1 + 1, al.2.1 + 1, al.2.2 + N) (hset h al.1 (ob ci fs)) (pc + 3) ls (.ref al.1 :: st)) : V M Post al h pc ls st := by
  intro G p l e R s m args below meth c Q A H locs lsA hX hF hA hK hT hP hz hd2 hS hl
  obtain ⟨C, T, ty, hc, hin, hty, hcl, hins, hini, hfs⟩ := f
  obtain ⟨hx, hb, hml, hown, hts, hR1, hR2, hR3, hR4, -⟩ := id hX
  have hKn := hK.1.1 ci _ hc
  refine W.newcK hx hb hown (hts _ hcl) (hts _ hins) (hts _ hini) rfl hd (by omega) (by omega) hKn.2.1 hz fun H1 kC hkC e1 z1 o1 => ?_
  have o1' : ∀ q : Nat, q < H.size → H1[q]? = H[q]? := fun q hq => o1 q (by omega)
  exact k G p l e R s m args below meth c Q A H1 locs lsA hX hF hA hK hT (hP.born ⟨_, hc, (u_born ty hts hin hKn hkC e1 hty).to hfs⟩ o1') z1 (en_dom hd2 (hA _ (by have := hS.1; omega))) (hS.born (n := 1) (by omega) o1') hl
theorem e_newa {atype : ArrayType} (kd : Nat) (hkd : kd < 6) {ty : FieldType} (hty : newarray.typeOf atype = ty) (hgt : ∀ G : en_G, (en_tys G)[kd]? = some (G.2.1 kd, ty)) (hra : ∀ (U : State) (cA : ClassId), va_RA U cA ty → U.vm.findClass ("[" ++ ty.toString) = some cA) (hac : (Cond.arrayClass ty) ∈ lw_good) (hdv : defaultValue ty = .int 0) (hcb : componentBytes ty ≤ 4)
    {N : Nat} {n : Int32} (hd : decode (MI.cc M) pc = .ok (.newarray atype, 2)) (hn : n = nI N) (hN : N < 100000) (hlim : al.2.1 + 1 ≤ MI.mc M ∧ al.2.2 + N ≤ MI.ms M)
    (k : V M Post (al.1 + 1, al.2.1 + 1, al.2.2 + N) (hset h al.1 (.inl (kd, N, .inl (fun _ => 0)))) (pc + 2) ls (.ref al.1 :: st)) : V M Post al h pc ls (.int n :: st) := by
  intro G p l e R s m args below meth c Q A H locs lsA hX hF hA hK hT hP hz hd2 hS hl
  obtain ⟨hx, hb, hml, hown, hts, hR1, hR2, hR3, hR4, -⟩ := id hX
  subst hty
  have hmul : N * componentBytes (newarray.typeOf atype) ≤ N * 4 := Nat.mul_le_mul_left _ hcb
  refine va_newaK (N := N) hx hb (hts _ hac) rfl hd rfl (by rw [hn]; exact nI_pos (by omega)) (by rw [hn]; exact nI_clamp (by omega)) (by omega) (by omega) (by omega) hz fun H1 cA e1 z1 o1 hAr hNm => ?_
  have o1' : ∀ q : Nat, q < H.size → H1[q]? = H[q]? := fun q hq => o1 q (by omega)
  have hcA : cA = G.2.1 kd := Option.some.inj (hNm.symm.trans (hra _ _ ((hK.1.2 kd _ (hgt G)).2)))
  exact k G p l e R s m args below meth c Q A H1 locs lsA hX hF hA hK hT (hP.born (by
    show H1[al.1]? = some (vp_cell _ _)
    rw [vp_cell_i, e1, hdv, hcA]) o1') z1 (en_dom hd2 (hA _ (by have := hS.1; omega))) (hS.born (n := 1) (by omega) o1') hl
theorem e_newI {N : Nat} {n : Int32} (hd : decode (MI.cc M) pc = .ok (.newarray .int, 2)) (hn : n = nI N) (hN : N < 100000) (hlim : al.2.1 + 1 ≤ MI.mc M ∧ al.2.2 + N ≤ MI.ms M) (k : V M Post (al.1 + 1, al.2.1 + 1, al.2.2 + N) (hset h al.1 (aI N (fun _ => 0))) (pc + 2) ls (.ref al.1 :: st)) : V M Post al h pc ls (.int n :: st) :=
  e_newa 0 (by omega) (ty := .int) rfl (fun _ => rfl) (fun _ _ q => q) q_ac_int rfl (by decide) hd hn hN hlim k
theorem e_newZ {N : Nat} {n : Int32} (hd : decode (MI.cc M) pc = .ok (.newarray .boolean, 2)) (hn : n = nI N) (hN : N < 100000) (hlim : al.2.1 + 1 ≤ MI.mc M ∧ al.2.2 + N ≤ MI.ms M) (k : V M Post (al.1 + 1, al.2.1 + 1, al.2.2 + N) (hset h al.1 (aZ N (fun _ => 0))) (pc + 2) ls (.ref al.1 :: st)) : V M Post al h pc ls (.int n :: st) :=
  e_newa 1 (by omega) (ty := .boolean) rfl (fun _ => rfl) (fun _ _ q => q) q_ac_boolean rfl (by decide) hd hn hN hlim k
theorem e_newQ {idx N : Nat} {n : Int32} (hcl : (Cond.classLink (MI.own M) idx RX9) ∈ lw_good) (hd : decode (MI.cc M) pc = .ok (.anewarray idx, 3)) (hn : n = nI N) (hN : N < 100000) (hlim : al.2.1 + 1 ≤ MI.mc M ∧ al.2.2 + N ≤ MI.ms M) (k : V M Post (al.1 + 1, al.2.1 + 1, al.2.2 + N) (hset h al.1 (aQ N (fun _ => none))) (pc + 3) ls (.ref al.1 :: st)) : V M Post al h pc ls (.int n :: st) := by
  intro G p l e R s m args below meth c Q A H locs lsA hX hF hA hK hT hP hz hd2 hS hl
  obtain ⟨hx, hb, hml, hown, hts, hR1, hR2, hR3, hR4, -⟩ := id hX
  have hcN : n.toNatClampNeg = N := by rw [hn]; exact nI_clamp (by omega)
  refine W.anew hx hb hown (hts _ hcl) (va_AO.use hK.2.2.2.1) rfl hd rfl (by rw [hn]; exact nI_pos (by omega)) (by omega) (by omega) (by omega) fun cA kA comp f1 f2 f3 f4 => ?_
  rw [hcN]
  generalize hH1 : H.push ({ cls := cA, slots := Array.replicate N .null, vm := .none } : Cell) = H1
  have z1 : H1.size = al.1 + 1 := by rw [← hH1, Array.size_push, hz]
  have e1 : H1[al.1]? = some (arrV cA N (fun _ => .null)) := by rw [← hH1, ← hz, Array.getElem?_push_size, ← arrV_new]
  have o1' : ∀ q : Nat, q < H.size → H1[q]? = H[q]? := fun q hq => by rw [← hH1, Array.getElem?_push, if_neg (Nat.ne_of_lt hq)]
  have hcA : cA = G.2.1 3 := by
    obtain ⟨kA', comp', -, -, -, g4⟩ := (hK.1.2 3 _ rfl).2
    exact Option.some.inj (f1.symm.trans g4)
  rw [hz]
  exact k G p l e R s m args below meth c Q A H1 locs lsA hX hF hA hK hT (hP.born (by
    show H1[al.1]? = some (vp_cell _ _)
    rw [vp_cell_q, e1, hcA]; rfl) o1') z1 (en_dom hd2 (hA _ (by have := hS.1; omega))) (hS.born (n := 1) (by omega) o1') hl
end EN9
