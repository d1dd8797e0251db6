/-! ===== what changes a world ===== -/
section EN7
variable {M : MI} {Post : Option Value → AH → Nat → Prop} {al : Nat × Nat × Nat} {h : AH} {pc : Nat} {ls : List (Option Value)} {st : List Value}
/-- System.arraycopy of the first N places of an int[] to another's -/
theorem e_acopy {index a0 a n0 n1 N : Nat} {f g : Nat → Int32} (hlink : (Cond.methodLink (MI.own M) index arraycopyName) ∈ lw_good) (hd : decode (MI.cc M) pc = .ok (.invokestatic index, 3)) (ha0 : h a0 = some (aI n0 f)) (ha1 : h a = some (aI n1 g)) (hN : N < 2 ^ 31) (hN0 : N ≤ n0) (hN1 : N ≤ n1) (hdp : 2 ≤ MI.dp M) (hst : (st.map fun v => v.category).sum ≤ 8)
    (k : V M Post al (hset h a (aI n1 (fun j => if j < N then f j else g j))) (pc + 3) ls st) : V M Post al h pc ls (.int (nI N) :: .int 0 :: .ref a :: .int 0 :: .ref a0 :: st) := by
  intro G p l e R s m args below meth c Q A H locs lsA hX hF hA hK hT hP hz hd2 hS hl
  obtain ⟨hx, hb, hml, hown, hts, hR1, hR2, hR3, hR4, -⟩ := id hX
  have hls : lsA.size = MI.nL M := hl.choose_spec.1.1
  have h0i : ((0 : Int32)).toInt = 0 := by decide
  have h0n : ((0 : Int32)).toNatClampNeg = 0 := by decide
  have hNi : (nI N).toInt = (N : Int) := nI_toInt hN
  have hNn : (nI N).toNatClampNeg = N := nI_clamp hN
  intro T hTT X
  have hc0 : H[a0]? = some (vp_cell (G.2.1 0) (n0, .inl f)) := hP a0 _ ha0
  have hc1 : H[a]? = some (vp_cell (G.2.1 0) (n1, .inl g)) := hP a _ ha1
  obtain ⟨-, k0, hk0, cm0, hkk0⟩ := (hK.1.2 0 _ rfl).1 n0 (fun j => .int (f j))
  obtain ⟨-, k1, hk1, cm1, hkk1⟩ := (hK.1.2 0 _ rfl).1 n1 (fun j => .int (g j))
  obtain ⟨vm', X', step⟩ := X.arraycopy hx hown (hts _ hlink) (hts _ q_nat_arraycopy) (hts _ q_st_J10_arraycopy) (hts _ q_in_J10) (src := a0) (dst := a) (cs := vp_cell (G.2.1 0) (n0, .inl f)) (cd := vp_cell (G.2.1 0) (n1, .inl g)) (srcPos := 0) (destPos := 0) (n := nI N) (by rw [hTT]; exact hc0) (by rw [hTT]; exact hc1)
    (fun _ h => by cases h) (fun _ h => by cases h) (fun h => by cases h) (fun h => by cases h) hk0 hk1 hkk0 hkk1 (by rfl) (by decide) (by decide) (nI_pos hN)
    (by rw [h0i, hNi]; show ¬ _ > ((arrV (G.2.1 0) n0 (fun j => .int (f j))).slots.size : Int); rw [arrV_size]; omega)
    (by rw [h0i, hNi]; show ¬ _ > ((arrV (G.2.1 0) n1 (fun j => .int (g j))).slots.size : Int); rw [arrV_size]; omega)
    (fun vm₁ _ i hi => by
      rw [hNn] at hi
      have e : (vp_cell (G.2.1 0) (n0, .inl f)).slots.getD ((0 : Int32).toNatClampNeg + i) .null = .int (f i) := by
        show (arrV (G.2.1 0) n0 (fun j => .int (f j))).slots.getD _ _ = _
        rw [h0n, Nat.zero_add, Array.getD_eq_getD_getElem?, arrV_read _ _ (by omega)]
        rfl
      refine ⟨?_, ?_⟩
      · rw [e]
        rfl
      · rw [e]
        exact trivial)
    (g := F0 m pc lsA (.int (nI N) :: .int 0 :: .ref a :: .int 0 :: .ref a0 :: st)) rfl (by rw [hml, ← hls]) (rest := st) rfl (by rw [hb]; exact hd) (by omega) (by
      show 2 * 0 + _ + (nativeFrameWords "java/lang/System" "arraycopy" 5 + 11) ≤ _
      have : nativeFrameWords "java/lang/System" "arraycopy" 5 ≤ 50 := by decide +kernel
      omega)
  have e1 : copied (vp_cell (G.2.1 0) (n0, .inl f)) (vp_cell (G.2.1 0) (n1, .inl g)) 0 0 (nI N) = vp_cell (G.2.1 0) (n1, .inl (va_cpy f g (0 : Int32).toNatClampNeg (0 : Int32).toNatClampNeg (nI N).toNatClampNeg)) := va_copied (fun z => .int z) (G.2.1 0) (G.2.1 0) f g (by rw [h0n, hNn]; omega)
  have e2 : va_cpy f g (0 : Int32).toNatClampNeg (0 : Int32).toNatClampNeg (nI N).toNatClampNeg = (fun j => if j < N then f j else g j) := by
    funext j
    rw [h0n, hNn]
    unfold va_cpy
    simp
  rw [e2] at e1
  rw [e1] at X' step
  have hla : a < H.size := (Array.getElem?_eq_some_iff.mp hc1).1
  have hheap : ((T.setVm vm').setCell a (vp_cell (G.2.1 0) (n1, .inl (fun j => if j < N then f j else g j)))).heap = H.setIfInBounds a (vp_cell (G.2.1 0) (n1, .inl (fun j => if j < N then f j else g j))) := by rw [← hTT]; rfl
  have oq : ∀ q : Nat, q ≠ a → (H.setIfInBounds a (vp_cell (G.2.1 0) (n1, .inl (fun j => if j < N then f j else g j))))[q]? = H[q]? := fun q hq => by simp [Array.getElem?_setIfInBounds, Ne.symm hq]
  have haA : A a := hd2 a (by rw [ha1]; exact fun z => by cases z)
  obtain ⟨t, a1, b1⟩ := k G p l e R s m args below meth c Q A _ _ lsA hX hF hA hK hT (hP.put (x := aI n1 (fun j => if j < N then f j else g j)) (show (H.setIfInBounds a _)[a]? = some _ by simp [Array.getElem?_setIfInBounds, hla]) oq) (by simp; exact hz) (en_dom hd2 haA) ⟨by simp; exact hS.1, fun q g1 g2 => by
      rw [oq q (fun e => g2 (by rw [e]; exact haA))]
      exact hS.2.1 q g1 g2, fun q hq => by
      rcases List.mem_append.mp hq with h | h
      · exact hS.2.2 q h
      · obtain ⟨z, -, hz⟩ := List.mem_map.mp h
        rw [← hz]
        exact haA⟩ hl _ hheap X'
  exact ⟨t, step t a1, b1⟩
end EN7
