/-! ===== the law's texts; texts put together ===== -/
theorem nw_L_58 : NW RL 58 12 4 [.null, .int 0, .int 0, .int 0] := ⟨RJ4, TJ4, tyJ4, rfl, uJ4, tyJ4_ok, q_cl_L_58, q_ib_J4, q_in_J4, by decide⟩
/-- the law's texts -/
def ltx (i : Nat) : List Nat := if i = 0 then [111, 114, 100, 101, 114, 32] else if i = 1 then [32] else if i = 2 then [59] else if i = 3 then [102, 105, 101, 108, 100] else if i = 4 then [32, 116, 119, 105, 115, 116, 32] else if i = 5 then [97, 116, 32] else if i = 6 then [116, 117, 114, 110, 32] else [32, 59]
def LTx (ro : RT) : Prop := ∀ i, i < 8 → ∃ v g, ro.1 (ro.2 i) = some (ob 11 [.ref v, .int 0]) ∧ ro.1 v = some (aB (ltx i).length g) ∧ Bts g (ltx i)
theorem LTx.s {ro : RT} {h : AH} {B i : Nat} {S : List Nat} (hL : LTx ro) (hi : i < 8) (e : ltx i = S) : Str ro h B (ro.2 i) S := by
  subst e
  obtain ⟨v, g, g1, g2, g3⟩ := hL i hi
  exact ⟨v, g, Or.inr ⟨g1, g2⟩, g3⟩
/-- a text that is being put together at b, so far T; below b all as in h0 -/
def Bld (h0 h : AH) (b z : Nat) (T : List Nat) : Prop := b + 2 ≤ z ∧ (∃ v m f, Sb h b v m f T ∧ v < z) ∧ ∀ q, q < b → h q = h0 q
section LJ
variable {ro : RT} {Post : Option Value → AH → Nat → Prop} {h h0 : AH} {b zq c s pc : Nat} {ls : List (Option Value)} {st : List Value} {T S : List Nat}
theorem zs_new (hd1 : decode (MI.cc ML_world) pc = .ok (.new 58, 3)) (hd2 : decode (MI.cc ML_world) (pc + 3) = .ok (.dup, 1)) (hd3 : decode (MI.cc ML_world) (pc + 4) = .ok (.invokespecial 60, 3)) (hc : c + 2 ≤ 3000) (hs : s + 20 ≤ 300000)
    (k : ∀ h2, Bld h h2 zq (zq + 2) [] → VS ro ML_world Post (zq + 2, c + 2, s + 20) h2 (pc + 7) ls [.ref zq]) : VS ro ML_world Post (zq, c, s) h pc ls [] := by
  refine ze_new (pc := pc) nw_L_58 hd1 ⟨by show c + 1 ≤ 3000; omega, by show s + 4 ≤ 300000; omega⟩ ?_
  refine ze_dup (pc := pc + 3) hd2 rfl ?_
  refine ze_callI (pc := pc + 4) (s_J4_init (b := zq) (hset_eq _ _ _)) bJ4_init_da8c8 rfl rfl q_i_J4_init_da8c8 q_m_L_60 hd3 rfl rfl (by exact Nat.le_of_ble_eq_true rfl) ⟨by decide, by decide⟩ ⟨by show c + 1 + 1 ≤ 3000; omega, by show s + 4 + 16 ≤ 300000; omega⟩ (fun r h2 z2 hp => ?_)
  obtain ⟨rfl, rfl, hB, hf⟩ := hp
  refine VS.widen (c2 := c + 2) (s2 := s + 20) (by show c + 1 + 1 ≤ c + 2; omega) (by show s + 4 + 16 ≤ s + 20; omega) ?_
  exact k h2 ⟨Nat.le_refl _, ⟨_, _, _, hB, by omega⟩, fun q hq => by rw [hf q hq, hset_ne _ _ (by omega)]⟩
theorem zs_S {a : Nat} (hB : Bld h0 h b zq T) (hS : Str ro h0 b a S) (hl : T.length + S.length ≤ 100) (hd : decode (MI.cc ML_world) pc = .ok (.invokevirtual 63, 3)) (hc : c + 1 ≤ 3000) (hs : s + 400 ≤ 300000)
    (k : ∀ h2 z, Bld h0 h2 b z (T ++ S) → VS ro ML_world Post (z, c + 1, s + 400) h2 (pc + 3) ls [.ref b]) : VS ro ML_world Post (zq, c, s) h pc ls [.ref a, .ref b] := by
  obtain ⟨b1, ⟨v, m, f, hSb, hv⟩, hf⟩ := hB
  obtain ⟨x1, -⟩ := id hSb
  refine ze_callV (pc := pc) (s_J4_appendS hSb hv (hS.kept hf (Nat.le_refl _)) hl) bJ4_append_15ec4 q_i_J4_append_15ec4 q_s_J4_append_15ec4 q_m_L_63 hd rfl rfl x1 rfl rfl (by exact Nat.le_of_ble_eq_true rfl) ⟨by decide, by decide⟩ ⟨by show c + 1 ≤ 3000; omega, by show s + 400 ≤ 300000; omega⟩ (fun r h2 z2 hp => ?_)
  obtain ⟨rfl, v2, m2, f2, hB2, z1, z2', hv2, hf2⟩ := hp
  exact k h2 z2 ⟨by omega, ⟨v2, m2, f2, hB2, hv2⟩, fun q hq => (hf2 q hq).trans (hf q hq)⟩
theorem zs_N {w : Nat} (hD : DT ro) (hw : w < 100) (hB : Bld h0 h b zq T) (hl : T.length + 2 ≤ 100) (hd : decode (MI.cc ML_world) pc = .ok (.invokevirtual 67, 3)) (hc : c + 1 ≤ 3000) (hs : s + 400 ≤ 300000)
    (k : ∀ h2 z, Bld h0 h2 b z (T ++ dec w) → VS ro ML_world Post (z, c + 1, s + 400) h2 (pc + 3) ls [.ref b]) : VS ro ML_world Post (zq, c, s) h pc ls [.int (nI w), .ref b] := by
  obtain ⟨b1, ⟨v, m, f, hSb, hv⟩, hf⟩ := hB
  obtain ⟨x1, -⟩ := id hSb
  refine ze_callV (pc := pc) (s_J4_appendI hD hw hSb hv hl) bJ4_append_bf812 q_i_J4_append_bf812 q_s_J4_append_bf812 q_m_L_67 hd rfl rfl x1 rfl rfl (by exact Nat.le_of_ble_eq_true rfl) ⟨by decide, by decide⟩ ⟨by show c + 1 ≤ 3000; omega, by show s + 400 ≤ 300000; omega⟩ (fun r h2 z2 hp => ?_)
  obtain ⟨rfl, v2, m2, f2, hB2, z1, z2', hv2, hf2⟩ := hp
  exact k h2 z2 ⟨by omega, ⟨v2, m2, f2, hB2, hv2⟩, fun q hq => (hf2 q hq).trans (hf q hq)⟩
theorem zs_E (hB : Bld h0 h b zq T) (hd : decode (MI.cc ML_world) pc = .ok (.invokevirtual 74, 3)) (hc : c + 2 ≤ 3000) (hs : s + 404 ≤ 300000)
    (k : ∀ h2 t, b ≤ t → MS h2 t T → (∀ q, q < b → h2 q = h0 q) → VS ro ML_world Post (t + 2, c + 2, s + 404) h2 (pc + 3) ls [.ref t]) : VS ro ML_world Post (zq, c, s) h pc ls [.ref b] := by
  obtain ⟨b1, ⟨v, m, f, hSb, hv⟩, hf⟩ := hB
  obtain ⟨x1, -⟩ := id hSb
  refine ze_callV (pc := pc) (s_J4_toString hSb (by omega) hv) bJ4_toString_0e30d q_i_J4_toString_0e30d q_s_J4_toString_0e30d q_m_L_74 hd rfl rfl x1 rfl rfl (by exact Nat.le_of_ble_eq_true rfl) ⟨by decide, by decide⟩ ⟨by show c + 2 ≤ 3000; omega, by show s + 404 ≤ 300000; omega⟩ (fun r h2 z2 hp => ?_)
  obtain ⟨rfl, rfl, hM, hf2⟩ := hp
  exact k h2 zq (by omega) hM (fun q hq => (hf2 q (by omega)).trans (hf q hq))
theorem zs_btw {x : Int32} {lo hi : Nat} (hlh : lo ≤ hi) (hh : hi ≤ 1000) (hst : (st.map fun v => v.category).sum ≤ 8) (hd : decode (MI.cc ML_world) pc = .ok (.invokestatic 54, 3)) (hc : c ≤ 3000) (hs : s ≤ 300000)
    (k : ∀ w, lo ≤ w → w ≤ hi → VS ro ML_world Post (zq, c, s) h (pc + 3) ls (.int (nI w) :: st)) : VS ro ML_world Post (zq, c, s) h pc ls (.int (nI hi) :: .int (nI lo) :: .int x :: st) := by
  refine zn_S (pc := pc) (c_L_between hlh hh) bL_between q_st_L_between q_m_L_54 hd rfl rfl hst ⟨by decide, by decide⟩ ⟨rfl, rfl, hc, hs⟩ (fun x h2 hp => ?_)
  obtain ⟨e1, w, w1, w2, rfl⟩ := hp
  rw [e1]
  exact k w w1 w2
end LJ
