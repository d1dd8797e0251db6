/-! ===== a drawn text and its world ===== -/
section LP
variable {ro : RT} {Post : Option Value → AH → Nat → Prop} {h0 : AH} {o sb fr r z0 p n many c s sL : Nat} {x0 : Int32} {xs : Nat → Int32}
theorem l_w_loop (hL : LTx ro) (hD : DT ro) (hS : Sz p n) (hsb : ro.1 sb = some (aI sL xs)) (hsL : sL ≤ 260) (hfr : fr ≤ 100) (hm : many ≤ 4) (hc : c + 1000 ≤ 3000) (hs : s + 200000 ≤ 300000)
    (kk : ∀ z h x t X F hf fv T, Wi h0 h z0 z p n T X F hf x t fv → PF T (many + 1) X F hf → T.length ≤ 80 → 10 ≤ T.length → VS ro ML_world Post (z, c + 1000, s + 160000) h 819 [some (.ref o), some (.ref sb), some (.int (nI fr)), some (.int (nI r)), none, some (.int x0), none, some (.int (nI p)), some (.int (nI n)), some (.ref x), some (.ref t), some (fv), some (.int (nI many)), some (.int (nI (many))), none, none, none, none, none, none, none, none, none, none, none] []) :
    ∀ (m k : Nat), m = many - k → k ≤ many → ∀ z h x t X F hf fv T, Wi h0 h z0 z p n T X F hf x t fv → PF T (k + 1) X F hf → T.length ≤ 10 + 16 * k → 10 ≤ T.length → VS ro ML_world Post (z, c + 250 * k, s + 40000 * k) h 107 [some (.ref o), some (.ref sb), some (.int (nI fr)), some (.int (nI r)), none, some (.int x0), none, some (.int (nI p)), some (.int (nI n)), some (.ref x), some (.ref t), some (fv), some (.int (nI many)), some (.int (nI (k))), none, none, none, none, none, none, none, none, none, none, none] [] := by
  intro m
  induction m with
  | zero =>
    intro k e1 e2 z h x t X F hf fv T hW hP hl hl0
    have : k = many := by omega
    subst this
    refine ze_iload (pc := 107) dL_world_107 rfl ?_
    refine ze_iload (pc := 109) dL_world_109 rfl ?_
    refine zn_icmp_ge (pc := 111) (tgt := 819) dL_world_111 (by decide) (by omega) (by omega) (fun cc => ?_) (fun c => absurd c (by omega))
    refine VS.widen (c2 := c + 1000) (s2 := s + 160000) (by first | (dsimp only; omega) | dsimp only) (by first | (dsimp only; omega) | dsimp only) ?_
    exact kk z h x t X F hf fv T hW hP (by omega) hl0
  | succ m ih =>
    intro k e1 e2 z h x t X F hf fv T hW hP hl hl0
    have hbe := hS.be
    have nx : ∀ z2 h2 x2 t2 X2 F2 hf2 fv2 T2, Wi h0 h2 z0 z2 p n T2 X2 F2 hf2 x2 t2 fv2 → PF T2 (k + 2) X2 F2 hf2 → T.length ≤ T2.length → T2.length ≤ T.length + 16 → VS ro ML_world Post (z2, c + 250 * (k + 1), s + 40000 * (k + 1)) h2 107 [some (.ref o), some (.ref sb), some (.int (nI fr)), some (.int (nI r)), none, some (.int x0), none, some (.int (nI p)), some (.int (nI n)), some (.ref x2), some (.ref t2), some (fv2), some (.int (nI many)), some (.int (nI (k + 1))), none, none, none, none, none, none, none, none, none, none, none] [] := fun z2 h2 x2 t2 X2 F2 hf2 fv2 T2 hW2 hP2 l1 l2 => ih (k + 1) (by omega) (by omega) z2 h2 x2 t2 X2 F2 hf2 fv2 T2 hW2 hP2 (by omega) (by omega)
    have g168 : ∀ (y : Int32) (wh : Nat), wh ≤ 3 → (wh = 1 → ∃ w, fv = .ref w ∧ hf = true) → VS ro ML_world Post (z, c + 250 * k, s + 40000 * k) h 168 [some (.ref o), some (.ref sb), some (.int (nI fr)), some (.int (nI r)), none, some (.int x0), none, some (.int (nI p)), some (.int (nI n)), some (.ref x), some (.ref t), some (fv), some (.int (nI many)), some (.int (nI (k))), some (.int y), some (.int (nI wh)), none, none, none, none, none, none, none, none, none] [] := fun y wh hw hw1 => by
      refine ze_iload (pc := 168) dL_world_168 rfl ?_
      refine zn_if_ne (pc := 170) (tgt := 330) dL_world_170 (by decide) (by omega) (fun c0 => ?_) (fun c0 => ?_)
      · refine ze_iload (pc := 330) dL_world_330 rfl ?_
        refine zn_iconst (pc := 332) 1 dL_world_332 (by decide) ?_
        refine zn_icmp_ne (pc := 333) (tgt := 585) dL_world_333 (by decide) (by omega) (by omega) (fun c1 => ?_) (fun c1 => ?_)
        · refine ze_iload (pc := 585) dL_world_585 rfl ?_
          refine zn_iconst (pc := 587) 2 dL_world_587 (by decide) ?_
          refine zn_icmp_ne (pc := 588) (tgt := 744) dL_world_588 (by decide) (by omega) (by omega) (fun c2 => ?_) (fun c2 => ?_)
          · have : wh = 3 := by omega
            subst this
            refine l_w_turn hL hD hW hP (by omega) (by omega) (by omega) (by omega) (fun z2 h2 x2 t2 X2 F2 hf2 fv2 T2 hW2 hP2 l1 l2 => ?_)
            refine VS.widen (c2 := c + 250 * (k + 1)) (s2 := s + 40000 * (k + 1)) (by first | (dsimp only; omega) | dsimp only) (by first | (dsimp only; omega) | dsimp only) ?_
            exact nx z2 h2 x2 t2 X2 F2 hf2 fv2 T2 hW2 hP2 l1 l2
          · subst c2
            refine l_w_at hL hD hW hP (by omega) (by omega) (by omega) (by omega) (by omega) (fun z2 h2 x2 t2 X2 F2 hf2 fv2 T2 hW2 hP2 l1 l2 => ?_)
            refine VS.widen (c2 := c + 250 * (k + 1)) (s2 := s + 40000 * (k + 1)) (by first | (dsimp only; omega) | dsimp only) (by first | (dsimp only; omega) | dsimp only) ?_
            exact nx z2 h2 x2 t2 X2 F2 hf2 fv2 T2 hW2 hP2 l1 l2
        · subst c1
          obtain ⟨w, rfl, rfl⟩ := hw1 rfl
          refine l_w_twist hL hD hS hW hP (by omega) (by omega) (by omega) (by omega) (fun z2 h2 x2 t2 X2 F2 hf2 fv2 T2 hW2 hP2 l1 l2 => ?_)
          refine VS.widen (c2 := c + 250 * (k + 1)) (s2 := s + 40000 * (k + 1)) (by first | (dsimp only; omega) | dsimp only) (by first | (dsimp only; omega) | dsimp only) ?_
          exact nx z2 h2 x2 t2 X2 F2 hf2 fv2 T2 hW2 hP2 l1 l2
      · subst c0
        refine l_w_field hL hD hS hW hP (by omega) (by omega) (by omega) (by omega) (fun z2 h2 x2 t2 X2 F2 hf2 fv2 T2 hW2 hP2 l1 l2 => ?_)
        refine VS.widen (c2 := c + 250 * (k + 1)) (s2 := s + 40000 * (k + 1)) (by first | (dsimp only; omega) | dsimp only) (by first | (dsimp only; omega) | dsimp only) ?_
        exact nx z2 h2 x2 t2 X2 F2 hf2 fv2 T2 hW2 hP2 l1 l2
    have g152 : ∀ (y : Int32) (wh : Nat), wh ≤ 3 → VS ro ML_world Post (z, c + 250 * k, s + 40000 * k) h 152 [some (.ref o), some (.ref sb), some (.int (nI fr)), some (.int (nI r)), none, some (.int x0), none, some (.int (nI p)), some (.int (nI n)), some (.ref x), some (.ref t), some (fv), some (.int (nI many)), some (.int (nI (k))), some (.int y), none, none, none, none, none, none, none, none, none, none] [.int (nI wh)] := fun y wh hw => by
      refine ze_istore (pc := 152) dL_world_152 (by decide) ?_
      refine ze_iload (pc := 154) dL_world_154 rfl ?_
      refine zn_iconst (pc := 156) 1 dL_world_156 (by decide) ?_
      refine zn_icmp_ne (pc := 157) (tgt := 168) dL_world_157 (by decide) (by omega) (by omega) (fun c1 => ?_) (fun c1 => ?_)
      · exact g168 y wh hw (fun z => absurd z c1)
      · subst c1
        rcases hW.2.2.2.2.2.2.2.1 with ⟨rfl, f2⟩ | ⟨w, B, rfl, f2, -⟩
        · refine ze_aloadN (pc := 160) dL_world_160 rfl ?_
          refine ze_ifnonnullN (pc := 162) dL_world_162 ?_
          refine zn_iconst (pc := 165) 0 dL_world_165 (by decide) ?_
          refine ze_istore (pc := 166) dL_world_166 (by decide) ?_
          exact g168 y 0 (by omega) (fun z => absurd z (by omega))
        · refine ze_aload (pc := 160) dL_world_160 rfl ?_
          refine ze_ifnonnull (pc := 162) (tgt := 168) dL_world_162 (by decide) ?_
          exact g168 y 1 (by omega) (fun _ => ⟨w, rfl, f2⟩)
    refine ze_iload (pc := 107) dL_world_107 rfl ?_
    refine ze_iload (pc := 109) dL_world_109 rfl ?_
    refine zn_icmp_ge (pc := 111) (tgt := 819) dL_world_111 (by decide) (by omega) (by omega) (fun c => absurd c (by omega)) (fun cc => ?_)
    refine ze_aload_n (pc := 114) dL_world_114 rfl rfl ?_
    refine ze_iload_n (pc := 115) dL_world_115 rfl rfl ?_
    refine zn_iconst (pc := 116) 1 dL_world_116 (by decide) ?_
    refine zn_iadd (pc := 117) dL_world_117 ?_
    refine ze_iload (pc := 118) dL_world_118 rfl ?_
    refine zn_iadd (pc := 120) dL_world_120 ?_
    refine zn_S (pc := 121) (c_L_cell hsb hsL (show fr + 1 + k < 1000 by omega)) bL_cell q_st_L_cell q_m_L_44 dL_world_121 rfl rfl (by exact Nat.le_of_ble_eq_true rfl) ⟨by decide, by decide⟩ ⟨rfl, rfl, by show _ ≤ 3000; first | omega | (dsimp only; omega) | dsimp only | exact Nat.le_of_ble_eq_true rfl, by show _ ≤ 300000; first | omega | (dsimp only; omega) | dsimp only | exact Nat.le_of_ble_eq_true rfl⟩ (fun y h9 hp => ?_)
    rw [hp]
    have g145 : VS ro ML_world Post (z, c + 250 * k, s + 40000 * k) h 145 [some (.ref o), some (.ref sb), some (.int (nI fr)), some (.int (nI r)), none, some (.int x0), none, some (.int (nI p)), some (.int (nI n)), some (.ref x), some (.ref t), some (fv), some (.int (nI many)), some (.int (nI (k))), some (.int y), none, none, none, none, none, none, none, none, none, none] [] := by
      refine ze_iload (pc := 145) dL_world_145 rfl ?_
      refine zn_iconst (pc := 147) 0 dL_world_147 (by decide) ?_
      refine zn_iconst (pc := 148) 3 dL_world_148 (by decide) ?_
      refine zs_btw (pc := 149) (by omega) (by omega) (by exact Nat.le_of_ble_eq_true rfl) dL_world_149 (by omega) (by omega) (fun wh _ hwh => ?_)
      exact g152 y wh hwh
    refine ze_istore (pc := 124) dL_world_124 (by decide) ?_
    refine ze_iload (pc := 126) dL_world_126 rfl ?_
    refine zn_if_ne (pc := 128) (tgt := 145) dL_world_128 (by decide) (by omega) (fun c0 => ?_) (fun c0 => ?_)
    · exact g145
    · refine ze_iload (pc := 131) dL_world_131 rfl ?_
      refine zn_bipush (pc := 133) 8 dL_world_133 (by decide) ?_
      refine ze_ishr (pc := 135) dL_world_135 ?_
      refine zn_iconst (pc := 136) 3 dL_world_136 (by decide) ?_
      refine ze_iand (pc := 137) dL_world_137 ?_
      refine ze_if_le (pc := 138) (tgt := 145) dL_world_138 (by decide) (fun c1 => ?_) (fun c1 => ?_)
      · exact g145
      · refine zn_iconst (pc := 141) 0 dL_world_141 (by decide) ?_
        refine ze_goto (pc := 142) (tgt := 152) dL_world_142 (by decide) ?_
        exact g152 y 0 (by omega)
end LP
