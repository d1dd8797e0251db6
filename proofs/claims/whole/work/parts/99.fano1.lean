/-! ===== diagonal points of four points are unlike ===== -/
section DG
variable {W : Wd}
theorem pt_one (hk : Wok W) (hD : Div W) {l k x y : Nat} (h : l ≠ k) (hl : l ≤ lastP W) (hkk : k ≤ lastP W) (hx : x ≤ lastP W) (hy : y ≤ lastP W) (x1 : OnP W x l) (x2 : OnP W x k) (y1 : OnP W y l) (y2 : OnP W y k) : x = y := (mtP_uni hk hD h hl hkk hx x1 x2).trans (mtP_uni hk hD h hl hkk hy y1 y2).symm
/-- of three points not on one line any two lines through one differ -/
theorem Tri.ln (hk : Wok W) (hD : Div W) {a b c : Nat} (ha : a ≤ lastP W) (hb : b ≤ lastP W) (hc : c ≤ lastP W) (t : Tri W a b c) : jnP W a b ≠ jnP W a c ∧ jnP W a b ≠ jnP W b c ∧ jnP W a c ≠ jnP W b c := by
  obtain ⟨t1, t2, t3, t4⟩ := t
  have j1 := jnP_on hk hD t1 ha hb
  have j2 := jnP_on hk hD t2 ha hc
  have j3 := jnP_on hk hD t3 hb hc
  refine ⟨fun e => t4 (by rw [e]; exact j2.2.1), fun e => t4 (by rw [e]; exact j3.2.1), fun e => ?_⟩
  -- a and b lie on the line of a and c
  have h1 : OnP W b (jnP W a c) := by rw [e]; exact j3.1
  have h2 := jnP_uni hk hD t1 ha hb j2.2.2 j2.1 h1
  exact t4 (by rw [← h2]; exact j2.2.1)
theorem quad_ln (hk : Wok W) (hD : Div W) {a b c d : Nat} (ha : a ≤ lastP W) (hb : b ≤ lastP W) (hc : c ≤ lastP W) (hd : d ≤ lastP W) (q : Quad W a b c d) : jnP W a b ≠ jnP W c d ∧ jnP W a c ≠ jnP W b d ∧ jnP W a d ≠ jnP W b c := by
  obtain ⟨t1, t2, t3, t4⟩ := q
  have jcd := jnP_on hk hD t3.2.2.1 hc hd
  have jbd := jnP_on hk hD t2.2.2.1 hb hd
  have jac := jnP_on hk hD t1.2.1 ha hc
  have jbc := jnP_on hk hD t1.2.2.1 hb hc
  have jad := jnP_on hk hD t2.2.1 ha hd
  refine ⟨fun e => t1.2.2.2 (by rw [e]; exact jcd.1), fun e => t3.2.2.2 (by rw [e]; exact jbd.2.1), fun e => t4.2.2.2 (by rw [← e]; exact jad.2.1)⟩
theorem quad_pt (hk : Wok W) (hD : Div W) {a b c d : Nat} (ha : a ≤ lastP W) (hb : b ≤ lastP W) (hc : c ≤ lastP W) (hd : d ≤ lastP W) (q : Quad W a b c d) : mtP W (jnP W a b) (jnP W c d) ≠ mtP W (jnP W a c) (jnP W b d) ∧ mtP W (jnP W a b) (jnP W c d) ≠ mtP W (jnP W a d) (jnP W b c) ∧ mtP W (jnP W a c) (jnP W b d) ≠ mtP W (jnP W a d) (jnP W b c) := by
  have ql := quad_ln hk hD ha hb hc hd q
  obtain ⟨t1, t2, t3, t4⟩ := q
  have jab := jnP_on hk hD t1.1 ha hb
  have jcd := jnP_on hk hD t3.2.2.1 hc hd
  have jbd := jnP_on hk hD t2.2.2.1 hb hd
  have jac := jnP_on hk hD t1.2.1 ha hc
  have jbc := jnP_on hk hD t1.2.2.1 hb hc
  have jad := jnP_on hk hD t2.2.1 ha hd
  have m1 := mtP_on hk hD ql.1 jab.2.2 jcd.2.2
  have m2 := mtP_on hk hD ql.2.1 jac.2.2 jbd.2.2
  have m3 := mtP_on hk hD ql.2.2 jad.2.2 jbc.2.2
  have l1 := t1.ln hk hD ha hb hc
  have l2 := t2.ln hk hD ha hb hd
  have l3 := t3.ln hk hD ha hc hd
  have l4 := t4.ln hk hD hb hc hd
  refine ⟨fun e => ?_, fun e => ?_, fun e => ?_⟩
  · have e1 := pt_one hk hD l1.1 jab.2.2 jac.2.2 m1.2.2 ha m1.1 (by rw [e]; exact m2.1) jab.1 jac.1
    have e2 := pt_one hk hD l4.2.2.symm jcd.2.2 jbd.2.2 m1.2.2 hd m1.2.1 (by rw [e]; exact m2.2.1) jcd.2.1 jbd.2.1
    exact t2.2.1 (e1.symm.trans e2)
  · have e1 := pt_one hk hD l2.1 jab.2.2 jad.2.2 m1.2.2 ha m1.1 (by rw [e]; exact m3.1) jab.1 jad.1
    have e2 := pt_one hk hD l4.2.1.symm jcd.2.2 jbc.2.2 m1.2.2 hc m1.2.1 (by rw [e]; exact m3.2.1) jcd.1 jbc.2.1
    exact t1.2.1 (e1.symm.trans e2)
  · have e1 := pt_one hk hD l3.1 jac.2.2 jad.2.2 m2.2.2 ha m2.1 (by rw [e]; exact m3.1) jac.1 jad.1
    have e2 := pt_one hk hD l4.1.symm jbd.2.2 jbc.2.2 m2.2.2 hb m2.2.1 (by rw [e]; exact m3.2.1) jbd.1 jbc.1
    exact t1.1 (e1.symm.trans e2)
end DG
