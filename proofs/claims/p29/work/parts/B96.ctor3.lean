/-! ===== the reference's constructor ===== -/
def W0 : Wd := (2, 1, fun _ => 0)
section X11I
theorem b_putX {M : MI} {Post : Option Value → AH → Nat → Prop} {h : AH} {pc : Nat} {ls : List (Option Value)} {st : List Value} {ci o N c s : Nat} {fs : List Value} {T : Nat → AE} {idx kf : Nat} {v : Value} {ty : FieldType} {fs2 : List Value} (f : PL (MI.own M) idx ci kf ty false) (hd : decode (MI.cc M) pc = .ok (.putfield idx, 3)) (hn : narrow ty v = v) (hft : fits ty v = true) (hl0 : kf < fs.length) (e : fs.set kf v = fs2) (k : V M Post (o + 1 + N, c, s) (bk ci h o fs2 T N) (pc + 3) ls st) : V M Post (o + 1 + N, c, s) (bk ci h o fs T N) pc ls (v :: .ref o :: st) :=
  b_put f hd hn hft hl0 (by rw [e]; exact k)
theorem b_putFX {M : MI} {Post : Option Value → AH → Nat → Prop} {h : AH} {pc : Nat} {ls : List (Option Value)} {st : List Value} {ci o N c s : Nat} {fs : List Value} {T : Nat → AE} {idx kf : Nat} {v : Value} {ty : FieldType} {fs2 : List Value} (f : PL (MI.own M) idx ci kf ty true) (hini : MI.ini M = true) (hd : decode (MI.cc M) pc = .ok (.putfield idx, 3)) (hn : narrow ty v = v) (hft : fits ty v = true) (hl0 : kf < fs.length) (e : fs.set kf v = fs2) (k : V M Post (o + 1 + N, c, s) (bk ci h o fs2 T N) (pc + 3) ls st) : V M Post (o + 1 + N, c, s) (bk ci h o fs T N) pc ls (v :: .ref o :: st) :=
  b_putF f hini hd hn hft hl0 (by rw [e]; exact k)
variable {Post : Option Value → AH → Nat → Prop} {o : Nat} {h : AH} {al : Nat × Nat × Nat}
end X11I
