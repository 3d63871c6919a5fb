section ZJ
variable {l : Launch} {own : String} {cc : ByteArray} {nL : Nat} {G : Geo} {fr lo um : Nat} {J : JT} {JX : JXT} {X : St} {u pc : Nat} {lv : List (Nat × Value)} {st : List Value}

theorem r_iconst (C : Cb l own cc nL G fr lo um J JX) {n : Int} {v : Int32} (hdg : decode cc pc = .ok (.iconst n, 1)) (hv : Int32.ofInt n = v) (k : J X u (pc + 1) lv (.int v :: st)) : J X u pc lv (st) := by
  obtain ⟨p, e, R, s, m, args, below, meth, c, A, c0, s0, Q, ⟨hx, hb, hml, hown, hts, hK, hNw, hA, hZs, hfl, hfr, hlo, hRc, hRs, hSx⟩, rfl, rfl⟩ := C
  intro H locs ls hP hD hS hl
  exact lv_iconst hx hb hdg hv (k H locs ls hP hD hS hl)
theorem r_bipush (C : Cb l own cc nL G fr lo um J JX) {n : Int} {v : Int32} (hdg : decode cc pc = .ok (.bipush n, 2)) (hv : (Int8.ofInt n).toInt32 = v) (k : J X u (pc + 2) lv (.int v :: st)) : J X u pc lv (st) := by
  obtain ⟨p, e, R, s, m, args, below, meth, c, A, c0, s0, Q, ⟨hx, hb, hml, hown, hts, hK, hNw, hA, hZs, hfl, hfr, hlo, hRc, hRs, hSx⟩, rfl, rfl⟩ := C
  intro H locs ls hP hD hS hl
  exact lv_bipush hx hb hdg hv (k H locs ls hP hD hS hl)
theorem r_sipush (C : Cb l own cc nL G fr lo um J JX) {n : Int} {v : Int32} (hdg : decode cc pc = .ok (.sipush n, 3)) (hv : (Int16.ofInt n).toInt32 = v) (k : J X u (pc + 3) lv (.int v :: st)) : J X u pc lv (st) := by
  obtain ⟨p, e, R, s, m, args, below, meth, c, A, c0, s0, Q, ⟨hx, hb, hml, hown, hts, hK, hNw, hA, hZs, hfl, hfr, hlo, hRc, hRs, hSx⟩, rfl, rfl⟩ := C
  intro H locs ls hP hD hS hl
  exact lv_sipush hx hb hdg hv (k H locs ls hP hD hS hl)
theorem r_lconst (C : Cb l own cc nL G fr lo um J JX) {n : Fin 2} {v : Int64} (hdg : decode cc pc = .ok (.lconst n, 1)) (hv : Int64.ofNat (n : Nat) = v) (k : J X u (pc + 1) lv (.long v :: st)) : J X u pc lv (st) := by
  obtain ⟨p, e, R, s, m, args, below, meth, c, A, c0, s0, Q, ⟨hx, hb, hml, hown, hts, hK, hNw, hA, hZs, hfl, hfr, hlo, hRc, hRs, hSx⟩, rfl, rfl⟩ := C
  intro H locs ls hP hD hS hl
  exact lv_lconst hx hb hdg hv (k H locs ls hP hD hS hl)
theorem r_iload_n (C : Cb l own cc nL G fr lo um J JX) {k9 : Fin 4} {i : Nat} {x : Int32} (hdg : decode cc pc = .ok (.iload_n k9, 1)) (hi : (k9 : Nat) = i) (hf : afind lv i = some (.int x)) (k : J X u (pc + 1) lv (.int x :: st)) : J X u pc lv (st) := by
  obtain ⟨p, e, R, s, m, args, below, meth, c, A, c0, s0, Q, ⟨hx, hb, hml, hown, hts, hK, hNw, hA, hZs, hfl, hfr, hlo, hRc, hRs, hSx⟩, rfl, rfl⟩ := C
  intro H locs ls hP hD hS hl
  exact lv_iload_n hx hb hdg hi (hl.2.2 _ _ hf) (k H locs ls hP hD hS hl)
theorem r_iload (C : Cb l own cc nL G fr lo um J JX) {i : Nat} {x : Int32} (hdg : decode cc pc = .ok (.iload i, 2)) (hf : afind lv i = some (.int x)) (k : J X u (pc + 2) lv (.int x :: st)) : J X u pc lv (st) := by
  obtain ⟨p, e, R, s, m, args, below, meth, c, A, c0, s0, Q, ⟨hx, hb, hml, hown, hts, hK, hNw, hA, hZs, hfl, hfr, hlo, hRc, hRs, hSx⟩, rfl, rfl⟩ := C
  intro H locs ls hP hD hS hl
  exact lv_iload hx hb hdg (hl.2.2 _ _ hf) (k H locs ls hP hD hS hl)
theorem r_istore_n (C : Cb l own cc nL G fr lo um J JX) {k9 : Fin 4} {i : Nat} {x : Int32} (hdg : decode cc pc = .ok (.istore_n k9, 1)) (hi : (k9 : Nat) = i) (hn : i < nL) (k : J X u (pc + 1) ((i, .int x) :: lv) st) : J X u pc lv (.int x :: st) := by
  obtain ⟨p, e, R, s, m, args, below, meth, c, A, c0, s0, Q, ⟨hx, hb, hml, hown, hts, hK, hNw, hA, hZs, hfl, hfr, hlo, hRc, hRs, hSx⟩, rfl, rfl⟩ := C
  intro H locs ls hP hD hS hl
  exact lv_istore_n hx hb hdg hi (alist_has hl) hn rfl (fun ls9 h9 => k H locs ls9 hP hD hS (lvOk_put1 hl rfl h9))
theorem r_istore (C : Cb l own cc nL G fr lo um J JX) {i : Nat} {x : Int32} (hdg : decode cc pc = .ok (.istore i, 2)) (hn : i < nL) (k : J X u (pc + 2) ((i, .int x) :: lv) st) : J X u pc lv (.int x :: st) := by
  obtain ⟨p, e, R, s, m, args, below, meth, c, A, c0, s0, Q, ⟨hx, hb, hml, hown, hts, hK, hNw, hA, hZs, hfl, hfr, hlo, hRc, hRs, hSx⟩, rfl, rfl⟩ := C
  intro H locs ls hP hD hS hl
  exact lv_istore hx hb hdg (alist_has hl) hn rfl (fun ls9 h9 => k H locs ls9 hP hD hS (lvOk_put1 hl rfl h9))
theorem r_lload_n (C : Cb l own cc nL G fr lo um J JX) {k9 : Fin 4} {i : Nat} {x : Int64} (hdg : decode cc pc = .ok (.lload_n k9, 1)) (hi : (k9 : Nat) = i) (hf : afind lv i = some (.long x)) (k : J X u (pc + 1) lv (.long x :: st)) : J X u pc lv (st) := by
  obtain ⟨p, e, R, s, m, args, below, meth, c, A, c0, s0, Q, ⟨hx, hb, hml, hown, hts, hK, hNw, hA, hZs, hfl, hfr, hlo, hRc, hRs, hSx⟩, rfl, rfl⟩ := C
  intro H locs ls hP hD hS hl
  exact lv_lload_n hx hb hdg hi (hl.2.2 _ _ hf) (k H locs ls hP hD hS hl)
theorem r_lload (C : Cb l own cc nL G fr lo um J JX) {i : Nat} {x : Int64} (hdg : decode cc pc = .ok (.lload i, 2)) (hf : afind lv i = some (.long x)) (k : J X u (pc + 2) lv (.long x :: st)) : J X u pc lv (st) := by
  obtain ⟨p, e, R, s, m, args, below, meth, c, A, c0, s0, Q, ⟨hx, hb, hml, hown, hts, hK, hNw, hA, hZs, hfl, hfr, hlo, hRc, hRs, hSx⟩, rfl, rfl⟩ := C
  intro H locs ls hP hD hS hl
  exact lv_lload hx hb hdg (hl.2.2 _ _ hf) (k H locs ls hP hD hS hl)
theorem r_lstore_n (C : Cb l own cc nL G fr lo um J JX) {k9 : Fin 4} {i : Nat} {x : Int64} (hdg : decode cc pc = .ok (.lstore_n k9, 1)) (hi : (k9 : Nat) = i) (hn : i + 1 < nL) (k : J X u (pc + 1) ((i, .long x) :: lv) st) : J X u pc lv (.long x :: st) := by
  obtain ⟨p, e, R, s, m, args, below, meth, c, A, c0, s0, Q, ⟨hx, hb, hml, hown, hts, hK, hNw, hA, hZs, hfl, hfr, hlo, hRc, hRs, hSx⟩, rfl, rfl⟩ := C
  intro H locs ls hP hD hS hl
  exact lv_lstore_n hx hb hdg hi (alist_has hl) hn rfl (fun ls9 h9 => k H locs ls9 hP hD hS (lvOk_put2 hl rfl h9))
theorem r_lstore (C : Cb l own cc nL G fr lo um J JX) {i : Nat} {x : Int64} (hdg : decode cc pc = .ok (.lstore i, 2)) (hn : i + 1 < nL) (k : J X u (pc + 2) ((i, .long x) :: lv) st) : J X u pc lv (.long x :: st) := by
  obtain ⟨p, e, R, s, m, args, below, meth, c, A, c0, s0, Q, ⟨hx, hb, hml, hown, hts, hK, hNw, hA, hZs, hfl, hfr, hlo, hRc, hRs, hSx⟩, rfl, rfl⟩ := C
  intro H locs ls hP hD hS hl
  exact lv_lstore hx hb hdg (alist_has hl) hn rfl (fun ls9 h9 => k H locs ls9 hP hD hS (lvOk_put2 hl rfl h9))
theorem r_aload_n (C : Cb l own cc nL G fr lo um J JX) {k9 : Fin 4} {i : Nat} {x : Nat} (hdg : decode cc pc = .ok (.aload_n k9, 1)) (hi : (k9 : Nat) = i) (hf : afind lv i = some (.ref x)) (k : J X u (pc + 1) lv (.ref x :: st)) : J X u pc lv (st) := by
  obtain ⟨p, e, R, s, m, args, below, meth, c, A, c0, s0, Q, ⟨hx, hb, hml, hown, hts, hK, hNw, hA, hZs, hfl, hfr, hlo, hRc, hRs, hSx⟩, rfl, rfl⟩ := C
  intro H locs ls hP hD hS hl
  exact lv_aload_n hx hb hdg hi (hl.2.2 _ _ hf) (k H locs ls hP hD hS hl)
theorem r_aload (C : Cb l own cc nL G fr lo um J JX) {i : Nat} {x : Nat} (hdg : decode cc pc = .ok (.aload i, 2)) (hf : afind lv i = some (.ref x)) (k : J X u (pc + 2) lv (.ref x :: st)) : J X u pc lv (st) := by
  obtain ⟨p, e, R, s, m, args, below, meth, c, A, c0, s0, Q, ⟨hx, hb, hml, hown, hts, hK, hNw, hA, hZs, hfl, hfr, hlo, hRc, hRs, hSx⟩, rfl, rfl⟩ := C
  intro H locs ls hP hD hS hl
  exact lv_aload hx hb hdg (hl.2.2 _ _ hf) (k H locs ls hP hD hS hl)
theorem r_astore_n (C : Cb l own cc nL G fr lo um J JX) {k9 : Fin 4} {i : Nat} {x : Nat} (hdg : decode cc pc = .ok (.astore_n k9, 1)) (hi : (k9 : Nat) = i) (hn : i < nL) (k : J X u (pc + 1) ((i, .ref x) :: lv) st) : J X u pc lv (.ref x :: st) := by
  obtain ⟨p, e, R, s, m, args, below, meth, c, A, c0, s0, Q, ⟨hx, hb, hml, hown, hts, hK, hNw, hA, hZs, hfl, hfr, hlo, hRc, hRs, hSx⟩, rfl, rfl⟩ := C
  intro H locs ls hP hD hS hl
  exact lv_astore_n hx hb hdg hi (alist_has hl) hn rfl (fun ls9 h9 => k H locs ls9 hP hD hS (lvOk_put1 hl rfl h9))
theorem r_astore (C : Cb l own cc nL G fr lo um J JX) {i : Nat} {x : Nat} (hdg : decode cc pc = .ok (.astore i, 2)) (hn : i < nL) (k : J X u (pc + 2) ((i, .ref x) :: lv) st) : J X u pc lv (.ref x :: st) := by
  obtain ⟨p, e, R, s, m, args, below, meth, c, A, c0, s0, Q, ⟨hx, hb, hml, hown, hts, hK, hNw, hA, hZs, hfl, hfr, hlo, hRc, hRs, hSx⟩, rfl, rfl⟩ := C
  intro H locs ls hP hD hS hl
  exact lv_astore hx hb hdg (alist_has hl) hn rfl (fun ls9 h9 => k H locs ls9 hP hD hS (lvOk_put1 hl rfl h9))
theorem r_dload_n (C : Cb l own cc nL G fr lo um J JX) {k9 : Fin 4} {i : Nat} {x : UInt64} (hdg : decode cc pc = .ok (.dload_n k9, 1)) (hi : (k9 : Nat) = i) (hf : afind lv i = some (.double x)) (k : J X u (pc + 1) lv (.double x :: st)) : J X u pc lv (st) := by
  obtain ⟨p, e, R, s, m, args, below, meth, c, A, c0, s0, Q, ⟨hx, hb, hml, hown, hts, hK, hNw, hA, hZs, hfl, hfr, hlo, hRc, hRs, hSx⟩, rfl, rfl⟩ := C
  intro H locs ls hP hD hS hl
  exact lv_dload_n hx hb hdg hi (hl.2.2 _ _ hf) (k H locs ls hP hD hS hl)
theorem r_dload (C : Cb l own cc nL G fr lo um J JX) {i : Nat} {x : UInt64} (hdg : decode cc pc = .ok (.dload i, 2)) (hf : afind lv i = some (.double x)) (k : J X u (pc + 2) lv (.double x :: st)) : J X u pc lv (st) := by
  obtain ⟨p, e, R, s, m, args, below, meth, c, A, c0, s0, Q, ⟨hx, hb, hml, hown, hts, hK, hNw, hA, hZs, hfl, hfr, hlo, hRc, hRs, hSx⟩, rfl, rfl⟩ := C
  intro H locs ls hP hD hS hl
  exact lv_dload hx hb hdg (hl.2.2 _ _ hf) (k H locs ls hP hD hS hl)
theorem r_dstore_n (C : Cb l own cc nL G fr lo um J JX) {k9 : Fin 4} {i : Nat} {x : UInt64} (hdg : decode cc pc = .ok (.dstore_n k9, 1)) (hi : (k9 : Nat) = i) (hn : i + 1 < nL) (k : J X u (pc + 1) ((i, .double x) :: lv) st) : J X u pc lv (.double x :: st) := by
  obtain ⟨p, e, R, s, m, args, below, meth, c, A, c0, s0, Q, ⟨hx, hb, hml, hown, hts, hK, hNw, hA, hZs, hfl, hfr, hlo, hRc, hRs, hSx⟩, rfl, rfl⟩ := C
  intro H locs ls hP hD hS hl
  exact lv_dstore_n hx hb hdg hi (alist_has hl) hn rfl (fun ls9 h9 => k H locs ls9 hP hD hS (lvOk_put2 hl rfl h9))
theorem r_dstore (C : Cb l own cc nL G fr lo um J JX) {i : Nat} {x : UInt64} (hdg : decode cc pc = .ok (.dstore i, 2)) (hn : i + 1 < nL) (k : J X u (pc + 2) ((i, .double x) :: lv) st) : J X u pc lv (.double x :: st) := by
  obtain ⟨p, e, R, s, m, args, below, meth, c, A, c0, s0, Q, ⟨hx, hb, hml, hown, hts, hK, hNw, hA, hZs, hfl, hfr, hlo, hRc, hRs, hSx⟩, rfl, rfl⟩ := C
  intro H locs ls hP hD hS hl
  exact lv_dstore hx hb hdg (alist_has hl) hn rfl (fun ls9 h9 => k H locs ls9 hP hD hS (lvOk_put2 hl rfl h9))
theorem r_iadd (C : Cb l own cc nL G fr lo um J JX) {x y : Int32} (hdg : decode cc pc = .ok (.iadd, 1)) (k : J X u (pc + 1) lv (.int (x + y) :: st)) : J X u pc lv (.int y :: .int x :: st) := by
  obtain ⟨p, e, R, s, m, args, below, meth, c, A, c0, s0, Q, ⟨hx, hb, hml, hown, hts, hK, hNw, hA, hZs, hfl, hfr, hlo, hRc, hRs, hSx⟩, rfl, rfl⟩ := C
  intro H locs ls hP hD hS hl
  exact lv_iadd hx hb hdg (k H locs ls hP hD hS hl)
theorem r_isub (C : Cb l own cc nL G fr lo um J JX) {x y : Int32} (hdg : decode cc pc = .ok (.isub, 1)) (k : J X u (pc + 1) lv (.int (x - y) :: st)) : J X u pc lv (.int y :: .int x :: st) := by
  obtain ⟨p, e, R, s, m, args, below, meth, c, A, c0, s0, Q, ⟨hx, hb, hml, hown, hts, hK, hNw, hA, hZs, hfl, hfr, hlo, hRc, hRs, hSx⟩, rfl, rfl⟩ := C
  intro H locs ls hP hD hS hl
  exact lv_isub hx hb hdg (k H locs ls hP hD hS hl)
theorem r_imul (C : Cb l own cc nL G fr lo um J JX) {x y : Int32} (hdg : decode cc pc = .ok (.imul, 1)) (k : J X u (pc + 1) lv (.int (x * y) :: st)) : J X u pc lv (.int y :: .int x :: st) := by
  obtain ⟨p, e, R, s, m, args, below, meth, c, A, c0, s0, Q, ⟨hx, hb, hml, hown, hts, hK, hNw, hA, hZs, hfl, hfr, hlo, hRc, hRs, hSx⟩, rfl, rfl⟩ := C
  intro H locs ls hP hD hS hl
  exact lv_imul hx hb hdg (k H locs ls hP hD hS hl)
theorem r_iand (C : Cb l own cc nL G fr lo um J JX) {x y : Int32} (hdg : decode cc pc = .ok (.iand, 1)) (k : J X u (pc + 1) lv (.int (x &&& y) :: st)) : J X u pc lv (.int y :: .int x :: st) := by
  obtain ⟨p, e, R, s, m, args, below, meth, c, A, c0, s0, Q, ⟨hx, hb, hml, hown, hts, hK, hNw, hA, hZs, hfl, hfr, hlo, hRc, hRs, hSx⟩, rfl, rfl⟩ := C
  intro H locs ls hP hD hS hl
  exact lv_iand hx hb hdg (k H locs ls hP hD hS hl)
theorem r_ior (C : Cb l own cc nL G fr lo um J JX) {x y : Int32} (hdg : decode cc pc = .ok (.ior, 1)) (k : J X u (pc + 1) lv (.int (x ||| y) :: st)) : J X u pc lv (.int y :: .int x :: st) := by
  obtain ⟨p, e, R, s, m, args, below, meth, c, A, c0, s0, Q, ⟨hx, hb, hml, hown, hts, hK, hNw, hA, hZs, hfl, hfr, hlo, hRc, hRs, hSx⟩, rfl, rfl⟩ := C
  intro H locs ls hP hD hS hl
  exact lv_ior hx hb hdg (k H locs ls hP hD hS hl)
theorem r_ixor (C : Cb l own cc nL G fr lo um J JX) {x y : Int32} (hdg : decode cc pc = .ok (.ixor, 1)) (k : J X u (pc + 1) lv (.int (x ^^^ y) :: st)) : J X u pc lv (.int y :: .int x :: st) := by
  obtain ⟨p, e, R, s, m, args, below, meth, c, A, c0, s0, Q, ⟨hx, hb, hml, hown, hts, hK, hNw, hA, hZs, hfl, hfr, hlo, hRc, hRs, hSx⟩, rfl, rfl⟩ := C
  intro H locs ls hP hD hS hl
  exact lv_ixor hx hb hdg (k H locs ls hP hD hS hl)
theorem r_ishl (C : Cb l own cc nL G fr lo um J JX) {x y : Int32} (hdg : decode cc pc = .ok (.ishl, 1)) (k : J X u (pc + 1) lv (.int (x <<< (y &&& 31)) :: st)) : J X u pc lv (.int y :: .int x :: st) := by
  obtain ⟨p, e, R, s, m, args, below, meth, c, A, c0, s0, Q, ⟨hx, hb, hml, hown, hts, hK, hNw, hA, hZs, hfl, hfr, hlo, hRc, hRs, hSx⟩, rfl, rfl⟩ := C
  intro H locs ls hP hD hS hl
  exact lv_ishl hx hb hdg (k H locs ls hP hD hS hl)
theorem r_ishr (C : Cb l own cc nL G fr lo um J JX) {x y : Int32} (hdg : decode cc pc = .ok (.ishr, 1)) (k : J X u (pc + 1) lv (.int (x >>> (y &&& 31)) :: st)) : J X u pc lv (.int y :: .int x :: st) := by
  obtain ⟨p, e, R, s, m, args, below, meth, c, A, c0, s0, Q, ⟨hx, hb, hml, hown, hts, hK, hNw, hA, hZs, hfl, hfr, hlo, hRc, hRs, hSx⟩, rfl, rfl⟩ := C
  intro H locs ls hP hD hS hl
  exact lv_ishr hx hb hdg (k H locs ls hP hD hS hl)
theorem r_ladd (C : Cb l own cc nL G fr lo um J JX) {x y : Int64} (hdg : decode cc pc = .ok (.ladd, 1)) (k : J X u (pc + 1) lv (.long (x + y) :: st)) : J X u pc lv (.long y :: .long x :: st) := by
  obtain ⟨p, e, R, s, m, args, below, meth, c, A, c0, s0, Q, ⟨hx, hb, hml, hown, hts, hK, hNw, hA, hZs, hfl, hfr, hlo, hRc, hRs, hSx⟩, rfl, rfl⟩ := C
  intro H locs ls hP hD hS hl
  exact lv_ladd hx hb hdg (k H locs ls hP hD hS hl)
theorem r_lsub (C : Cb l own cc nL G fr lo um J JX) {x y : Int64} (hdg : decode cc pc = .ok (.lsub, 1)) (k : J X u (pc + 1) lv (.long (x - y) :: st)) : J X u pc lv (.long y :: .long x :: st) := by
  obtain ⟨p, e, R, s, m, args, below, meth, c, A, c0, s0, Q, ⟨hx, hb, hml, hown, hts, hK, hNw, hA, hZs, hfl, hfr, hlo, hRc, hRs, hSx⟩, rfl, rfl⟩ := C
  intro H locs ls hP hD hS hl
  exact lv_lsub hx hb hdg (k H locs ls hP hD hS hl)
theorem r_lmul (C : Cb l own cc nL G fr lo um J JX) {x y : Int64} (hdg : decode cc pc = .ok (.lmul, 1)) (k : J X u (pc + 1) lv (.long (x * y) :: st)) : J X u pc lv (.long y :: .long x :: st) := by
  obtain ⟨p, e, R, s, m, args, below, meth, c, A, c0, s0, Q, ⟨hx, hb, hml, hown, hts, hK, hNw, hA, hZs, hfl, hfr, hlo, hRc, hRs, hSx⟩, rfl, rfl⟩ := C
  intro H locs ls hP hD hS hl
  exact lv_lmul hx hb hdg (k H locs ls hP hD hS hl)
theorem r_land (C : Cb l own cc nL G fr lo um J JX) {x y : Int64} (hdg : decode cc pc = .ok (.land, 1)) (k : J X u (pc + 1) lv (.long (x &&& y) :: st)) : J X u pc lv (.long y :: .long x :: st) := by
  obtain ⟨p, e, R, s, m, args, below, meth, c, A, c0, s0, Q, ⟨hx, hb, hml, hown, hts, hK, hNw, hA, hZs, hfl, hfr, hlo, hRc, hRs, hSx⟩, rfl, rfl⟩ := C
  intro H locs ls hP hD hS hl
  exact lv_land hx hb hdg (k H locs ls hP hD hS hl)
theorem r_lor (C : Cb l own cc nL G fr lo um J JX) {x y : Int64} (hdg : decode cc pc = .ok (.lor, 1)) (k : J X u (pc + 1) lv (.long (x ||| y) :: st)) : J X u pc lv (.long y :: .long x :: st) := by
  obtain ⟨p, e, R, s, m, args, below, meth, c, A, c0, s0, Q, ⟨hx, hb, hml, hown, hts, hK, hNw, hA, hZs, hfl, hfr, hlo, hRc, hRs, hSx⟩, rfl, rfl⟩ := C
  intro H locs ls hP hD hS hl
  exact lv_lor hx hb hdg (k H locs ls hP hD hS hl)
theorem r_idiv (C : Cb l own cc nL G fr lo um J JX) {x y : Int32} (hdg : decode cc pc = .ok (.idiv, 1)) (hne : ¬ y = 0) (k : J X u (pc + 1) lv (.int (x / y) :: st)) : J X u pc lv (.int y :: .int x :: st) := by
  obtain ⟨p, e, R, s, m, args, below, meth, c, A, c0, s0, Q, ⟨hx, hb, hml, hown, hts, hK, hNw, hA, hZs, hfl, hfr, hlo, hRc, hRs, hSx⟩, rfl, rfl⟩ := C
  intro H locs ls hP hD hS hl
  exact lv_idiv hx hb hdg hne (k H locs ls hP hD hS hl)
theorem r_irem (C : Cb l own cc nL G fr lo um J JX) {x y : Int32} (hdg : decode cc pc = .ok (.irem, 1)) (hne : ¬ y = 0) (k : J X u (pc + 1) lv (.int (x - x / y * y) :: st)) : J X u pc lv (.int y :: .int x :: st) := by
  obtain ⟨p, e, R, s, m, args, below, meth, c, A, c0, s0, Q, ⟨hx, hb, hml, hown, hts, hK, hNw, hA, hZs, hfl, hfr, hlo, hRc, hRs, hSx⟩, rfl, rfl⟩ := C
  intro H locs ls hP hD hS hl
  exact lv_irem hx hb hdg hne (k H locs ls hP hD hS hl)
theorem r_ineg (C : Cb l own cc nL G fr lo um J JX) {x : Int32} (hdg : decode cc pc = .ok (.ineg, 1)) (k : J X u (pc + 1) lv (.int (-x) :: st)) : J X u pc lv (.int x :: st) := by
  obtain ⟨p, e, R, s, m, args, below, meth, c, A, c0, s0, Q, ⟨hx, hb, hml, hown, hts, hK, hNw, hA, hZs, hfl, hfr, hlo, hRc, hRs, hSx⟩, rfl, rfl⟩ := C
  intro H locs ls hP hD hS hl
  exact lv_ineg hx hb hdg (k H locs ls hP hD hS hl)
theorem r_i2l (C : Cb l own cc nL G fr lo um J JX) {x : Int32} (hdg : decode cc pc = .ok (.i2l, 1)) (k : J X u (pc + 1) lv (.long x.toInt64 :: st)) : J X u pc lv (.int x :: st) := by
  obtain ⟨p, e, R, s, m, args, below, meth, c, A, c0, s0, Q, ⟨hx, hb, hml, hown, hts, hK, hNw, hA, hZs, hfl, hfr, hlo, hRc, hRs, hSx⟩, rfl, rfl⟩ := C
  intro H locs ls hP hD hS hl
  exact lv_i2l hx hb hdg rfl (k H locs ls hP hD hS hl)
theorem r_l2i (C : Cb l own cc nL G fr lo um J JX) {x : Int64} (hdg : decode cc pc = .ok (.l2i, 1)) (k : J X u (pc + 1) lv (.int x.toInt32 :: st)) : J X u pc lv (.long x :: st) := by
  obtain ⟨p, e, R, s, m, args, below, meth, c, A, c0, s0, Q, ⟨hx, hb, hml, hown, hts, hK, hNw, hA, hZs, hfl, hfr, hlo, hRc, hRs, hSx⟩, rfl, rfl⟩ := C
  intro H locs ls hP hD hS hl
  exact lv_l2i hx hb hdg rfl (k H locs ls hP hD hS hl)
theorem r_iushr (C : Cb l own cc nL G fr lo um J JX) {x y v : Int32} (hdg : decode cc pc = .ok (.iushr, 1)) (hv : (x.toUInt32 >>> (y.toUInt32 &&& Int32.toUInt32 31)).toInt32 = v) (k : J X u (pc + 1) lv (.int v :: st)) : J X u pc lv (.int y :: .int x :: st) := by
  obtain ⟨p, e, R, s, m, args, below, meth, c, A, c0, s0, Q, ⟨hx, hb, hml, hown, hts, hK, hNw, hA, hZs, hfl, hfr, hlo, hRc, hRs, hSx⟩, rfl, rfl⟩ := C
  intro H locs ls hP hD hS hl
  exact lv_iushr hx hb hdg hv (k H locs ls hP hD hS hl)
theorem r_lshl (C : Cb l own cc nL G fr lo um J JX) {x : Int64} {y : Int32} (hdg : decode cc pc = .ok (.lshl, 1)) (k : J X u (pc + 1) lv (.long (x <<< (y.toInt64 &&& 63)) :: st)) : J X u pc lv (.int y :: .long x :: st) := by
  obtain ⟨p, e, R, s, m, args, below, meth, c, A, c0, s0, Q, ⟨hx, hb, hml, hown, hts, hK, hNw, hA, hZs, hfl, hfr, hlo, hRc, hRs, hSx⟩, rfl, rfl⟩ := C
  intro H locs ls hP hD hS hl
  exact lv_lshl hx hb hdg rfl (k H locs ls hP hD hS hl)
theorem r_lshr (C : Cb l own cc nL G fr lo um J JX) {x : Int64} {y : Int32} (hdg : decode cc pc = .ok (.lshr, 1)) (k : J X u (pc + 1) lv (.long (x >>> (y.toInt64 &&& 63)) :: st)) : J X u pc lv (.int y :: .long x :: st) := by
  obtain ⟨p, e, R, s, m, args, below, meth, c, A, c0, s0, Q, ⟨hx, hb, hml, hown, hts, hK, hNw, hA, hZs, hfl, hfr, hlo, hRc, hRs, hSx⟩, rfl, rfl⟩ := C
  intro H locs ls hP hD hS hl
  exact lv_lshr hx hb hdg rfl (k H locs ls hP hD hS hl)
theorem r_lcmp (C : Cb l own cc nL G fr lo um J JX) {x y : Int64} (hdg : decode cc pc = .ok (.lcmp, 1)) (k : J X u (pc + 1) lv (.int (lg_cmp x y) :: st)) : J X u pc lv (.long y :: .long x :: st) := by
  obtain ⟨p, e, R, s, m, args, below, meth, c, A, c0, s0, Q, ⟨hx, hb, hml, hown, hts, hK, hNw, hA, hZs, hfl, hfr, hlo, hRc, hRs, hSx⟩, rfl, rfl⟩ := C
  intro H locs ls hP hD hS hl
  exact W.lcmp hx hb hdg (k H locs ls hP hD hS hl)
theorem r_dup (C : Cb l own cc nL G fr lo um J JX) {v : Value} (hdg : decode cc pc = .ok (.dup, 1)) (hc : v.category = 1) (k : J X u (pc + 1) lv (v :: v :: st)) : J X u pc lv (v :: st) := by
  obtain ⟨p, e, R, s, m, args, below, meth, c, A, c0, s0, Q, ⟨hx, hb, hml, hown, hts, hK, hNw, hA, hZs, hfl, hfr, hlo, hRc, hRs, hSx⟩, rfl, rfl⟩ := C
  intro H locs ls hP hD hS hl
  exact lv_dup hx hb hdg hc (k H locs ls hP hD hS hl)
theorem r_dup2 (C : Cb l own cc nL G fr lo um J JX) {v w : Value} (hdg : decode cc pc = .ok (.dup2, 1)) (hc : v.category = 1) (hc2 : w.category = 1) (k : J X u (pc + 1) lv (v :: w :: v :: w :: st)) : J X u pc lv (v :: w :: st) := by
  obtain ⟨p, e, R, s, m, args, below, meth, c, A, c0, s0, Q, ⟨hx, hb, hml, hown, hts, hK, hNw, hA, hZs, hfl, hfr, hlo, hRc, hRs, hSx⟩, rfl, rfl⟩ := C
  intro H locs ls hP hD hS hl
  exact lv_dup2_11 hx hb hdg hc hc2 (k H locs ls hP hD hS hl)
theorem r_i2d (C : Cb l own cc nL G fr lo um J JX) {x : Int32} (hdg : decode cc pc = .ok (.i2d, 1)) (k : J X u (pc + 1) lv (.double (FP.i2d x) :: st)) : J X u pc lv (.int x :: st) := by
  obtain ⟨p, e, R, s, m, args, below, meth, c, A, c0, s0, Q, ⟨hx, hb, hml, hown, hts, hK, hNw, hA, hZs, hfl, hfr, hlo, hRc, hRs, hSx⟩, rfl, rfl⟩ := C
  intro H locs ls hP hD hS hl
  exact lv_i2d hx hb hdg (k H locs ls hP hD hS hl)
theorem r_d2i (C : Cb l own cc nL G fr lo um J JX) {x : UInt64} (hdg : decode cc pc = .ok (.d2i, 1)) (k : J X u (pc + 1) lv (.int (FP.d2i x) :: st)) : J X u pc lv (.double x :: st) := by
  obtain ⟨p, e, R, s, m, args, below, meth, c, A, c0, s0, Q, ⟨hx, hb, hml, hown, hts, hK, hNw, hA, hZs, hfl, hfr, hlo, hRc, hRs, hSx⟩, rfl, rfl⟩ := C
  intro H locs ls hP hD hS hl
  exact lv_d2i hx hb hdg (k H locs ls hP hD hS hl)
theorem r_d2l (C : Cb l own cc nL G fr lo um J JX) {x : UInt64} (hdg : decode cc pc = .ok (.d2l, 1)) (k : J X u (pc + 1) lv (.long (FP.d2l x) :: st)) : J X u pc lv (.double x :: st) := by
  obtain ⟨p, e, R, s, m, args, below, meth, c, A, c0, s0, Q, ⟨hx, hb, hml, hown, hts, hK, hNw, hA, hZs, hfl, hfr, hlo, hRc, hRs, hSx⟩, rfl, rfl⟩ := C
  intro H locs ls hP hD hS hl
  exact lv_d2l hx hb hdg (k H locs ls hP hD hS hl)
theorem r_dneg (C : Cb l own cc nL G fr lo um J JX) {x : UInt64} (hdg : decode cc pc = .ok (.dneg, 1)) (k : J X u (pc + 1) lv (.double (FP.dneg x) :: st)) : J X u pc lv (.double x :: st) := by
  obtain ⟨p, e, R, s, m, args, below, meth, c, A, c0, s0, Q, ⟨hx, hb, hml, hown, hts, hK, hNw, hA, hZs, hfl, hfr, hlo, hRc, hRs, hSx⟩, rfl, rfl⟩ := C
  intro H locs ls hP hD hS hl
  exact lv_dneg hx hb hdg (k H locs ls hP hD hS hl)
theorem r_dcmp (C : Cb l own cc nL G fr lo um J JX) {x y : UInt64} {op : CmpOp} (hdg : decode cc pc = .ok (.dcmp op, 1)) (k : J X u (pc + 1) lv (.int (Op.cmpValue (FP.dcmp x y) op) :: st)) : J X u pc lv (.double y :: .double x :: st) := by
  obtain ⟨p, e, R, s, m, args, below, meth, c, A, c0, s0, Q, ⟨hx, hb, hml, hown, hts, hK, hNw, hA, hZs, hfl, hfr, hlo, hRc, hRs, hSx⟩, rfl, rfl⟩ := C
  intro H locs ls hP hD hS hl
  exact lv_dcmp hx hb hdg (k H locs ls hP hD hS hl)
theorem r_dadd (C : Cb l own cc nL G fr lo um J JX) {x y : UInt64} (hdg : decode cc pc = .ok (.dadd, 1)) (hne : vf_n64 (FP.dadd x y)) (k : J X u (pc + 1) lv (.double (FP.dadd x y) :: st)) : J X u pc lv (.double y :: .double x :: st) := by
  obtain ⟨p, e, R, s, m, args, below, meth, c, A, c0, s0, Q, ⟨hx, hb, hml, hown, hts, hK, hNw, hA, hZs, hfl, hfr, hlo, hRc, hRs, hSx⟩, rfl, rfl⟩ := C
  intro H locs ls hP hD hS hl
  exact lv_dadd hx hb hdg hne (k H locs ls hP hD hS hl)
theorem r_dsub (C : Cb l own cc nL G fr lo um J JX) {x y : UInt64} (hdg : decode cc pc = .ok (.dsub, 1)) (hne : vf_n64 (FP.dsub x y)) (k : J X u (pc + 1) lv (.double (FP.dsub x y) :: st)) : J X u pc lv (.double y :: .double x :: st) := by
  obtain ⟨p, e, R, s, m, args, below, meth, c, A, c0, s0, Q, ⟨hx, hb, hml, hown, hts, hK, hNw, hA, hZs, hfl, hfr, hlo, hRc, hRs, hSx⟩, rfl, rfl⟩ := C
  intro H locs ls hP hD hS hl
  exact lv_dsub hx hb hdg hne (k H locs ls hP hD hS hl)
theorem r_dmul (C : Cb l own cc nL G fr lo um J JX) {x y : UInt64} (hdg : decode cc pc = .ok (.dmul, 1)) (hne : vf_n64 (FP.dmul x y)) (k : J X u (pc + 1) lv (.double (FP.dmul x y) :: st)) : J X u pc lv (.double y :: .double x :: st) := by
  obtain ⟨p, e, R, s, m, args, below, meth, c, A, c0, s0, Q, ⟨hx, hb, hml, hown, hts, hK, hNw, hA, hZs, hfl, hfr, hlo, hRc, hRs, hSx⟩, rfl, rfl⟩ := C
  intro H locs ls hP hD hS hl
  exact lv_dmul hx hb hdg hne (k H locs ls hP hD hS hl)
theorem r_ddiv (C : Cb l own cc nL G fr lo um J JX) {x y : UInt64} (hdg : decode cc pc = .ok (.ddiv, 1)) (hne : vf_n64 (FP.ddiv x y)) (k : J X u (pc + 1) lv (.double (FP.ddiv x y) :: st)) : J X u pc lv (.double y :: .double x :: st) := by
  obtain ⟨p, e, R, s, m, args, below, meth, c, A, c0, s0, Q, ⟨hx, hb, hml, hown, hts, hK, hNw, hA, hZs, hfl, hfr, hlo, hRc, hRs, hSx⟩, rfl, rfl⟩ := C
  intro H locs ls hP hD hS hl
  exact lv_ddiv hx hb hdg hne (k H locs ls hP hD hS hl)
theorem r_dconst0 (C : Cb l own cc nL G fr lo um J JX) (hdg : decode cc pc = .ok (.dconst 0, 1)) (k : J X u (pc + 1) lv (.double (FP.dconst0) :: st)) : J X u pc lv (st) := by
  obtain ⟨p, e, R, s, m, args, below, meth, c, A, c0, s0, Q, ⟨hx, hb, hml, hown, hts, hK, hNw, hA, hZs, hfl, hfr, hlo, hRc, hRs, hSx⟩, rfl, rfl⟩ := C
  intro H locs ls hP hD hS hl
  exact lv_dconst0 hx hb hdg (k H locs ls hP hD hS hl)
theorem r_dconst1 (C : Cb l own cc nL G fr lo um J JX) (hdg : decode cc pc = .ok (.dconst 1, 1)) (k : J X u (pc + 1) lv (.double (FP.dconst1) :: st)) : J X u pc lv (st) := by
  obtain ⟨p, e, R, s, m, args, below, meth, c, A, c0, s0, Q, ⟨hx, hb, hml, hown, hts, hK, hNw, hA, hZs, hfl, hfr, hlo, hRc, hRs, hSx⟩, rfl, rfl⟩ := C
  intro H locs ls hP hD hS hl
  exact lv_dconst1 hx hb hdg (k H locs ls hP hD hS hl)
theorem r_ldc (C : Cb l own cc nL G fr lo um J JX) {index : Nat} {v : Int32} (hdg : decode cc pc = .ok (.ldc index, 2)) (hc : Cond.constant own index v ∈ lw_all) (k : J X u (pc + 2) lv (.int v :: st)) : J X u pc lv (st) := by
  obtain ⟨p, e, R, s, m, args, below, meth, c, A, c0, s0, Q, ⟨hx, hb, hml, hown, hts, hK, hNw, hA, hZs, hfl, hfr, hlo, hRc, hRs, hSx⟩, rfl, rfl⟩ := C
  intro H locs ls hP hD hS hl
  exact lv_ldc hx hb hown (hts _ hc) hdg (k H locs ls hP hD hS hl)
theorem r_ldcw (C : Cb l own cc nL G fr lo um J JX) {index : Nat} {v : Int32} (hdg : decode cc pc = .ok (.ldc_w index, 3)) (hc : Cond.constant own index v ∈ lw_all) (k : J X u (pc + 3) lv (.int v :: st)) : J X u pc lv (st) := by
  obtain ⟨p, e, R, s, m, args, below, meth, c, A, c0, s0, Q, ⟨hx, hb, hml, hown, hts, hK, hNw, hA, hZs, hfl, hfr, hlo, hRc, hRs, hSx⟩, rfl, rfl⟩ := C
  intro H locs ls hP hD hS hl
  exact lv_ldcw hx hb hown (hts _ hc) hdg (k H locs ls hP hD hS hl)
theorem r_ldc2 (C : Cb l own cc nL G fr lo um J JX) {index : Nat} {v : Int64} (hdg : decode cc pc = .ok (.ldc2_w index, 3)) (hc : Cond.constantLong own index v ∈ lw_all) (k : J X u (pc + 3) lv (.long v :: st)) : J X u pc lv (st) := by
  obtain ⟨p, e, R, s, m, args, below, meth, c, A, c0, s0, Q, ⟨hx, hb, hml, hown, hts, hK, hNw, hA, hZs, hfl, hfr, hlo, hRc, hRs, hSx⟩, rfl, rfl⟩ := C
  intro H locs ls hP hD hS hl
  exact lv_ldc2 hx hb hown (hts _ hc) hdg (k H locs ls hP hD hS hl)
theorem r_ldc2d (C : Cb l own cc nL G fr lo um J JX) {index : Nat} {v : UInt64} (hdg : decode cc pc = .ok (.ldc2_w index, 3)) (hc : Cond.constantDouble own index v ∈ lw_all) (k : J X u (pc + 3) lv (.double v :: st)) : J X u pc lv (st) := by
  obtain ⟨p, e, R, s, m, args, below, meth, c, A, c0, s0, Q, ⟨hx, hb, hml, hown, hts, hK, hNw, hA, hZs, hfl, hfr, hlo, hRc, hRs, hSx⟩, rfl, rfl⟩ := C
  intro H locs ls hP hD hS hl
  exact lv_ldc2d hx hb hown (hts _ hc) hdg (k H locs ls hP hD hS hl)
theorem r_iinc (C : Cb l own cc nL G fr lo um J JX) {i : Nat} {n : Int} {x v : Int32} (hdg : decode cc pc = .ok (.iinc i n, 3)) (hf : afind lv i = some (.int x)) (hv : x + Int32.ofInt n = v) (k : J X u (pc + 3) ((i, .int v) :: lv) st) : J X u pc lv st := by
  obtain ⟨p, e, R, s, m, args, below, meth, c, A, c0, s0, Q, ⟨hx, hb, hml, hown, hts, hK, hNw, hA, hZs, hfl, hfr, hlo, hRc, hRs, hSx⟩, rfl, rfl⟩ := C
  intro H locs ls hP hD hS hl
  have hm := alist_mem hl hf
  obtain ⟨k9, hk9⟩ := List.getElem?_of_mem hm
  exact lv_iinc hx hb hdg (alist_has hl) hk9 hv (lvOk_lt hl hf) rfl (fun ls9 h9 => k H locs ls9 hP hD hS (lvOk_put1 hl rfl h9))
theorem r_goto (C : Cb l own cc nL G fr lo um J JX) {off : Int} {tgt : Nat} (hdg : decode cc pc = .ok (.goto off, 3)) (ht : (pc : Int) + off = (tgt : Int)) (k : J X u tgt lv st) : J X u pc lv st := by
  obtain ⟨p, e, R, s, m, args, below, meth, c, A, c0, s0, Q, ⟨hx, hb, hml, hown, hts, hK, hNw, hA, hZs, hfl, hfr, hlo, hRc, hRs, hSx⟩, rfl, rfl⟩ := C
  intro H locs ls hP hD hS hl
  exact lv_goto hx hb hdg ht (k H locs ls hP hD hS hl)
theorem r_if_eq (C : Cb l own cc nL G fr lo um J JX) {x : Int32} {off : Int} {tgt : Nat} (hdg : decode cc pc = .ok (.ifCond .eq off, 3)) (ht : (pc : Int) + off = (tgt : Int)) (kt : x = 0 → J X u tgt lv st) (kf : ¬ x = 0 → J X u (pc + 3) lv st) : J X u pc lv (.int x :: st) := by
  obtain ⟨p, e, R, s, m, args, below, meth, c, A, c0, s0, Q, ⟨hx, hb, hml, hown, hts, hK, hNw, hA, hZs, hfl, hfr, hlo, hRc, hRs, hSx⟩, rfl, rfl⟩ := C
  intro H locs ls hP hD hS hl
  exact lv_if_eq hx hb hdg ht (fun q => kt q H locs ls hP hD hS hl) (fun q => kf q H locs ls hP hD hS hl)
theorem r_icmp_eq (C : Cb l own cc nL G fr lo um J JX) {x y : Int32} {off : Int} {tgt : Nat} (hdg : decode cc pc = .ok (.if_icmp .eq off, 3)) (ht : (pc : Int) + off = (tgt : Int)) (kt : x = y → J X u tgt lv st) (kf : ¬ x = y → J X u (pc + 3) lv st) : J X u pc lv (.int y :: .int x :: st) := by
  obtain ⟨p, e, R, s, m, args, below, meth, c, A, c0, s0, Q, ⟨hx, hb, hml, hown, hts, hK, hNw, hA, hZs, hfl, hfr, hlo, hRc, hRs, hSx⟩, rfl, rfl⟩ := C
  intro H locs ls hP hD hS hl
  exact lv_icmp_eq hx hb hdg ht (fun q => kt q H locs ls hP hD hS hl) (fun q => kf q H locs ls hP hD hS hl)
theorem r_if_ne (C : Cb l own cc nL G fr lo um J JX) {x : Int32} {off : Int} {tgt : Nat} (hdg : decode cc pc = .ok (.ifCond .ne off, 3)) (ht : (pc : Int) + off = (tgt : Int)) (kt : ¬ x = 0 → J X u tgt lv st) (kf : x = 0 → J X u (pc + 3) lv st) : J X u pc lv (.int x :: st) := by
  obtain ⟨p, e, R, s, m, args, below, meth, c, A, c0, s0, Q, ⟨hx, hb, hml, hown, hts, hK, hNw, hA, hZs, hfl, hfr, hlo, hRc, hRs, hSx⟩, rfl, rfl⟩ := C
  intro H locs ls hP hD hS hl
  exact lv_if_ne hx hb hdg ht (fun q => kt q H locs ls hP hD hS hl) (fun q => kf q H locs ls hP hD hS hl)
theorem r_icmp_ne (C : Cb l own cc nL G fr lo um J JX) {x y : Int32} {off : Int} {tgt : Nat} (hdg : decode cc pc = .ok (.if_icmp .ne off, 3)) (ht : (pc : Int) + off = (tgt : Int)) (kt : ¬ x = y → J X u tgt lv st) (kf : x = y → J X u (pc + 3) lv st) : J X u pc lv (.int y :: .int x :: st) := by
  obtain ⟨p, e, R, s, m, args, below, meth, c, A, c0, s0, Q, ⟨hx, hb, hml, hown, hts, hK, hNw, hA, hZs, hfl, hfr, hlo, hRc, hRs, hSx⟩, rfl, rfl⟩ := C
  intro H locs ls hP hD hS hl
  exact lv_icmp_ne hx hb hdg ht (fun q => kt q H locs ls hP hD hS hl) (fun q => kf q H locs ls hP hD hS hl)
theorem r_if_lt (C : Cb l own cc nL G fr lo um J JX) {x : Int32} {off : Int} {tgt : Nat} (hdg : decode cc pc = .ok (.ifCond .lt off, 3)) (ht : (pc : Int) + off = (tgt : Int)) (kt : x < 0 → J X u tgt lv st) (kf : ¬ x < 0 → J X u (pc + 3) lv st) : J X u pc lv (.int x :: st) := by
  obtain ⟨p, e, R, s, m, args, below, meth, c, A, c0, s0, Q, ⟨hx, hb, hml, hown, hts, hK, hNw, hA, hZs, hfl, hfr, hlo, hRc, hRs, hSx⟩, rfl, rfl⟩ := C
  intro H locs ls hP hD hS hl
  exact lv_if_lt hx hb hdg ht (fun q => kt q H locs ls hP hD hS hl) (fun q => kf q H locs ls hP hD hS hl)
theorem r_icmp_lt (C : Cb l own cc nL G fr lo um J JX) {x y : Int32} {off : Int} {tgt : Nat} (hdg : decode cc pc = .ok (.if_icmp .lt off, 3)) (ht : (pc : Int) + off = (tgt : Int)) (kt : x < y → J X u tgt lv st) (kf : ¬ x < y → J X u (pc + 3) lv st) : J X u pc lv (.int y :: .int x :: st) := by
  obtain ⟨p, e, R, s, m, args, below, meth, c, A, c0, s0, Q, ⟨hx, hb, hml, hown, hts, hK, hNw, hA, hZs, hfl, hfr, hlo, hRc, hRs, hSx⟩, rfl, rfl⟩ := C
  intro H locs ls hP hD hS hl
  exact lv_icmp_lt hx hb hdg ht (fun q => kt q H locs ls hP hD hS hl) (fun q => kf q H locs ls hP hD hS hl)
theorem r_if_ge (C : Cb l own cc nL G fr lo um J JX) {x : Int32} {off : Int} {tgt : Nat} (hdg : decode cc pc = .ok (.ifCond .ge off, 3)) (ht : (pc : Int) + off = (tgt : Int)) (kt : 0 ≤ x → J X u tgt lv st) (kf : ¬ 0 ≤ x → J X u (pc + 3) lv st) : J X u pc lv (.int x :: st) := by
  obtain ⟨p, e, R, s, m, args, below, meth, c, A, c0, s0, Q, ⟨hx, hb, hml, hown, hts, hK, hNw, hA, hZs, hfl, hfr, hlo, hRc, hRs, hSx⟩, rfl, rfl⟩ := C
  intro H locs ls hP hD hS hl
  exact lv_if_ge hx hb hdg ht (fun q => kt q H locs ls hP hD hS hl) (fun q => kf q H locs ls hP hD hS hl)
theorem r_icmp_ge (C : Cb l own cc nL G fr lo um J JX) {x y : Int32} {off : Int} {tgt : Nat} (hdg : decode cc pc = .ok (.if_icmp .ge off, 3)) (ht : (pc : Int) + off = (tgt : Int)) (kt : y ≤ x → J X u tgt lv st) (kf : ¬ y ≤ x → J X u (pc + 3) lv st) : J X u pc lv (.int y :: .int x :: st) := by
  obtain ⟨p, e, R, s, m, args, below, meth, c, A, c0, s0, Q, ⟨hx, hb, hml, hown, hts, hK, hNw, hA, hZs, hfl, hfr, hlo, hRc, hRs, hSx⟩, rfl, rfl⟩ := C
  intro H locs ls hP hD hS hl
  exact lv_icmp_ge hx hb hdg ht (fun q => kt q H locs ls hP hD hS hl) (fun q => kf q H locs ls hP hD hS hl)
theorem r_if_gt (C : Cb l own cc nL G fr lo um J JX) {x : Int32} {off : Int} {tgt : Nat} (hdg : decode cc pc = .ok (.ifCond .gt off, 3)) (ht : (pc : Int) + off = (tgt : Int)) (kt : 0 < x → J X u tgt lv st) (kf : ¬ 0 < x → J X u (pc + 3) lv st) : J X u pc lv (.int x :: st) := by
  obtain ⟨p, e, R, s, m, args, below, meth, c, A, c0, s0, Q, ⟨hx, hb, hml, hown, hts, hK, hNw, hA, hZs, hfl, hfr, hlo, hRc, hRs, hSx⟩, rfl, rfl⟩ := C
  intro H locs ls hP hD hS hl
  exact lv_if_gt hx hb hdg ht (fun q => kt q H locs ls hP hD hS hl) (fun q => kf q H locs ls hP hD hS hl)
theorem r_icmp_gt (C : Cb l own cc nL G fr lo um J JX) {x y : Int32} {off : Int} {tgt : Nat} (hdg : decode cc pc = .ok (.if_icmp .gt off, 3)) (ht : (pc : Int) + off = (tgt : Int)) (kt : y < x → J X u tgt lv st) (kf : ¬ y < x → J X u (pc + 3) lv st) : J X u pc lv (.int y :: .int x :: st) := by
  obtain ⟨p, e, R, s, m, args, below, meth, c, A, c0, s0, Q, ⟨hx, hb, hml, hown, hts, hK, hNw, hA, hZs, hfl, hfr, hlo, hRc, hRs, hSx⟩, rfl, rfl⟩ := C
  intro H locs ls hP hD hS hl
  exact lv_icmp_gt hx hb hdg ht (fun q => kt q H locs ls hP hD hS hl) (fun q => kf q H locs ls hP hD hS hl)
theorem r_if_le (C : Cb l own cc nL G fr lo um J JX) {x : Int32} {off : Int} {tgt : Nat} (hdg : decode cc pc = .ok (.ifCond .le off, 3)) (ht : (pc : Int) + off = (tgt : Int)) (kt : x ≤ 0 → J X u tgt lv st) (kf : ¬ x ≤ 0 → J X u (pc + 3) lv st) : J X u pc lv (.int x :: st) := by
  obtain ⟨p, e, R, s, m, args, below, meth, c, A, c0, s0, Q, ⟨hx, hb, hml, hown, hts, hK, hNw, hA, hZs, hfl, hfr, hlo, hRc, hRs, hSx⟩, rfl, rfl⟩ := C
  intro H locs ls hP hD hS hl
  exact lv_if_le hx hb hdg ht (fun q => kt q H locs ls hP hD hS hl) (fun q => kf q H locs ls hP hD hS hl)
theorem r_icmp_le (C : Cb l own cc nL G fr lo um J JX) {x y : Int32} {off : Int} {tgt : Nat} (hdg : decode cc pc = .ok (.if_icmp .le off, 3)) (ht : (pc : Int) + off = (tgt : Int)) (kt : x ≤ y → J X u tgt lv st) (kf : ¬ x ≤ y → J X u (pc + 3) lv st) : J X u pc lv (.int y :: .int x :: st) := by
  obtain ⟨p, e, R, s, m, args, below, meth, c, A, c0, s0, Q, ⟨hx, hb, hml, hown, hts, hK, hNw, hA, hZs, hfl, hfr, hlo, hRc, hRs, hSx⟩, rfl, rfl⟩ := C
  intro H locs ls hP hD hS hl
  exact lv_icmp_le hx hb hdg ht (fun q => kt q H locs ls hP hD hS hl) (fun q => kf q H locs ls hP hD hS hl)
theorem r_sub (C : Cb l own cc nL G fr lo um J JX) {lv' : List (Nat × Value)} (hs : lvSub lv lv') (k : J X u pc lv' st) : J X u pc lv st := by
  obtain ⟨p, e, R, s, m, args, below, meth, c, A, c0, s0, Q, ⟨hx, hb, hml, hown, hts, hK, hNw, hA, hZs, hfl, hfr, hlo, hRc, hRs, hSx⟩, rfl, rfl⟩ := C
  intro H locs ls hP hD hS hl
  exact k H locs ls hP hD hS (lvOk_sub hl hs)
theorem r_topi {J : JT} {X : St} {u pc : Nat} {lv : List (Nat × Value)} {st : List Value} {x y : Int32} (h : x = y) (k : J X u pc lv (.int y :: st)) : J X u pc lv (.int x :: st) := h ▸ k
theorem r_topl {J : JT} {X : St} {u pc : Nat} {lv : List (Nat × Value)} {st : List Value} {x y : Int64} (h : x = y) (k : J X u pc lv (.long y :: st)) : J X u pc lv (.long x :: st) := h ▸ k
theorem r_topd {J : JT} {X : St} {u pc : Nat} {lv : List (Nat × Value)} {st : List Value} {x y : UInt64} (h : x = y) (k : J X u pc lv (.double y :: st)) : J X u pc lv (.double x :: st) := h ▸ k
theorem r_top2 {J : JT} {X : St} {u pc : Nat} {lv : List (Nat × Value)} {st : List Value} {w : Value} {x y : Int32} (h : x = y) (k : J X u pc lv (w :: .int y :: st)) : J X u pc lv (w :: .int x :: st) := h ▸ k
theorem r_st {J : JT} {X Y : St} {u pc : Nat} {lv : List (Nat × Value)} {st : List Value} (h : X = Y) (k : J Y u pc lv st) : J X u pc lv st := h ▸ k

theorem r_geti (C : Cb l own cc nL G fr lo um J JX) {k index ci N : Nat} {ref C0 : String} {T : u_T} {fs : List (Option (Option Nat))} (j : Nat) (hj : fs[j]? = some none) (hw : ∀ w ∈ u_ws C0 T N, w ∈ lw_all) (hjN : j < N) (hc : ncl[ci]? = some (C0, T, N)) (hr : ref = (T j).1) (hlk : Cond.fieldLink own index ref (T j).2.1 (T j).2.2.1 ∈ lw_all) (hdg : decode cc pc = .ok (.getfield index, 3)) (hk : k < 36 + Gn G) (hlay : lay k = (0, ci, fs)) (kk : J X u (pc + 3) lv (.int (Zm X k j) :: st)) : J X u pc lv (.ref (G.2.1 k) :: st) := by
  obtain ⟨p, e, R, s, m, args, below, meth, c, A, c0, s0, Q, ⟨hx, hb, hml, hown, hts, hK, hNw, hA, hZs, hfl, hfr, hlo, hRc, hRs, hSx⟩, rfl, rfl⟩ := C
  intro H locs ls hP hD hS hl
  have hq := wsX_get G X hk
  rw [sE_o G X hlay] at hq
  subst hr
  exact va_get (D := G.1) (C := C0) (T := T) (N := N) hx hb hts hw hown hK hP k hq hc j hjN (hts _ hlk) (fun _ h9 => h9) (by have h9 := fvs_n G X k fs 0 j hj; rw [Nat.zero_add] at h9; exact h9) hdg (kk H locs ls hP hD hS hl)
theorem r_getr (C : Cb l own cc nL G fr lo um J JX) {k index ci N : Nat} {ref C0 : String} {T : u_T} {fs : List (Option (Option Nat))} (j : Nat) {t : Nat} (hj : fs[j]? = some (some (some t))) (hw : ∀ w ∈ u_ws C0 T N, w ∈ lw_all) (hjN : j < N) (hc : ncl[ci]? = some (C0, T, N)) (hr : ref = (T j).1) (hlk : Cond.fieldLink own index ref (T j).2.1 (T j).2.2.1 ∈ lw_all) (hdg : decode cc pc = .ok (.getfield index, 3)) (hk : k < 36 + Gn G) (hlay : lay k = (0, ci, fs)) (kk : J X u (pc + 3) lv (.ref (G.2.1 t) :: st)) : J X u pc lv (.ref (G.2.1 k) :: st) := by
  obtain ⟨p, e, R, s, m, args, below, meth, c, A, c0, s0, Q, ⟨hx, hb, hml, hown, hts, hK, hNw, hA, hZs, hfl, hfr, hlo, hRc, hRs, hSx⟩, rfl, rfl⟩ := C
  intro H locs ls hP hD hS hl
  have hq := wsX_get G X hk
  rw [sE_o G X hlay] at hq
  subst hr
  exact va_get (D := G.1) (C := C0) (T := T) (N := N) hx hb hts hw hown hK hP k hq hc j hjN (hts _ hlk) (fun _ h9 => h9) (fvs_r G X k t fs 0 j hj) hdg (kk H locs ls hP hD hS hl)
theorem r_getm (C : Cb l own cc nL G fr lo um J JX) {k index ci N : Nat} {ref C0 : String} {T : u_T} {fs : List (Option (Option Nat))} (j : Nat) (hj : fs[j]? = some (some none)) (hw : ∀ w ∈ u_ws C0 T N, w ∈ lw_all) (hjN : j < N) (hc : ncl[ci]? = some (C0, T, N)) (hr : ref = (T j).1) (hlk : Cond.fieldLink own index ref (T j).2.1 (T j).2.2.1 ∈ lw_all) (hdg : decode cc pc = .ok (.getfield index, 3)) (hk : k < 36 + Gn G) (hlay : lay k = (0, ci, fs)) (kk : J X u (pc + 3) lv (.ref (G.2.1 (Zf X k j)) :: st)) : J X u pc lv (.ref (G.2.1 k) :: st) := by
  obtain ⟨p, e, R, s, m, args, below, meth, c, A, c0, s0, Q, ⟨hx, hb, hml, hown, hts, hK, hNw, hA, hZs, hfl, hfr, hlo, hRc, hRs, hSx⟩, rfl, rfl⟩ := C
  intro H locs ls hP hD hS hl
  have hq := wsX_get G X hk
  rw [sE_o G X hlay] at hq
  subst hr
  exact va_get (D := G.1) (C := C0) (T := T) (N := N) hx hb hts hw hown hK hP k hq hc j hjN (hts _ hlk) (fun _ h9 => h9) (by have h9 := fvs_m G X k fs 0 j hj; rw [Nat.zero_add] at h9; exact h9) hdg (kk H locs ls hP hD hS hl)
theorem r_puti (C : Cb l own cc nL G fr lo um J JX) {k index ci N : Nat} {ref C0 : String} {T : u_T} {fs : List (Option (Option Nat))} (j : Nat) (hj : fs[j]? = some none) {x : Int32} {ty : FieldType} (hty : parseFieldDescriptor (T j).2.2.1 = some ty) (hn : narrow ty (.int x) = .int x) (hfit : fits ty (.int x) = true) (ty0 : Nat → FieldType) (hty0 : ∀ k, k < N → parseFieldDescriptor (T k).2.2.1 = some (ty0 k)) (hnm : ∀ a, a < N → ∀ b, b < N → a ≠ b → (T a).2.1 ≠ (T b).2.1) (hw : ∀ w ∈ u_ws C0 T N, w ∈ lw_all) (hjN : j < N) (hfin : (T j).2.2.2 = false) (hc : ncl[ci]? = some (C0, T, N)) (hr : ref = (T j).1) (hlk : Cond.fieldLink own index ref (T j).2.1 (T j).2.2.1 ∈ lw_all) (hdg : decode cc pc = .ok (.putfield index, 3)) (hk : k < 36 + Gn G) (hlay : lay k = (0, ci, fs)) (kk : J (Ym X k j x) u (pc + 3) lv st) : J X u pc lv (.int x :: .ref (G.2.1 k) :: st) := by
  obtain ⟨p, e, R, s, m, args, below, meth, c, A, c0, s0, Q, ⟨hx, hb, hml, hown, hts, hK, hNw, hA, hZs, hfl, hfr, hlo, hRc, hRs, hSx⟩, rfl, rfl⟩ := C
  intro H locs ls hP hD hS hl
  have hq := wsX_get G X hk
  rw [sE_o G X hlay] at hq
  subst hr
  refine va_put (D := G.1) (C := C0) (T := T) (N := N) hx hb hts hw ty0 hty0 hnm hown hK hP hD hS k hq hc j hjN (hts _ hlk) (fun _ h9 => h9) hfin hty (hn) (hfit) (by rw [fvs_len]; exact (List.getElem?_eq_some_iff.mp hj).1) hdg (fun H1 locs1 h1 h2 h3 => ?_)
  rw [wsX_Ym G X x hk hlay hj] at h1 h2
  exact kk H1 locs1 ls h1 h2 h3 hl
theorem r_putm (C : Cb l own cc nL G fr lo um J JX) {k index ci N : Nat} {ref C0 : String} {T : u_T} {fs : List (Option (Option Nat))} (j : Nat) (hj : fs[j]? = some (some none)) {x : Nat} {ty : FieldType} (hty : parseFieldDescriptor (T j).2.2.1 = some ty) (hn : ∀ z : Nat, narrow ty (.ref z) = .ref z) (hfit : ∀ z : Nat, fits ty (.ref z) = true) (ty0 : Nat → FieldType) (hty0 : ∀ k, k < N → parseFieldDescriptor (T k).2.2.1 = some (ty0 k)) (hnm : ∀ a, a < N → ∀ b, b < N → a ≠ b → (T a).2.1 ≠ (T b).2.1) (hw : ∀ w ∈ u_ws C0 T N, w ∈ lw_all) (hjN : j < N) (hfin : (T j).2.2.2 = false) (hc : ncl[ci]? = some (C0, T, N)) (hr : ref = (T j).1) (hlk : Cond.fieldLink own index ref (T j).2.1 (T j).2.2.1 ∈ lw_all) (hdg : decode cc pc = .ok (.putfield index, 3)) (hk : k < 36 + Gn G) (hlay : lay k = (0, ci, fs)) (kk : J (Yf X k j x) u (pc + 3) lv st) : J X u pc lv (.ref (G.2.1 x) :: .ref (G.2.1 k) :: st) := by
  obtain ⟨p, e, R, s, m, args, below, meth, c, A, c0, s0, Q, ⟨hx, hb, hml, hown, hts, hK, hNw, hA, hZs, hfl, hfr, hlo, hRc, hRs, hSx⟩, rfl, rfl⟩ := C
  intro H locs ls hP hD hS hl
  have hq := wsX_get G X hk
  rw [sE_o G X hlay] at hq
  subst hr
  refine va_put (D := G.1) (C := C0) (T := T) (N := N) hx hb hts hw ty0 hty0 hnm hown hK hP hD hS k hq hc j hjN (hts _ hlk) (fun _ h9 => h9) hfin hty (hn _) (hfit _) (by rw [fvs_len]; exact (List.getElem?_eq_some_iff.mp hj).1) hdg (fun H1 locs1 h1 h2 h3 => ?_)
  rw [wsX_Yf G X x hk hlay hj] at h1 h2
  exact kk H1 locs1 ls h1 h2 h3 hl
theorem r_getiN (C : Cb l own cc nL G fr lo um J JX) {k index ci N : Nat} {ref C0 : String} {T : u_T} {fs : List (Option (Option Nat))} {host : String} (j : Nat) (hj : fs[j]? = some none) (hw : ∀ w ∈ u_ws C0 T N, w ∈ lw_all) (hjN : j < N) (hc : ncl[ci]? = some (C0, T, N)) (hr : ref = (T j).1) (hlk : Cond.fieldLinkNest own index ref (T j).2.1 (T j).2.2.1 host ∈ lw_nst) (hdg : decode cc pc = .ok (.getfield index, 3)) (hk : k < 36 + Gn G) (hlay : lay k = (0, ci, fs)) (kk : J X u (pc + 3) lv (.int (Zm X k j) :: st)) : J X u pc lv (.ref (G.2.1 k) :: st) := by
  obtain ⟨p, e, R, s, m, args, below, meth, c, A, c0, s0, Q, ⟨hx, hb, hml, hown, hts, hK, hNw, hA, hZs, hfl, hfr, hlo, hRc, hRs, hSx⟩, rfl, rfl⟩ := C
  intro H locs ls hP hD hS hl
  have hq := wsX_get G X hk
  rw [sE_o G X hlay] at hq
  subst hr
  exact va_getN (D := G.1) (C := C0) (T := T) (N := N) hx hb hts hw hown hK hP k hq hc j hjN (va_Nw.use rfl (hNw.1 _ hlk)) (fun _ h9 => h9) (by have h9 := fvs_n G X k fs 0 j hj; rw [Nat.zero_add] at h9; exact h9) hdg (kk H locs ls hP hD hS hl)
theorem r_getrN (C : Cb l own cc nL G fr lo um J JX) {k index ci N : Nat} {ref C0 : String} {T : u_T} {fs : List (Option (Option Nat))} {host : String} (j : Nat) {t : Nat} (hj : fs[j]? = some (some (some t))) (hw : ∀ w ∈ u_ws C0 T N, w ∈ lw_all) (hjN : j < N) (hc : ncl[ci]? = some (C0, T, N)) (hr : ref = (T j).1) (hlk : Cond.fieldLinkNest own index ref (T j).2.1 (T j).2.2.1 host ∈ lw_nst) (hdg : decode cc pc = .ok (.getfield index, 3)) (hk : k < 36 + Gn G) (hlay : lay k = (0, ci, fs)) (kk : J X u (pc + 3) lv (.ref (G.2.1 t) :: st)) : J X u pc lv (.ref (G.2.1 k) :: st) := by
  obtain ⟨p, e, R, s, m, args, below, meth, c, A, c0, s0, Q, ⟨hx, hb, hml, hown, hts, hK, hNw, hA, hZs, hfl, hfr, hlo, hRc, hRs, hSx⟩, rfl, rfl⟩ := C
  intro H locs ls hP hD hS hl
  have hq := wsX_get G X hk
  rw [sE_o G X hlay] at hq
  subst hr
  exact va_getN (D := G.1) (C := C0) (T := T) (N := N) hx hb hts hw hown hK hP k hq hc j hjN (va_Nw.use rfl (hNw.1 _ hlk)) (fun _ h9 => h9) (fvs_r G X k t fs 0 j hj) hdg (kk H locs ls hP hD hS hl)
theorem r_getmN (C : Cb l own cc nL G fr lo um J JX) {k index ci N : Nat} {ref C0 : String} {T : u_T} {fs : List (Option (Option Nat))} {host : String} (j : Nat) (hj : fs[j]? = some (some none)) (hw : ∀ w ∈ u_ws C0 T N, w ∈ lw_all) (hjN : j < N) (hc : ncl[ci]? = some (C0, T, N)) (hr : ref = (T j).1) (hlk : Cond.fieldLinkNest own index ref (T j).2.1 (T j).2.2.1 host ∈ lw_nst) (hdg : decode cc pc = .ok (.getfield index, 3)) (hk : k < 36 + Gn G) (hlay : lay k = (0, ci, fs)) (kk : J X u (pc + 3) lv (.ref (G.2.1 (Zf X k j)) :: st)) : J X u pc lv (.ref (G.2.1 k) :: st) := by
  obtain ⟨p, e, R, s, m, args, below, meth, c, A, c0, s0, Q, ⟨hx, hb, hml, hown, hts, hK, hNw, hA, hZs, hfl, hfr, hlo, hRc, hRs, hSx⟩, rfl, rfl⟩ := C
  intro H locs ls hP hD hS hl
  have hq := wsX_get G X hk
  rw [sE_o G X hlay] at hq
  subst hr
  exact va_getN (D := G.1) (C := C0) (T := T) (N := N) hx hb hts hw hown hK hP k hq hc j hjN (va_Nw.use rfl (hNw.1 _ hlk)) (fun _ h9 => h9) (by have h9 := fvs_m G X k fs 0 j hj; rw [Nat.zero_add] at h9; exact h9) hdg (kk H locs ls hP hD hS hl)
theorem r_putiN (C : Cb l own cc nL G fr lo um J JX) {k index ci N : Nat} {ref C0 : String} {T : u_T} {fs : List (Option (Option Nat))} {host : String} (j : Nat) (hj : fs[j]? = some none) {x : Int32} {ty : FieldType} (hty : parseFieldDescriptor (T j).2.2.1 = some ty) (hn : narrow ty (.int x) = .int x) (hfit : fits ty (.int x) = true) (ty0 : Nat → FieldType) (hty0 : ∀ k, k < N → parseFieldDescriptor (T k).2.2.1 = some (ty0 k)) (hnm : ∀ a, a < N → ∀ b, b < N → a ≠ b → (T a).2.1 ≠ (T b).2.1) (hw : ∀ w ∈ u_ws C0 T N, w ∈ lw_all) (hjN : j < N) (hfin : (T j).2.2.2 = false) (hc : ncl[ci]? = some (C0, T, N)) (hr : ref = (T j).1) (hlk : Cond.fieldLinkNest own index ref (T j).2.1 (T j).2.2.1 host ∈ lw_nst) (hdg : decode cc pc = .ok (.putfield index, 3)) (hk : k < 36 + Gn G) (hlay : lay k = (0, ci, fs)) (kk : J (Ym X k j x) u (pc + 3) lv st) : J X u pc lv (.int x :: .ref (G.2.1 k) :: st) := by
  obtain ⟨p, e, R, s, m, args, below, meth, c, A, c0, s0, Q, ⟨hx, hb, hml, hown, hts, hK, hNw, hA, hZs, hfl, hfr, hlo, hRc, hRs, hSx⟩, rfl, rfl⟩ := C
  intro H locs ls hP hD hS hl
  have hq := wsX_get G X hk
  rw [sE_o G X hlay] at hq
  subst hr
  refine va_putN (D := G.1) (C := C0) (T := T) (N := N) hx hb hts hw ty0 hty0 hnm hown hK hP hD hS k hq hc j hjN (va_Nw.use rfl (hNw.1 _ hlk)) (fun _ h9 => h9) hfin hty (hn) (hfit) (by rw [fvs_len]; exact (List.getElem?_eq_some_iff.mp hj).1) hdg (fun H1 locs1 h1 h2 h3 => ?_)
  rw [wsX_Ym G X x hk hlay hj] at h1 h2
  exact kk H1 locs1 ls h1 h2 h3 hl
theorem r_putmN (C : Cb l own cc nL G fr lo um J JX) {k index ci N : Nat} {ref C0 : String} {T : u_T} {fs : List (Option (Option Nat))} {host : String} (j : Nat) (hj : fs[j]? = some (some none)) {x : Nat} {ty : FieldType} (hty : parseFieldDescriptor (T j).2.2.1 = some ty) (hn : ∀ z : Nat, narrow ty (.ref z) = .ref z) (hfit : ∀ z : Nat, fits ty (.ref z) = true) (ty0 : Nat → FieldType) (hty0 : ∀ k, k < N → parseFieldDescriptor (T k).2.2.1 = some (ty0 k)) (hnm : ∀ a, a < N → ∀ b, b < N → a ≠ b → (T a).2.1 ≠ (T b).2.1) (hw : ∀ w ∈ u_ws C0 T N, w ∈ lw_all) (hjN : j < N) (hfin : (T j).2.2.2 = false) (hc : ncl[ci]? = some (C0, T, N)) (hr : ref = (T j).1) (hlk : Cond.fieldLinkNest own index ref (T j).2.1 (T j).2.2.1 host ∈ lw_nst) (hdg : decode cc pc = .ok (.putfield index, 3)) (hk : k < 36 + Gn G) (hlay : lay k = (0, ci, fs)) (kk : J (Yf X k j x) u (pc + 3) lv st) : J X u pc lv (.ref (G.2.1 x) :: .ref (G.2.1 k) :: st) := by
  obtain ⟨p, e, R, s, m, args, below, meth, c, A, c0, s0, Q, ⟨hx, hb, hml, hown, hts, hK, hNw, hA, hZs, hfl, hfr, hlo, hRc, hRs, hSx⟩, rfl, rfl⟩ := C
  intro H locs ls hP hD hS hl
  have hq := wsX_get G X hk
  rw [sE_o G X hlay] at hq
  subst hr
  refine va_putN (D := G.1) (C := C0) (T := T) (N := N) hx hb hts hw ty0 hty0 hnm hown hK hP hD hS k hq hc j hjN (va_Nw.use rfl (hNw.1 _ hlk)) (fun _ h9 => h9) hfin hty (hn _) (hfit _) (by rw [fvs_len]; exact (List.getElem?_eq_some_iff.mp hj).1) hdg (fun H1 locs1 h1 h2 h3 => ?_)
  rw [wsX_Yf G X x hk hlay hj] at h1 h2
  exact kk H1 locs1 ls h1 h2 h3 hl
theorem r_iald (C : Cb l own cc nL G fr lo um J JX) {k n : Nat} (j : Nat) {i : Int32} (hk : k < 36 + Gn G) (hlay : lay k = (1, n, [])) (hi : i = nI j) (hj : j < n) (hdg : decode cc pc = .ok (.iaload, 1)) (kk : J X u (pc + 1) lv (.int (Zv X k j) :: st)) : J X u pc lv (.int i :: .ref (G.2.1 k) :: st) := by
  obtain ⟨p, e, R, s, m, args, below, meth, c, A, c0, s0, Q, ⟨hx, hb, hml, hown, hts, hK, hNw, hA, hZs, hfl, hfr, hlo, hRc, hRs, hSx⟩, rfl, rfl⟩ := C
  intro H locs ls hP hD hS hl
  have hq := wsX_get G X hk
  rw [sE_I G X hlay] at hq
  have hn : n < 2 ^ 31 := lay_small hlay
  refine va_iald (D := G.1) hx hb hK hP k 0 hq rfl (by rw [hi]; exact vp_in_nI hj hn) hdg ?_
  rw [hi, nI_clamp (Nat.lt_trans hj hn)]
  exact kk H locs ls hP hD hS hl
theorem r_zald (C : Cb l own cc nL G fr lo um J JX) {k n : Nat} (j : Nat) {i : Int32} (hk : k < 36 + Gn G) (hlay : lay k = (3, n, [])) (hi : i = nI j) (hj : j < n) (hdg : decode cc pc = .ok (.baload, 1)) (kk : J X u (pc + 1) lv (.int (Zv X k j) :: st)) : J X u pc lv (.int i :: .ref (G.2.1 k) :: st) := by
  obtain ⟨p, e, R, s, m, args, below, meth, c, A, c0, s0, Q, ⟨hx, hb, hml, hown, hts, hK, hNw, hA, hZs, hfl, hfr, hlo, hRc, hRs, hSx⟩, rfl, rfl⟩ := C
  intro H locs ls hP hD hS hl
  have hq := wsX_get G X hk
  rw [sE_Z G X hlay] at hq
  have hn : n < 2 ^ 31 := lay_small hlay
  refine va_zald (D := G.1) hx hb hK hP k 2 hq rfl (by rw [hi]; exact vp_in_nI hj hn) hdg ?_
  rw [hi, nI_clamp (Nat.lt_trans hj hn)]
  exact kk H locs ls hP hD hS hl
theorem r_lald (C : Cb l own cc nL G fr lo um J JX) {k n : Nat} (j : Nat) {i : Int32} (hk : k < 36 + Gn G) (hlay : lay k = (2, n, [])) (hi : i = nI j) (hj : j < n) (hdg : decode cc pc = .ok (.laload, 1)) (kk : J X u (pc + 1) lv (.long (Zu X k j) :: st)) : J X u pc lv (.int i :: .ref (G.2.1 k) :: st) := by
  obtain ⟨p, e, R, s, m, args, below, meth, c, A, c0, s0, Q, ⟨hx, hb, hml, hown, hts, hK, hNw, hA, hZs, hfl, hfr, hlo, hRc, hRs, hSx⟩, rfl, rfl⟩ := C
  intro H locs ls hP hD hS hl
  have hq := wsX_get G X hk
  rw [sE_J G X hlay] at hq
  have hn : n < 2 ^ 31 := lay_small hlay
  refine va_lald (D := G.1) hx hb hK hP k 1 hq rfl (by rw [hi]; exact vp_in_nI hj hn) hdg ?_
  rw [hi, nI_clamp (Nat.lt_trans hj hn)]
  exact kk H locs ls hP hD hS hl
theorem r_iast (C : Cb l own cc nL G fr lo um J JX) {k n : Nat} (j : Nat) {i : Int32} {x : Int32} (hk : k < 36 + Gn G) (hlay : lay k = (1, n, [])) (hi : i = nI j) (hj : j < n) (hdg : decode cc pc = .ok (.iastore, 1)) (kk : J (Yv X k (upd (Zv X k) j x)) u (pc + 1) lv st) : J X u pc lv (.int x :: .int i :: .ref (G.2.1 k) :: st) := by
  obtain ⟨p, e, R, s, m, args, below, meth, c, A, c0, s0, Q, ⟨hx, hb, hml, hown, hts, hK, hNw, hA, hZs, hfl, hfr, hlo, hRc, hRs, hSx⟩, rfl, rfl⟩ := C
  intro H locs ls hP hD hS hl
  have hq := wsX_get G X hk
  rw [sE_I G X hlay] at hq
  have hn : n < 2 ^ 31 := lay_small hlay
  refine va_iast (D := G.1) hx hb hK hP hD hS k 0 hq rfl (by rw [hi]; exact vp_in_nI hj hn) hdg (fun H1 locs1 h1 h2 h3 => ?_)
  rw [hi, nI_clamp (Nat.lt_trans hj hn), wsX_YvI G X _ hk hlay] at h1 h2
  exact kk H1 locs1 ls h1 h2 h3 hl
theorem r_last (C : Cb l own cc nL G fr lo um J JX) {k n : Nat} (j : Nat) {i : Int32} {x : Int64} (hk : k < 36 + Gn G) (hlay : lay k = (2, n, [])) (hi : i = nI j) (hj : j < n) (hdg : decode cc pc = .ok (.lastore, 1)) (kk : J (Yu X k (vp_updL (Zu X k) j x)) u (pc + 1) lv st) : J X u pc lv (.long x :: .int i :: .ref (G.2.1 k) :: st) := by
  obtain ⟨p, e, R, s, m, args, below, meth, c, A, c0, s0, Q, ⟨hx, hb, hml, hown, hts, hK, hNw, hA, hZs, hfl, hfr, hlo, hRc, hRs, hSx⟩, rfl, rfl⟩ := C
  intro H locs ls hP hD hS hl
  have hq := wsX_get G X hk
  rw [sE_J G X hlay] at hq
  have hn : n < 2 ^ 31 := lay_small hlay
  refine va_last (D := G.1) hx hb hK hP hD hS k 1 hq rfl (by rw [hi]; exact vp_in_nI hj hn) hdg (fun H1 locs1 h1 h2 h3 => ?_)
  rw [hi, nI_clamp (Nat.lt_trans hj hn), wsX_Yu G X _ hk hlay] at h1 h2
  exact kk H1 locs1 ls h1 h2 h3 hl
theorem r_zast (C : Cb l own cc nL G fr lo um J JX) {k n : Nat} (j : Nat) {i : Int32} {x : Int32} (hk : k < 36 + Gn G) (hlay : lay k = (3, n, [])) (hi : i = nI j) (hj : j < n) (hx0 : vp_nar .boolean x = x) (hdg : decode cc pc = .ok (.bastore, 1)) (kk : J (Yv X k (upd (Zv X k) j x)) u (pc + 1) lv st) : J X u pc lv (.int x :: .int i :: .ref (G.2.1 k) :: st) := by
  obtain ⟨p, e, R, s, m, args, below, meth, c, A, c0, s0, Q, ⟨hx, hb, hml, hown, hts, hK, hNw, hA, hZs, hfl, hfr, hlo, hRc, hRs, hSx⟩, rfl, rfl⟩ := C
  intro H locs ls hP hD hS hl
  have hq := wsX_get G X hk
  rw [sE_Z G X hlay] at hq
  have hn : n < 2 ^ 31 := lay_small hlay
  refine va_zast (D := G.1) hx hb hK hP hD hS k 2 hq rfl (by rw [hi]; exact vp_in_nI hj hn) hdg (fun H1 locs1 h1 h2 h3 => ?_)
  rw [hi, nI_clamp (Nat.lt_trans hj hn), hx0, wsX_YvZ G X _ hk hlay] at h1 h2
  exact kk H1 locs1 ls h1 h2 h3 hl
theorem r_aald (C : Cb l own cc nL G fr lo um J JX) {n : Nat} (j : Nat) {i : Int32} {k : Nat} (hk : k < 36 + Gn G) (hlay : lay k = (4, n, [])) (hi : i = nI j) (hj : j < n) (hdg : decode cc pc = .ok (.aaload, 1)) (kk : J X u (pc + 1) lv (.ref (G.2.1 (14 + j)) :: st)) : J X u pc lv (.int i :: .ref (G.2.1 k) :: st) := by
  obtain ⟨p, e, R, s, m, args, below, meth, c, A, c0, s0, Q, ⟨hx, hb, hml, hown, hts, hK, hNw, hA, hZs, hfl, hfr, hlo, hRc, hRs, hSx⟩, rfl, rfl⟩ := C
  intro H locs ls hP hD hS hl
  have hq := wsX_get G X hk
  rw [sE_A G X hlay] at hq
  have hn : n < 2 ^ 31 := lay_small hlay
  have hin : vp_in i n := by rw [hi]; exact vp_in_nI hj hn
  have hlt : i.toNatClampNeg < n := Nat.not_le.mp fun q => hin (Or.inr q)
  refine W.aald (v := va_rf (some (G.2.1 (14 + j)))) (ty := .array .int) hx hb (hP k _ hq) ((hK.2 3 _ rfl).1 n (fun j => va_rf (if j < n then some (G.2.1 (14 + j)) else none))) rfl (fun q => by cases q) (by show ¬ (i < 0 ∨ (arrV _ _ _).slots.size ≤ _); rw [arrV_size]; exact hin) (by show (arrV _ _ _).slots[_]? = _; rw [arrV_read _ _ hlt, hi, nI_clamp (Nat.lt_trans hj hn)]; show some (va_rf (if j < n then _ else _)) = _; rw [if_pos hj]) rfl rfl hdg ?_
  exact kk H locs ls hP hD hS hl
theorem r_alen (C : Cb l own cc nL G fr lo um J JX) {k n : Nat} (hk : k < 36 + Gn G) (hlay : lay k = (1, n, [])) (hdg : decode cc pc = .ok (.arraylength, 1)) (kk : J X u (pc + 1) lv (.int (nI n) :: st)) : J X u pc lv (.ref (G.2.1 k) :: st) := by
  obtain ⟨p, e, R, s, m, args, below, meth, c, A, c0, s0, Q, ⟨hx, hb, hml, hown, hts, hK, hNw, hA, hZs, hfl, hfr, hlo, hRc, hRs, hSx⟩, rfl, rfl⟩ := C
  intro H locs ls hP hD hS hl
  have hq := wsX_get G X hk
  rw [sE_I G X hlay] at hq
  exact va_alen (D := G.1) hx hb hK hP k 0 hq rfl rfl hdg (kk H locs ls hP hD hS hl)
theorem r_min (C : Cb l own cc nL G fr lo um J JX) {index : Nat} {x y : Int32} (hlk : Cond.methodLink own index Lib.Math.min.name ∈ lw_all) (hfr1 : 1 ≤ fr) (hlo1 : (st.map fun v => v.category).sum + 13 ≤ lo) (hu : u ≤ um) (hdg : decode cc pc = .ok (.invokestatic index, 3)) (kk : J X u (pc + 3) lv (.int (if y < x then y else x) :: st)) : J X u pc lv (.int y :: .int x :: st) := by
  obtain ⟨p, e, R, s, m, args, below, meth, c, A, c0, s0, Q, ⟨hx, hb, hml, hown, hts, hK, hNw, hA, hZs, hfl, hfr, hlo, hRc, hRs, hSx⟩, rfl, rfl⟩ := C
  intro H locs ls hP hD hS hl
  exact va_mmin hx hb (hml.trans hl.1.symm) hown (hts _ hlk) (hts _ q_min1) (hts _ q_min2) (hts _ q_min3) (by rw [hfr]; exact hfr1) (by rw [hlo]; exact hlo1) (by omega) (by omega) hdg (kk H locs ls hP hD hS hl)
theorem r_max (C : Cb l own cc nL G fr lo um J JX) {index : Nat} {x y : Int32} (hlk : Cond.methodLink own index Lib.Math.max.name ∈ lw_all) (hfr1 : 1 ≤ fr) (hlo1 : (st.map fun v => v.category).sum + 13 ≤ lo) (hu : u ≤ um) (hdg : decode cc pc = .ok (.invokestatic index, 3)) (kk : J X u (pc + 3) lv (.int (if x < y then y else x) :: st)) : J X u pc lv (.int y :: .int x :: st) := by
  obtain ⟨p, e, R, s, m, args, below, meth, c, A, c0, s0, Q, ⟨hx, hb, hml, hown, hts, hK, hNw, hA, hZs, hfl, hfr, hlo, hRc, hRs, hSx⟩, rfl, rfl⟩ := C
  intro H locs ls hP hD hS hl
  exact va_mmax hx hb (hml.trans hl.1.symm) hown (hts _ hlk) (hts _ q_max1) (hts _ q_min2) (hts _ q_max3) (by rw [hfr]; exact hfr1) (by rw [hlo]; exact hlo1) (by omega) (by omega) hdg (kk H locs ls hP hD hS hl)
end ZJ
/-! ===== ends, throws, calls ===== -/
theorem good_all {y : MethodName} {bc : ByteArray} {n : Nat} {ret : Option FieldType} (h : Cond.code y bc n ret ∈ lw_all) : GoodIn lw_all (ws_ y bc n ret) := fun w hw => (List.mem_cons.mp hw).elim (fun e => by rw [e]; exact ⟨h, good_of_word (List.mem_filter.mp h).2⟩) (fun h9 => ⟨h9, good_of_word (List.mem_filter.mp h9).2⟩)
theorem good_allH {y : MethodName} {bc : ByteArray} {n : Nat} {ret : Option FieldType} {hh : List (Nat × Nat × Nat × Nat)} (h : Cond.codeWith y bc n ret hh ∈ lw_all) : GoodIn lw_all (wsH_ y bc n ret hh) := fun w hw => (List.mem_cons.mp hw).elim (fun e => by rw [e]; exact ⟨h, good_of_word (List.mem_filter.mp h).2⟩) (fun h9 => ⟨h9, good_of_word (List.mem_filter.mp h9).2⟩)
/-- THE CONTEXT of a method with the contract K, KX: its rows' context, and its ends; hh: its exception table -/
def Cl (l : Launch) (own : String) (cc : ByteArray) (nL : Nat) (ret : Option FieldType) (hh : List ExceptionTableEntry) (G : Geo) (fr lo um : Nat) (K : Option Value → St → Prop) (KX : String → St → Prop) (J : JT) (JX : JXT) : Prop :=
  ∃ (p : Program) (e : Env) (s : State) (m : MethodId) (args : Array Value) (below : List Frame) (meth : Method) (c : Code) (A : Nat → Prop), zCx p l (zRm fr lo um) s m args c A own cc nL G fr lo um 0 0 ∧ meth.sig.returnType = ret ∧ meth.locks = false ∧ c.exceptionTable.toList = hh ∧ J = Jw p l e (zRm fr lo um) s m args below meth c G A nL 0 0 (vx_MQ below (zQK G A K) (zXK G A KX) args s um (6 * um) A) ∧ JX = Jx p l e (zRm fr lo um) s m args below meth c G A nL 0 0 (vx_MQ below (zQK G A K) (zXK G A KX) args s um (6 * um) A)
theorem Cl.b {l : Launch} {own : String} {cc : ByteArray} {nL : Nat} {ret : Option FieldType} {hh : List ExceptionTableEntry} {G : Geo} {fr lo um : Nat} {K : Option Value → St → Prop} {KX : String → St → Prop} {J : JT} {JX : JXT} (C : Cl l own cc nL ret hh G fr lo um K KX J JX) : Cb l own cc nL G fr lo um J JX := by
  obtain ⟨p, e, s, m, args, below, meth, c, A, h1, h2, h3, h4, h5, h6⟩ := C
  exact ⟨p, e, _, s, m, args, below, meth, c, A, 0, 0, _, h1, h5, h6⟩
section ZE
variable {l : Launch} {own : String} {cc : ByteArray} {nL : Nat} {ret : Option FieldType} {hh : List ExceptionTableEntry} {G : Geo} {fr lo um : Nat} {K : Option Value → St → Prop} {KX : String → St → Prop} {J : JT} {JX : JXT} {X : St} {u pc : Nat} {lv : List (Nat × Value)} {st : List Value}
theorem r_iret (C : Cl l own cc nL ret hh G fr lo um K KX J JX) {v : Int32} {ty : FieldType} (hr : ret = some ty) (hn : narrow ty (.int v) = .int v) (hdg : decode cc pc = .ok (.ireturn, 1)) (hu : u ≤ um) (hk : K (some (.int v)) X) : J X u pc lv [.int v] := by
  obtain ⟨p, e, s, m, args, below, meth, c, A, ⟨hx, hb, hml, hown, hts, hK, hNw, hA, hZs, hfl, hfr, hlo, hRc, hRs, hSx⟩, hret, hlocks, htab, rfl, rfl⟩ := C
  intro H locs ls hP hD hS hl
  refine vx_ret (W.widen (k := um) (n := 6 * um) (by omega) (by omega) ?_)
  exact W.zret hx hb (hret.trans hr) hn (fun t ht hW => ⟨⟨_, X, rfl, hk, by rw [ht]; exact ⟨hP, hD⟩⟩, hS.F ht⟩) hS.2.2 hdg hlocks
theorem r_lret (C : Cl l own cc nL ret hh G fr lo um K KX J JX) {v : Int64} (hr : ret = some .long) (hdg : decode cc pc = .ok (.lreturn, 1)) (hu : u ≤ um) (hk : K (some (.long v)) X) : J X u pc lv [.long v] := by
  obtain ⟨p, e, s, m, args, below, meth, c, A, ⟨hx, hb, hml, hown, hts, hK, hNw, hA, hZs, hfl, hfr, hlo, hRc, hRs, hSx⟩, hret, hlocks, htab, rfl, rfl⟩ := C
  intro H locs ls hP hD hS hl
  refine vx_ret (W.widen (k := um) (n := 6 * um) (by omega) (by omega) ?_)
  exact W.lret hx hb (hret.trans hr) (fun t ht hW => ⟨⟨_, X, rfl, hk, by rw [ht]; exact ⟨hP, hD⟩⟩, hS.F ht⟩) hS.2.2 hdg hlocks
theorem r_dret (C : Cl l own cc nL ret hh G fr lo um K KX J JX) {v : UInt64} (hr : ret = some .double) (hdg : decode cc pc = .ok (.dreturn, 1)) (hu : u ≤ um) (hk : K (some (.double v)) X) : J X u pc lv [.double v] := by
  obtain ⟨p, e, s, m, args, below, meth, c, A, ⟨hx, hb, hml, hown, hts, hK, hNw, hA, hZs, hfl, hfr, hlo, hRc, hRs, hSx⟩, hret, hlocks, htab, rfl, rfl⟩ := C
  intro H locs ls hP hD hS hl
  refine vx_ret (W.widen (k := um) (n := 6 * um) (by omega) (by omega) ?_)
  exact W.dret hx hb (hret.trans hr) (fun t ht hW => ⟨⟨_, X, rfl, hk, by rw [ht]; exact ⟨hP, hD⟩⟩, hS.F ht⟩) hS.2.2 hdg hlocks
theorem r_vret (C : Cl l own cc nL ret hh G fr lo um K KX J JX) (hr : ret = none) (hdg : decode cc pc = .ok (.return_, 1)) (hu : u ≤ um) (hk : K none X) : J X u pc lv [] := by
  obtain ⟨p, e, s, m, args, below, meth, c, A, ⟨hx, hb, hml, hown, hts, hK, hNw, hA, hZs, hfl, hfr, hlo, hRc, hRs, hSx⟩, hret, hlocks, htab, rfl, rfl⟩ := C
  intro H locs ls hP hD hS hl
  refine vx_ret (W.widen (k := um) (n := 6 * um) (by omega) (by omega) ?_)
  exact W.vret hx hb (hret.trans hr) (fun t ht hW => ⟨⟨_, X, rfl, hk, by rw [ht]; exact ⟨hP, hD⟩⟩, hS.F ht⟩) hS.2.2 hdg hlocks
theorem r_aret (C : Cl l own cc nL ret hh G fr lo um K KX J JX) {k : Nat} {rt : String} (hr : ret = some (.object rt)) (hdg : decode cc pc = .ok (.areturn, 1)) (hu : u ≤ um) (hk : K (some (.ref (G.2.1 k))) X) : J X u pc lv [.ref (G.2.1 k)] := by
  obtain ⟨p, e, s, m, args, below, meth, c, A, ⟨hx, hb, hml, hown, hts, hK, hNw, hA, hZs, hfl, hfr, hlo, hRc, hRs, hSx⟩, hret, hlocks, htab, rfl, rfl⟩ := C
  intro H locs ls hP hD hS hl
  refine vx_ret (W.widen (k := um) (n := 6 * um) (by omega) (by omega) ?_)
  exact W.aret hx hb (hret.trans hr) (Or.inl ⟨_, rfl⟩) (Or.inr ⟨_, rfl⟩) (fun t ht hW => ⟨⟨_, X, rfl, hk, by rw [ht]; exact ⟨hP, hD⟩⟩, hS.F ht⟩) hS.2.2 hdg hlocks
/-- a throw that leaves the method -/
theorem r_out (C : Cl l own cc nL ret hh G fr lo um K KX J JX) {E : String} (hh0 : hh = []) (hu : u ≤ um) (hk : KX E X) : JX X u pc lv E := by
  obtain ⟨p, e, s, m, args, below, meth, c, A, ⟨hx, hb, hml, hown, hts, hK, hNw, hA, hZs, hfl, hfr, hlo, hRc, hRs, hSx⟩, hret, hlocks, htab, rfl, rfl⟩ := C
  intro H locs ls q ce rest hP hD hS hl hcell hv hcl
  exact vx_out (by rw [htab, hh0]; intro x hx9; cases hx9) hlocks hcell hv hcl (fun t ht hW => ⟨⟨X, hk, by rw [ht]; exact ⟨hP, hD⟩⟩, hS.F ht⟩) hS.2.2 (by omega) (by omega)
/-- new E("a text"); throw -/
theorem r_throw (C : Cl l own cc nL ret hh G fr lo um K KX J JX) {cls text : String} {names : List String} {ik is ic : Nat} (hh0 : hh = []) (hcls : Bundle.fit cls = true) (hnames : ∀ n ∈ names, Bundle.fit n = true) (hck : Cond.classLink own ik cls ∈ lw_all) (hini : Cond.initialized cls ∈ lw_all) (hsk : Cond.stringRef own is text ∈ lw_str) (hat : ∀ w ∈ vx_atS own ic cls names, w ∈ lw_all ∨ w ∈ lw_nst) (d0 : decode cc pc = .ok (.new ik, 3)) (d3 : decode cc (pc + 3) = .ok (.dup, 1)) (d4 : decode cc (pc + 4) = .ok (.ldc is, 2)) (d6 : decode cc (pc + 6) = .ok (.invokespecial ic, 3)) (d9 : decode cc (pc + 9) = .ok (.athrow, 1)) (hfr9 : names.length + 3 < fr) (hlo9 : (st.map fun v => v.category).sum + (13 * (names.length + 1) + 43) ≤ lo) (hu : u + 1 ≤ um) (hk : KX cls X) : J X u pc lv st := by
  obtain ⟨p, e, s, m, args, below, meth, c, A, ⟨hx, hb, hml, hown, hts, hK, hNw, hA, hZs, hfl, hfr, hlo, hRc, hRs, hSx⟩, hret, hlocks, htab, rfl, rfl⟩ := C
  intro H locs ls hP hD hS hl
  obtain ⟨sa, hsa⟩ := hNw.2 _ _ _ hsk
  have hgood : ∀ w ∈ Cond.classLink own ik cls :: Cond.initialized cls :: vx_atS own ic cls names, vx_ot w = true := fun w hw => by
    have h9 : w ∈ lw_all ∨ w ∈ lw_nst := by
      rcases List.mem_cons.mp hw with rfl | h1
      · exact Or.inl hck
      · rcases List.mem_cons.mp h1 with rfl | h2
        · exact Or.inl hini
        · exact hat w h2
    rcases h9 with h9 | h9
    · simp [vx_ot, (List.mem_filter.mp h9).2]
    · simp [vx_ot, nst_ot h9]
  refine vx_throwS hx hb hfl hown hcls hnames (hts _ hck) (hts _ hini) hsa (fun w hw => (hat w hw).elim (fun h => hts w h) (fun h => va_Nw.use (nst_ot h) (hNw.1 w h))) hgood hZs.1 hZs.2 hS (hl.1.trans hml.symm) d0 d3 d4 d6 d9 (by rw [htab, hh0]; intro x hx9; cases hx9) (by rw [hfr]; exact hfr9) (by rw [hlo]; exact hlo9) (by omega) (by omega) hlocks (fun t hW h1 h2 => ⟨⟨X, hk, hP.kept (fun k9 q9 h9 => h2 _ ((hP k9 q9 h9).lt)), hD⟩, Nat.le_trans hS.1 h1, fun q h3 h4 => (h2 q (Nat.lt_of_lt_of_le h3 hS.1)).trans (hS.2.1 q h3 h4)⟩) hS.2.2 (by omega) (by omega)
end ZE
/-- a contract is proved by a walk from the method's entry -/
theorem con_of {l : Launch} {y : MethodName} {cc : ByteArray} {n : Nat} {ret : Option FieldType} {fr lo u : Nat} {ar : Geo → List Value} {X : St} {K : Option Value → St → Prop} {KX : String → St → Prop} {lv : Geo → List (Nat × Value)} (hfl : l.stackTraces = false) (hy : plainName y.cls = true) (hlv : ∀ G, lv_args 0 (ar G) = lv G) (hsl : ∀ G, (lg_sl (ar G)).length ≤ n)
    (body : ∀ (G : Geo) (J : JT) (JX : JXT), Cl l y.cls cc n ret [] G fr lo u K KX J JX → J X 0 0 (lv G) []) : Con l y cc n ret fr lo u ar X K KX := by
  intro G sz
  refine vx_ofW (cc := cc) (maxL := n) (ret := ret) hy rfl ?_
  intro p e s m args below meth c s₁ B hml hex hv
  obtain ⟨rfl, rfl, ⟨hP, hD⟩, hK, hNw, hZs, hSx⟩ := hv
  have hts := atoms_spec (ws := ws_ y cc n ret) B.pre
  have hown : s.vm.findClass y.cls = some m.cls := findClass_of_methodNamed B.named
  have hcx : zCx p l (zRm fr lo u) s m (ar G).toArray c (zA G s.heap.size) y.cls cc n G fr lo u 0 0 := ⟨B.exec, B.bytes, hml, hown, fun w h => hts w (List.mem_cons_of_mem _ h), hK, hNw, fun q h => Or.inr h, hZs, hfl, rfl, rfl, by show 0 + u ≤ u; omega, by show 0 + 6 * u ≤ 6 * u; omega, hSx⟩
  have hb := body G _ _ ⟨p, e, s, m, (ar G).toArray, below, meth, c, zA G s.heap.size, hcx, B.returns, B.notSynchronized, (by
    cases hc : c.exceptionTable.toList with
    | nil => rfl
    | cons x t => exact (hex x (by rw [hc]; exact List.mem_cons_self)).elim), rfl, rfl⟩
  have hl := lv_entry (ar G) (n := n) (hsl G)
  rw [lg_entry_eq]
  rw [hlv G] at hl
  exact hb s.heap [] _ hP hD va_S.rf (lvOk_of hl)
theorem conH_of {l : Launch} {y : MethodName} {cc : ByteArray} {n : Nat} {ret : Option FieldType} {hh : List (Nat × Nat × Nat × Nat)} {fr lo u : Nat} {ar : Geo → List Value} {X : St} {K : Option Value → St → Prop} {KX : String → St → Prop} {lv : Geo → List (Nat × Value)} (hfl : l.stackTraces = false) (hy : plainName y.cls = true) (hlv : ∀ G, lv_args 0 (ar G) = lv G) (hsl : ∀ G, (lg_sl (ar G)).length ≤ n)
    (body : ∀ (G : Geo) (J : JT) (JX : JXT), Cl l y.cls cc n ret (tableOf hh) G fr lo u K KX J JX → J X 0 0 (lv G) []) : ConH l y cc n ret hh fr lo u ar X K KX := by
  intro G sz
  refine vx_ofWH (cc := cc) (maxL := n) (ret := ret) (hh := hh) hy rfl ?_
  intro p e s m args below meth c s₁ B hml hv
  obtain ⟨rfl, rfl, ⟨hP, hD⟩, hK, hNw, hZs, hSx⟩ := hv
  have hts := atoms_spec (ws := wsH_ y cc n ret hh) B.pre
  have hown : s.vm.findClass y.cls = some m.cls := findClass_of_methodNamed B.named
  have hcx : zCx p l (zRm fr lo u) s m (ar G).toArray c (zA G s.heap.size) y.cls cc n G fr lo u 0 0 := ⟨B.exec, B.bytes, hml, hown, fun w h => hts w (List.mem_cons_of_mem _ h), hK, hNw, fun q h => Or.inr h, hZs, hfl, rfl, rfl, by show 0 + u ≤ u; omega, by show 0 + 6 * u ≤ 6 * u; omega, hSx⟩
  have hb := body G _ _ ⟨p, e, s, m, (ar G).toArray, below, meth, c, zA G s.heap.size, hcx, B.returns, B.notSynchronized, vx_table (x := y) B (hts _ List.mem_cons_self), rfl, rfl⟩
  have hl := lv_entry (ar G) (n := n) (hsl G)
  rw [lg_entry_eq]
  rw [hlv G] at hl
  exact hb s.heap [] _ hP hD va_S.rf (lvOk_of hl)
/-- a call that has come back -/
theorem zcall {p : Program} {l : Launch} {e : Env} {R : Room} {s : State} {m : MethodId} {args : Array Value} {below : List Frame} {meth : Method} {c : Code} {G : Geo} {A : Nat → Prop} {nL c0 s0 : Nat} {Q : State → Prop} {X : St} {u pc : Nat} {lv : List (Nat × Value)} {st0 rest : List Value} {u' : Nat} {K : Option Value → St → Prop} {KX : String → St → Prop} {a : Array Value} {H : Heap} {locs : List Loc} {ls : Array Slot}
    (hr : vx_Run p l e R s m args below meth c H locs (c0 + u) (s0 + 6 * u) u' (6 * u') (F0 m pc ls st0) rest (zQK G (zA G H.size) K a) (zXK G (zA G H.size) KX) (zA G H.size))
    (hP : va_P G.1 ncl (wsX G X) H) (hD : va_D A (wsX G X)) (hS : va_S A s.heap H locs) (hl : lvOk ls nL lv) (hA : ∀ q, s.heap.size ≤ q → A q)
    (kx : ∀ E X', KX E X' → Jx p l e R s m args below meth c G A nL c0 s0 Q X' (u + u') pc lv E)
    (kk : ∀ v X', K v X' → Jw p l e R s m args below meth c G A nL c0 s0 Q X' (u + u') (pc + 3) lv (v.toList ++ rest)) : W p l e R s m args below meth c H locs (c0 + u) (s0 + 6 * u) Q (F0 m pc ls st0) := by
  have hAA : ∀ q, zA G H.size q → A q := fun q hq => by
    rcases hq with ⟨k, hk, rfl⟩ | hq
    · exact hD.2 k _ (wsX_get G X hk)
    · exact hA q (Nat.le_trans hS.1 hq)
  have hW : ∀ X', va_D (zA G H.size) (wsX G X') → va_D A (wsX G X') := fun X' h => h.weaken (fun _ q _ h9 => hAA q.1 h9)
  have e1' : c0 + u + u' = c0 + (u + u') := by omega
  have e2' : s0 + 6 * u + 6 * u' = s0 + 6 * (u + u') := by omega
  intro T hT Xs
  rcases hr T hT Xs with ⟨v, st₀, t, T', L, h0, X', hL, e1, e2, ⟨⟨v', X1, hv, hk, hw⟩, hF⟩, sg⟩ | ⟨q, st₀, t, T', L, E, ce, h0, X', hL, e1, e2, ⟨⟨X1, hk, hw⟩, hF⟩, hce, hcv, hcl, sg⟩
  · cases hv
    obtain ⟨k1, k2, k3⟩ := vx_keep h0 e1 hS (fun q _ h => hAA q h) hAA hL hF
    rw [e1', e2'] at X'
    obtain ⟨t2, a1, b1⟩ := kk v X1 hk T'.heap (locs ++ L) ls (by rw [e1]; exact hw.1) (hW _ hw.2) k3 hl T' rfl X'
    exact ⟨t2, sg t2 a1, b1⟩
  · obtain ⟨k1, k2, k3⟩ := vx_keep h0 e1 hS (fun q _ h => hAA q h) hAA hL hF
    rw [e1', e2'] at X'
    obtain ⟨t2, a1, b1⟩ := kx E X1 hk T'.heap (locs ++ L) ls q ce rest (by rw [e1]; exact hw.1) (hW _ hw.2) k3 hl (by rw [e1]; exact hce) hcv hcl T' rfl X'
    exact ⟨t2, sg.trans a1, b1⟩
theorem zblind {G : Geo} {ar : List Value} {X : St} {sz : Nat} : FrameBlind (va_Pc ar (zPK G X sz)) := by
  intro a U g mk h
  obtain ⟨h1, h2, h3, h4, h5, h6, h7⟩ := h
  exact ⟨h1, h2, h3, va_K.moved (u := U) (U := U.calling g mk a) (Vm.Alike.refl U.vm) h4, zNw.same (u := U) (U := U.calling g mk a) rfl h5, ⟨vx_Zq.moved (u := U) (U := U.calling g mk a) (Vm.Alike.refl U.vm) h6.1, vx_Zq.moved (u := U) (U := U.calling g mk a) (Vm.Alike.refl U.vm) h6.2⟩, va_X.moved (u := U) (U := U.calling g mk a) (Vm.Alike.refl U.vm) h7.1, h7.2⟩
theorem zstart {G : Geo} {A : Nat → Prop} {X : St} {s U : State} {H : Heap} {locs : List Loc} (hP : va_P G.1 ncl (wsX G X) H) (hD : va_D A (wsX G X)) (hS : va_S A s.heap H locs) (hK : va_K G.1 ncl (gtys G) s) (hNw : zNw s) (hZs : zZs A s s.heap) (hSx : zSx G A s) (hA : ∀ q, s.heap.size ≤ q → A q) (hU : U.heap = H) (hW : s.WarmedH U.vm) : zPK G X H.size U := by
  have hAA : ∀ q, zA G H.size q → A q := fun q hq => by
    rcases hq with ⟨k, hk, rfl⟩ | hq
    · exact hD.2 k _ (wsX_get G X hk)
    · exact hA q (Nat.le_trans hS.1 hq)
  subst hU
  exact ⟨rfl, ⟨hP, ⟨hD.1, fun k q hq => by obtain ⟨h1, rfl⟩ := wsX_of hq; exact Or.inl ⟨k, h1, rfl⟩⟩⟩, va_K.moved hW.alike hK, zNw.warm hW hNw, ⟨((hZs.1.kept hS.2.1).narrow hAA).moved hW.alike, ((hZs.2.kept hS.2.1).narrow hAA).moved hW.alike⟩, va_X.moved hW.alike (hSx.1.kept (hS.2.1 _ hSx.2.1 hSx.2.2)), Nat.lt_of_lt_of_le hSx.2.1 hS.1, fun q => hSx.2.2 (hAA _ q)⟩
section ZC
variable {l : Launch} {own : String} {cc : ByteArray} {nL : Nat} {G : Geo} {fr lo um : Nat} {J : JT} {JX : JXT} {X : St} {u pc : Nat} {lv : List (Nat × Value)} {st stk : List Value} {y : MethodName} {bc : ByteArray} {n0 fr' lo' u' idx na : Nat} {ret : Option FieldType} {ar : Geo → List Value} {K : Option Value → St → Prop} {KX : String → St → Prop} {hh : List (Nat × Nat × Nat × Nat)}
/-- what is known of a method's name -/
def zNm (y : MethodName) (na : Nat) : Prop := (y.cls ≠ "java/lang/invoke/MethodHandle" ∧ y.cls ≠ "java/lang/invoke/VarHandle") ∧ (parseMethodDescriptor y.desc).map (fun d => d.parameters.length) = some na
theorem zNm.len (h : zNm y na) : ∀ sig, parseMethodDescriptor y.desc = some sig → na = sig.parameters.length := fun sig h9 => by
  have h2 := h.2
  rw [h9] at h2
  exact (Option.some.inj h2).symm

theorem r_cV (C : Cb l own cc nL G fr lo um J JX) {k ci N0 : Nat} {T0 : u_T} {fs : List (Option (Option Nat))} (As : List Value) (hM : Con l y bc n0 ret fr' lo' u' ar X K KX) (hcw : Cond.code y bc n0 ret ∈ lw_all) (him : Cond.instanceMethod y ∈ lw_all) (hse : Cond.selects y.cls y y ∈ lw_all) (hik : Cond.initialized y.cls ∈ lw_all) (hnm : zNm y na) (hlk : Cond.methodLink own idx y ∈ lw_all) (hdg : decode cc pc = .ok (.invokevirtual idx, 3)) (hk : k < 36 + Gn G) (hlay : lay k = (0, ci, fs)) (hc : ncl[ci]? = some (y.cls, T0, N0)) (har : ar G = .ref (G.2.1 k) :: As) (hna : As.length = na) (hstk : stk = As.reverse ++ .ref (G.2.1 k) :: st) (hR : fr' + 1 ≤ fr ∧ 8 + (n0 + 11) + lo' ≤ lo) (hu : u + u' ≤ um) (hs8 : (st.map fun v => v.category).sum ≤ 8) (kx : ∀ E X', KX E X' → JX X' (u + u') pc lv E) (kk : ∀ v X', K v X' → J X' (u + u') (pc + 3) lv (v.toList ++ st)) : J X u pc lv stk := by
  obtain ⟨p, e, R, s, m, args, below, meth, c, A, c0, s0, Q, ⟨hx, hb, hml, hown, hts, hK, hNw, hA, hZs, hfl, hfr, hlo, hRc, hRs, hSx⟩, rfl, rfl⟩ := C
  intro H locs ls hP hD hS hl
  have hq := wsX_get G X hk
  rw [sE_o G X hlay] at hq
  have hM9 := hM G H.size
  rw [har] at hM9
  subst hstk
  exact zcall (vx_runV (As := As) (rest := st) (C := y.cls) (own := own) (Ts := lw_all) ⟨hx, hb, hml, hown, hts⟩ hM9 ⟨⟨rfl, rfl, by rw [hfr]; exact hR.1, by rw [hlo]; exact hR.2, pay_in hts (good_all hcw), List.mem_cons_self, hts _ hcw, hts _ hik, hnm.1, hnm.len, hts _ hlk⟩, hts _ him, hts _ hse⟩ ⟨zblind, va_recv hK hP hc hq, fun U hU hW => ⟨rfl, zstart hP hD hS hK hNw hZs hSx hA hU hW⟩⟩ rfl hna hl.1 rfl (lv_room hs8) hdg ⟨by omega, by omega⟩) hP hD hS hl hA kx kk
theorem r_cVN (C : Cb l own cc nL G fr lo um J JX) {host : String} {k ci N0 : Nat} {T0 : u_T} {fs : List (Option (Option Nat))} (As : List Value) (hM : Con l y bc n0 ret fr' lo' u' ar X K KX) (hcw : Cond.code y bc n0 ret ∈ lw_all) (him : Cond.instanceMethod y ∈ lw_all) (hse : Cond.selects y.cls y y ∈ lw_all) (hik : Cond.initialized y.cls ∈ lw_all) (hnm : zNm y na) (hlk : Cond.methodLinkNest own idx y host ∈ lw_nst) (hdg : decode cc pc = .ok (.invokevirtual idx, 3)) (hk : k < 36 + Gn G) (hlay : lay k = (0, ci, fs)) (hc : ncl[ci]? = some (y.cls, T0, N0)) (har : ar G = .ref (G.2.1 k) :: As) (hna : As.length = na) (hstk : stk = As.reverse ++ .ref (G.2.1 k) :: st) (hR : fr' + 1 ≤ fr ∧ 8 + (n0 + 11) + lo' ≤ lo) (hu : u + u' ≤ um) (hs8 : (st.map fun v => v.category).sum ≤ 8) (kx : ∀ E X', KX E X' → JX X' (u + u') pc lv E) (kk : ∀ v X', K v X' → J X' (u + u') (pc + 3) lv (v.toList ++ st)) : J X u pc lv stk := by
  obtain ⟨p, e, R, s, m, args, below, meth, c, A, c0, s0, Q, ⟨hx, hb, hml, hown, hts, hK, hNw, hA, hZs, hfl, hfr, hlo, hRc, hRs, hSx⟩, rfl, rfl⟩ := C
  intro H locs ls hP hD hS hl
  have hq := wsX_get G X hk
  rw [sE_o G X hlay] at hq
  have hM9 := hM G H.size
  rw [har] at hM9
  subst hstk
  exact zcall (vx_runVN (As := As) (rest := st) (C := y.cls) (own := own) (Ts := lw_all) ⟨hx, hb, hml, hown, hts⟩ hM9 ⟨⟨⟨rfl, rfl, by rw [hfr]; exact hR.1, by rw [hlo]; exact hR.2, pay_in hts (good_all hcw), List.mem_cons_self⟩, hts _ hcw, hts _ hik, hnm.1, hnm.len, va_Nw.use rfl (hNw.1 _ hlk)⟩, hts _ him, hts _ hse⟩ ⟨zblind, va_recv hK hP hc hq, fun U hU hW => ⟨rfl, zstart hP hD hS hK hNw hZs hSx hA hU hW⟩⟩ rfl hna hl.1 rfl (lv_room hs8) hdg ⟨by omega, by omega⟩) hP hD hS hl hA kx kk
theorem r_cS (C : Cb l own cc nL G fr lo um J JX) (As : List Value) (hM : Con l y bc n0 ret fr' lo' u' ar X K KX) (hcw : Cond.code y bc n0 ret ∈ lw_all) (hst0 : Cond.static y ∈ lw_all) (hik : Cond.initialized y.cls ∈ lw_all) (hnm : zNm y na) (hlk : Cond.methodLink own idx y ∈ lw_all) (hdg : decode cc pc = .ok (.invokestatic idx, 3)) (har : ar G = As) (hna : As.length = na) (hstk : stk = As.reverse ++ st) (hR : fr' + 1 ≤ fr ∧ 8 + (n0 + 11) + lo' ≤ lo) (hu : u + u' ≤ um) (hs8 : (st.map fun v => v.category).sum ≤ 8) (kx : ∀ E X', KX E X' → JX X' (u + u') pc lv E) (kk : ∀ v X', K v X' → J X' (u + u') (pc + 3) lv (v.toList ++ st)) : J X u pc lv stk := by
  obtain ⟨p, e, R, s, m, args, below, meth, c, A, c0, s0, Q, ⟨hx, hb, hml, hown, hts, hK, hNw, hA, hZs, hfl, hfr, hlo, hRc, hRs, hSx⟩, rfl, rfl⟩ := C
  intro H locs ls hP hD hS hl
  have hM9 := hM G H.size
  rw [har] at hM9
  subst hstk
  exact zcall (vx_runS (As := As) (rest := st) (own := own) (Ts := lw_all) ⟨hx, hb, hml, hown, hts⟩ hM9 ⟨⟨rfl, rfl, by rw [hfr]; exact hR.1, by rw [hlo]; exact hR.2, pay_in hts (good_all hcw), List.mem_cons_self, hts _ hcw, hts _ hik, hnm.1, hnm.len, hts _ hlk⟩, hts _ hst0⟩ ⟨zblind, fun U hU hW => ⟨rfl, zstart hP hD hS hK hNw hZs hSx hA hU hW⟩⟩ rfl hna hl.1 rfl (lv_room hs8) hdg ⟨by omega, by omega⟩) hP hD hS hl hA kx kk
theorem r_cSN (C : Cb l own cc nL G fr lo um J JX) {host : String} (As : List Value) (hM : Con l y bc n0 ret fr' lo' u' ar X K KX) (hcw : Cond.code y bc n0 ret ∈ lw_all) (hst0 : Cond.static y ∈ lw_all) (hik : Cond.initialized y.cls ∈ lw_all) (hnm : zNm y na) (hlk : Cond.methodLinkNest own idx y host ∈ lw_nst) (hdg : decode cc pc = .ok (.invokestatic idx, 3)) (har : ar G = As) (hna : As.length = na) (hstk : stk = As.reverse ++ st) (hR : fr' + 1 ≤ fr ∧ 8 + (n0 + 11) + lo' ≤ lo) (hu : u + u' ≤ um) (hs8 : (st.map fun v => v.category).sum ≤ 8) (kx : ∀ E X', KX E X' → JX X' (u + u') pc lv E) (kk : ∀ v X', K v X' → J X' (u + u') (pc + 3) lv (v.toList ++ st)) : J X u pc lv stk := by
  obtain ⟨p, e, R, s, m, args, below, meth, c, A, c0, s0, Q, ⟨hx, hb, hml, hown, hts, hK, hNw, hA, hZs, hfl, hfr, hlo, hRc, hRs, hSx⟩, rfl, rfl⟩ := C
  intro H locs ls hP hD hS hl
  have hM9 := hM G H.size
  rw [har] at hM9
  subst hstk
  exact zcall (vx_runSN (As := As) (rest := st) (own := own) (Ts := lw_all) ⟨hx, hb, hml, hown, hts⟩ hM9 ⟨⟨⟨rfl, rfl, by rw [hfr]; exact hR.1, by rw [hlo]; exact hR.2, pay_in hts (good_all hcw), List.mem_cons_self⟩, hts _ hcw, hts _ hik, hnm.1, hnm.len, va_Nw.use rfl (hNw.1 _ hlk)⟩, hts _ hst0, trivial⟩ ⟨zblind, fun U hU hW => ⟨rfl, zstart hP hD hS hK hNw hZs hSx hA hU hW⟩⟩ rfl hna hl.1 rfl (lv_room hs8) hdg ⟨by omega, by omega⟩) hP hD hS hl hA kx kk
theorem r_cSH (C : Cb l own cc nL G fr lo um J JX) (As : List Value) (hM : ConH l y bc n0 ret hh fr' lo' u' ar X K KX) (hcw : Cond.codeWith y bc n0 ret hh ∈ lw_all) (hst0 : Cond.static y ∈ lw_all) (hik : Cond.initialized y.cls ∈ lw_all) (hnm : zNm y na) (hlk : Cond.methodLink own idx y ∈ lw_all) (hdg : decode cc pc = .ok (.invokestatic idx, 3)) (har : ar G = As) (hna : As.length = na) (hstk : stk = As.reverse ++ st) (hR : fr' + 1 ≤ fr ∧ 8 + (n0 + 11) + lo' ≤ lo) (hu : u + u' ≤ um) (hs8 : (st.map fun v => v.category).sum ≤ 8) (kx : ∀ E X', KX E X' → JX X' (u + u') pc lv E) (kk : ∀ v X', K v X' → J X' (u + u') (pc + 3) lv (v.toList ++ st)) : J X u pc lv stk := by
  obtain ⟨p, e, R, s, m, args, below, meth, c, A, c0, s0, Q, ⟨hx, hb, hml, hown, hts, hK, hNw, hA, hZs, hfl, hfr, hlo, hRc, hRs, hSx⟩, rfl, rfl⟩ := C
  intro H locs ls hP hD hS hl
  have hM9 := hM G H.size
  rw [har] at hM9
  subst hstk
  exact zcall (vx_runSX (As := As) (rest := st) (own := own) (Ts := lw_all) ⟨hx, hb, hml, hown, hts⟩ hM9 ⟨⟨rfl, rfl, by rw [hfr]; exact hR.1, by rw [hlo]; exact hR.2, pay_in hts (good_allH hcw), List.mem_cons_self⟩, hts _ hcw, hts _ hik, hnm.1, hnm.len, hts _ hlk, hts _ hst0⟩ ⟨zblind, fun U hU hW => ⟨rfl, zstart hP hD hS hK hNw hZs hSx hA hU hW⟩⟩ rfl hna hl.1 rfl (lv_room hs8) hdg ⟨by omega, by omega⟩) hP hD hS hl hA kx kk
end ZC
