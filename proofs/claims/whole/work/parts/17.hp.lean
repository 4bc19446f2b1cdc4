/-! the whole world at its handles: scalars I, rows of ints A (by handle), rows of longs L (by handle), the row of one double O -/
def hp (I : Nat → Int32) (A : Nat → Nat → Int32) (L : Nat → Nat → Int64) (O : Nat → UInt64) : AH := [
  .inl (7, [.ref 1, .ref 9, .ref 10, .ref 12, .ref 15, .ref 19, .int (I 0), .int (I 1)]),
  .inl (5, [.ref 2, .ref 3, .ref 4, .ref 5, .ref 6, .ref 7, .ref 8, .int (I 2)]),
  .inr (0, 240, .inl (A 2)), .inr (0, 6, .inl (A 3)), .inr (0, 6, .inl (A 4)), .inr (0, 6, .inl (A 5)), .inr (0, 6, .inl (A 6)), .inr (1, 6, .inr (.inl (L 7))), .inr (1, 6, .inr (.inl (L 8))),
  .inl (2, [.ref 1, .int (I 3), .int (I 4), .int (I 5)]),
  .inl (1, [.ref 1, .ref 11]),
  .inr (0, 8, .inl (A 11)),
  .inl (4, [.ref 9, .ref 10, .ref 13, .int (I 6)]),
  .inl (0, [.ref 14, .int (I 7)]),
  .inr (1, 5, .inr (.inl (L 14))),
  .inl (6, [.ref 9, .ref 10, .ref 16, .ref 18, .int (I 8), .int (I 9)]),
  .inl (0, [.ref 17, .int (I 10)]),
  .inr (1, 5, .inr (.inl (L 17))),
  .inr (0, 1045, .inl (A 18)),
  .inl (3, [.ref 20, .int (I 11), .int (I 12)]),
  .inr (0, 4, .inl (A 20)),
  .inl (8, [.ref 22, .ref 23, .ref 24, .ref 25, .ref 26, .ref 27, .ref 28, .ref 29, .ref 30, .ref 31, .ref 32, .ref 33, .ref 34, .int (I 20), .int (I 21), .int (I 22), .int (I 23), .int (I 24), .int (I 25), .int (I 26), .int (I 27), .int (I 28), .int (I 29)]),
  .inr (0, 240, .inl (A 22)), .inr (0, 6, .inl (A 23)), .inr (0, 8, .inl (A 24)), .inr (0, 6, .inl (A 25)), .inr (0, 6, .inl (A 26)), .inr (3, 6, .inl (A 27)), .inr (3, 24, .inl (A 28)), .inr (0, 6, .inl (A 29)), .inr (0, 6, .inl (A 30)), .inr (0, 6, .inl (A 31)), .inr (0, 30, .inl (A 32)), .inr (0, 5, .inl (A 33)), .inr (0, 24, .inl (A 34)),
  .inr (1, 1, .inr (.inl (L 35))),
  .inr (2, 1, .inr (.inr (.inr (.inl O))))]
theorem AW.hp {X : XS} {mi pc : Nat} {lv : List (Nat × Value)} {st : List Value} {h h' : AH} {bc bs : Nat} {Q : AO → AH → Prop} (e : h = h') (k : AW X mi pc lv st h' bc bs Q) : AW X mi pc lv st h bc bs Q := e ▸ k
theorem ck_v {X : XS} {mi pc : Nat} {lv : List (Nat × Value)} {rest : List Value} {h : AH} {bc bs : Nat} {Q : AO → AH → Prop} (k : AW X mi (pc + 3) lv rest h bc bs Q) : CK X mi pc lv rest bc bs Q (.inl none) h := k
theorem ck_r {X : XS} {mi pc : Nat} {lv : List (Nat × Value)} {rest : List Value} {h : AH} {bc bs : Nat} {Q : AO → AH → Prop} {v : Value} (k : AW X mi (pc + 3) lv (v :: rest) h bc bs Q) : CK X mi pc lv rest bc bs Q (.inl (some v)) h := k
theorem ck_x {X : XS} {mi pc : Nat} {lv : List (Nat × Value)} {rest : List Value} {h : AH} {bc bs : Nat} {Q : AO → AH → Prop} {en : Nat} (hm : mH mi = []) (k : Q (.inr en) h) : CK X mi pc lv rest bc bs Q (.inr en) h := ⟨hm, k⟩
theorem hk_v {X : XS} {mi pc : Nat} {lv : List (Nat × Value)} {rest : List Value} {h : AH} {bc bs : Nat} {zs : List hT} {Q : AO → AH → Prop} (k : AW X mi (pc + 3) lv rest h bc bs Q) : HK X mi pc lv rest bc bs zs Q (.inl none) h := k
theorem hk_r {X : XS} {mi pc : Nat} {lv : List (Nat × Value)} {rest : List Value} {h : AH} {bc bs : Nat} {zs : List hT} {Q : AO → AH → Prop} {v : Value} (k : AW X mi (pc + 3) lv (v :: rest) h bc bs Q) : HK X mi pc lv rest bc bs zs Q (.inl (some v)) h := k
theorem lf {Q : AO → AH → Prop} {o o' : AO} {h : AH} (hq : Q o h) (e : o' = o) : Q o' h := e ▸ hq
theorem lfi {Q : AO → AH → Prop} {x y : Int32} {h : AH} (hq : Q (.inl (some (.int x))) h) (e : y = x) : Q (.inl (some (.int y))) h := e ▸ hq
theorem a_ldcI {X : XS} {mi pc : Nat} {lv : List (Nat × Value)} {rest : List Value} {h : AH} {bc bs : Nat} {Q : AO → AH → Prop} {i : Nat} {v : Int32} (d : decode (mB mi) pc = .ok (.ldc i, 2)) (hw : Cond.constant (mY mi).cls i v ∈ XU) (k : AW X mi (pc + 2) lv (.int v :: rest) h bc bs Q) : AW X mi pc lv rest h bc bs Q :=
  fun n0 p l e R s m args below meth c β D dA ad0 sa Qf C ad H locs cells slots ls ha hn hR hl hc hs => lv_ldc C.1 C.2.1 C.2.2.2.1 (C.2.2.2.2.1 _ hw) d (k n0 p l e R s m args below meth c β D dA ad0 sa Qf C ad H locs cells slots ls ha hn hR hl hc hs)
