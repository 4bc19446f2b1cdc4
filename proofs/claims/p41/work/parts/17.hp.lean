/-! the whole world at its handles: 0 the law's row of numbers, 1 to 21 the object and what hangs on it, then O; scalars I, rows of ints A, rows of longs L -/
def hp (I : Nat → Int32) (A : Nat → Nat → Int32) (L : Nat → Nat → Int64) (O : AH) : AH :=
  .inr (0, 400, .inl (A 30)) ::
  .inl (7, [.ref 2, .ref 10, .ref 11, .ref 13, .ref 16, .ref 20, .int (I 0), .int (I 1)]) ::
  .inl (5, [.ref 3, .ref 4, .ref 5, .ref 6, .ref 7, .ref 8, .ref 9, .int (I 2)]) ::
  .inr (0, 240, .inl (A 2)) :: .inr (0, 6, .inl (A 3)) :: .inr (0, 6, .inl (A 4)) :: .inr (0, 6, .inl (A 5)) :: .inr (0, 6, .inl (A 6)) :: .inr (1, 6, .inr (.inl (L 7))) :: .inr (1, 6, .inr (.inl (L 8))) ::
  .inl (2, [.ref 2, .int (I 3), .int (I 4), .int (I 5)]) ::
  .inl (1, [.ref 2, .ref 12]) ::
  .inr (0, 8, .inl (A 11)) ::
  .inl (4, [.ref 10, .ref 11, .ref 14, .int (I 6)]) ::
  .inl (0, [.ref 15, .int (I 7)]) ::
  .inr (1, 5, .inr (.inl (L 14))) ::
  .inl (6, [.ref 10, .ref 11, .ref 17, .ref 19, .int (I 8), .int (I 9)]) ::
  .inl (0, [.ref 18, .int (I 10)]) ::
  .inr (1, 5, .inr (.inl (L 17))) ::
  .inr (0, 1045, .inl (A 18)) ::
  .inl (3, [.ref 21, .int (I 11), .int (I 12)]) ::
  .inr (0, 4, .inl (A 20)) :: O
theorem AW.hp {X : XS} {mi pc : Nat} {lv : List (Nat × Value)} {st : List Value} {h h' : AH} {bc bs : Nat} {Q : AO → AH → Prop} (e : h = h') (k : AW X mi pc lv st h' bc bs Q) : AW X mi pc lv st h bc bs Q := e ▸ k
theorem ck_v {X : XS} {mi pc : Nat} {lv : List (Nat × Value)} {rest : List Value} {h : AH} {bc bs : Nat} {Q : AO → AH → Prop} (k : AW X mi (pc + 3) lv rest h bc bs Q) : CK X mi pc lv rest bc bs Q (.inl none) h := k
theorem ck_r {X : XS} {mi pc : Nat} {lv : List (Nat × Value)} {rest : List Value} {h : AH} {bc bs : Nat} {Q : AO → AH → Prop} {v : Value} (k : AW X mi (pc + 3) lv (v :: rest) h bc bs Q) : CK X mi pc lv rest bc bs Q (.inl (some v)) h := k
theorem ck_x {X : XS} {mi pc : Nat} {lv : List (Nat × Value)} {rest : List Value} {h : AH} {bc bs : Nat} {Q : AO → AH → Prop} {en : Nat} (hm : mH mi = []) (k : Q (.inr en) h) : CK X mi pc lv rest bc bs Q (.inr en) h := ⟨hm, k⟩
theorem hk_v {X : XS} {mi pc : Nat} {lv : List (Nat × Value)} {rest : List Value} {h : AH} {bc bs : Nat} {zs : List hT} {Q : AO → AH → Prop} (k : AW X mi (pc + 3) lv rest h bc bs Q) : HK X mi pc lv rest bc bs zs Q (.inl none) h := k
theorem hk_r {X : XS} {mi pc : Nat} {lv : List (Nat × Value)} {rest : List Value} {h : AH} {bc bs : Nat} {zs : List hT} {Q : AO → AH → Prop} {v : Value} (k : AW X mi (pc + 3) lv (v :: rest) h bc bs Q) : HK X mi pc lv rest bc bs zs Q (.inl (some v)) h := k
theorem lf {Q : AO → AH → Prop} {o o' : AO} {h : AH} (hq : Q o h) (e : o' = o) : Q o' h := e ▸ hq
theorem lfi {Q : AO → AH → Prop} {x y : Int32} {h : AH} (hq : Q (.inl (some (.int x))) h) (e : y = x) : Q (.inl (some (.int y))) h := e ▸ hq
theorem a_ldcI {X : XS} {mi pc : Nat} {lv : List (Nat × Value)} {rest : List Value} {h : AH} {bc bs : Nat} {Q : AO → AH → Prop} {i : Nat} {v : Int32} (d : decode (mB mi) pc = .ok (.ldc i, 2)) (hw : Cond.constant (mY mi).cls i v ∈ XU) (k : AW X mi (pc + 2) lv (.int v :: rest) h bc bs Q) : AW X mi pc lv rest h bc bs Q :=
  fun n0 p l e R s m args below meth c β D dA ad0 sa Qf C ad H locs cells slots ls ha hn hR hl hc hs => lv_ldc C.1 C.2.1 C.2.2.2.1 (C.2.2.2.2.1 _ hw) d (k n0 p l e R s m args below meth c β D dA ad0 sa Qf C ad H locs cells slots ls ha hn hR hl hc hs)
