/-! a row set to what it holds -/
theorem va_self {α : Type} (f : Nat → α) (k : Nat) : va_up f k (f k) = f := by funext j; unfold va_up; split <;> simp_all
abbrev okC (I : Nat → Int32) (A : Nat → Nat → Int32) (c : Int32) : Prop := f_fb I A c = 0