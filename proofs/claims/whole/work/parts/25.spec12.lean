def nRd (x : zX) (n : Nat → Int32) : Nat → Int32 := match x with
  | .inl _ => n
  | .inr y => fun i => if i < 126 then y.2.1 i else n i
