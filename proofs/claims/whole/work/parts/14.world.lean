/-! the world of the law: the class's cells 0 .. 42, the reference's 43 .. 53; ints by a function g, hills by T, arrays by A; the reference's ints by gm, its arrays by Am -/
def wa (t : Nat → Int32) (b : Nat) : Nat → Int32 := fun k => if k < 4 then t (b + k) else 0
def wd (g : Nat → Int32) (T : Nat → Nat → Int32) (A : Nat → Nat → Int32) (gm : Nat → Int32) (Am : Nat → Nat → Int32) : am_H :=
  [.inr (8, [.ref 1, .ref 15, .ref 5, .ref 17, .ref 22, .ref 27, .ref 32, .ref 34, .ref 36, .ref 40, .ref 41, .int (g 0), .int (g 1)]),
   .inr (6, [.ref 2, .ref 3, .ref 4]), .inl (false, 8, A 0), .inl (false, 8, A 1), .inl (false, 320, A 2),
   .inr (3, [.int (g 11), .int (T 0 2), .int (T 0 0), .int (T 0 1), .int (T 0 3), .int (T 0 4), .ref 6, .ref 7, .ref 8, .ref 9]), .inl (false, 4, wa (T 0) 5), .inl (false, 4, wa (T 0) 9), .inl (false, 4, wa (T 0) 13), .inl (false, 4, wa (T 0) 17),
   .inr (3, [.int (g 12), .int (T 1 2), .int (T 1 0), .int (T 1 1), .int (T 1 3), .int (T 1 4), .ref 11, .ref 12, .ref 13, .ref 14]), .inl (false, 4, wa (T 1) 5), .inl (false, 4, wa (T 1) 9), .inl (false, 4, wa (T 1) 13), .inl (false, 4, wa (T 1) 17),
   .inr (7, [.ref 16, .int (g 2), .int (g 3), .int (g 4)]), .inl (false, 100, A 3),
   .inr (3, [.int (g 13), .int (T 2 2), .int (T 2 0), .int (T 2 1), .int (T 2 3), .int (T 2 4), .ref 18, .ref 19, .ref 20, .ref 21]), .inl (false, 4, wa (T 2) 5), .inl (false, 4, wa (T 2) 9), .inl (false, 4, wa (T 2) 13), .inl (false, 4, wa (T 2) 17),
   .inr (3, [.int (g 14), .int (T 3 2), .int (T 3 0), .int (T 3 1), .int (T 3 3), .int (T 3 4), .ref 23, .ref 24, .ref 25, .ref 26]), .inl (false, 4, wa (T 3) 5), .inl (false, 4, wa (T 3) 9), .inl (false, 4, wa (T 3) 13), .inl (false, 4, wa (T 3) 17),
   .inr (3, [.int (g 15), .int (T 4 2), .int (T 4 0), .int (T 4 1), .int (T 4 3), .int (T 4 4), .ref 28, .ref 29, .ref 30, .ref 31]), .inl (false, 4, wa (T 4) 5), .inl (false, 4, wa (T 4) 9), .inl (false, 4, wa (T 4) 13), .inl (false, 4, wa (T 4) 17),
   .inr (0, [.ref 33, .int (g 5), .int (g 6)]), .inl (false, 240, A 4),
   .inr (2, [.ref 5, .ref 10, .ref 35]), .inl (false, 4, A 5),
   .inr (5, [.ref 5, .ref 10, .ref 37, .ref 38, .ref 39, .int (g 7), .int (g 8)]), .inl (false, 16, A 6), .inl (false, 4, A 7), .inl (false, 4, A 8),
   .inr (4, [.ref 5, .ref 10, .ref 1]),
   .inr (1, [.ref 5, .ref 42, .int (g 9), .int (g 10)]), .inl (false, 16, A 9),
   .inr (9, [.ref 44, .int (gm 0), .int (gm 1), .ref 45, .ref 46, .ref 47, .ref 48, .ref 49, .int (gm 2), .int (gm 3), .int (gm 4), .ref 50, .int (gm 5), .int (gm 6), .int (gm 7), .int (gm 8), .ref 51, .ref 52, .ref 53]),
   .inl (false, 672, Am 0), .inl (true, 2, Am 1), .inl (false, 8, Am 2), .inl (false, 8, Am 3), .inl (false, 320, Am 4), .inl (false, 100, Am 5), .inl (false, 16, Am 6), .inl (false, 5, Am 7), .inl (false, 4, Am 8), .inl (false, 4, Am 9)]
