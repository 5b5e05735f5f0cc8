/-! the world of the law: cell 0 the RoastHouse (1 .. 42 what it holds), cell 43 the reference (44 .. 76 its arrays), cell 77 the long[1]; xs: exceptions that were thrown -/
def rl : Bool → Nat
  | false => 37
  | true => 9
def tg : Bool → Nat
  | false => 9
  | true => 37
def SH (b : Bool) (xs : sh_T) : sh_T :=
  .inr (9, [.ref 1, .ref 5, .ref 7, .ref 15, .ref 17, .ref 25, .ref 28, .ref 36, .ref (rl b), .int 0]) ::
  .inr (3, [.int 0, .ref 2, .ref 3, .ref 4]) ::
  .inl (.int, 12) ::
  .inl (.int, 12) ::
  .inl (.int, 36) ::
  .inr (7, [.ref 6, .int 0]) ::
  .inl (.byte, 600) ::
  .inr (5, [.ref 8, .ref (tg b), .int 0]) ::
  .inr (8, [.ref 5, .int 0, .int 0, .int 0, .int 0]) ::
  .inr (6, [.int 0, .ref 10, .ref 11, .ref 12, .ref 13, .int 0, .ref 14, .int 0]) ::
  .inl (.int, 16) ::
  .inl (.int, 16) ::
  .inl (.int, 16) ::
  .inl (.int, 600) ::
  .inl (.int, 16) ::
  .inr (4, [.int 0, .ref 16, .int 0, .int 0, .int 0, .int 0, .int 0, .int 0, .int 0, .int 0, .int 0, .int 0]) ::
  .inl (.int, 20) ::
  .inr (0, [.int 0, .int 0, .ref 18, .ref 19, .ref 20, .ref 21, .ref 22, .ref 23, .ref 24]) ::
  .inl (.int, 60) ::
  .inl (.int, 60) ::
  .inl (.int, 60) ::
  .inl (.int, 60) ::
  .inl (.int, 720) ::
  .inl (.int, 12) ::
  .inl (.int, 12) ::
  .inr (2, [.ref 26, .ref 27, .long 0, .long 0]) ::
  .inl (.int, 100) ::
  .inl (.int, 20) ::
  .inr (1, [.int 0, .ref 29, .ref 30, .ref 31, .int 0, .ref 32, .ref 33, .ref 34, .ref 35, .int 0]) ::
  .inl (.int, 12) ::
  .inl (.int, 3) ::
  .inl (.int, 3) ::
  .inl (.int, 6) ::
  .inl (.int, 6) ::
  .inl (.int, 6) ::
  .inl (.int, 6) ::
  .inl (.int, 10) ::
  .inr (6, [.int 0, .ref 38, .ref 39, .ref 40, .ref 41, .int 0, .ref 42, .int 0]) ::
  .inl (.int, 16) ::
  .inl (.int, 16) ::
  .inl (.int, 16) ::
  .inl (.int, 600) ::
  .inl (.int, 16) ::
  .inr (10, [.int 0, .ref 44, .int 0, .int 0, .ref 45, .ref 46, .ref 47, .int 0, .int 0, .ref 48, .ref 49, .ref 50, .ref 51, .ref 52, .ref 53, .ref 54, .int 0, .int 0, .int 0, .int 0, .ref 55, .ref 56, .ref 57, .ref 58, .ref 59, .int 0, .int 0, .ref 60, .ref 61, .ref 62, .int 0, .ref 63, .ref 64, .ref 65, .ref 66, .int 0, .int 0, .int 0, .int 0, .int 0, .int 0, .int 0, .int 0, .int 0, .int 0, .ref 67, .ref 68, .ref 69, .ref 70, .long 0, .long 0, .ref 71, .ref 72, .ref 73, .ref 74, .ref 75, .int 0, .int 0, .int 0, .ref 76]) ::
  .inl (.int, 600) ::
  .inl (.int, 602) ::
  .inl (.int, 602) ::
  .inl (.long, 602) ::
  .inl (.long, 10) ::
  .inl (.int, 2) ::
  .inl (.int, 32) ::
  .inl (.int, 32) ::
  .inl (.int, 32) ::
  .inl (.int, 1320) ::
  .inl (.int, 1320) ::
  .inl (.int, 7) ::
  .inl (.int, 7) ::
  .inl (.int, 7) ::
  .inl (.int, 7) ::
  .inl (.int, 660) ::
  .inl (.int, 12) ::
  .inl (.int, 12) ::
  .inl (.int, 36) ::
  .inl (.int, 720) ::
  .inl (.int, 60) ::
  .inl (.int, 60) ::
  .inl (.int, 20) ::
  .inl (.int, 60) ::
  .inl (.int, 12) ::
  .inl (.int, 100) ::
  .inl (.int, 20) ::
  .inl (.int, 3) ::
  .inl (.int, 3) ::
  .inl (.int, 6) ::
  .inl (.int, 6) ::
  .inl (.int, 12) ::
  .inl (.int, 10) ::
  .inl (.long, 1) :: xs
