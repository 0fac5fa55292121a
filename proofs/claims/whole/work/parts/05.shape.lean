/-! THE SHAPE (by program): the handles in the order in which the law makes its objects and arrays: 0.. the class, 57.. the reference, 548 the long[1] -/
def shL : List (Nat × Nat × Nat) := [(0, 8, 0), (0, 7, 0), (1, 600, 0), (0, 6, 0), (1, 6, 0), (1, 10, 0), (1, 10, 0), (1, 10, 0), (1, 10, 0), (1, 12, 0), (1, 6, 0), (1, 6, 0), (0, 6, 0), (1, 6, 0), (1, 10, 0), (1, 10, 0), (1, 10, 0), (1, 10, 0), (1, 12, 0), (1, 6, 0), (1, 6, 0), (0, 1, 0), (1, 150, 0), (1, 150, 0), (1, 7, 0), (1, 150, 0), (0, 1, 0), (1, 150, 0), (1, 150, 0), (1, 7, 0), (1, 150, 0), (0, 5, 0), (1, 150, 0), (1, 150, 0), (1, 150, 0), (1, 6, 0), (1, 6, 0), (0, 2, 0), (1, 6, 0), (1, 61, 0), (0, 2, 0), (1, 6, 0), (1, 61, 0), (0, 4, 0), (1, 69, 0), (1, 6, 0), (1, 6, 0), (1, 6, 0), (0, 3, 0), (1, 1104, 0), (1, 3522, 0), (0, 0, 0), (0, 4, 0), (1, 69, 0), (1, 6, 0), (1, 6, 0), (1, 6, 0), (0, 9, 0), (1, 600, 0), (1, 2, 0), (1, 6, 0), (1, 6, 0), (1, 6, 0), (1, 6, 0), (1, 12, 0), (1, 12, 0), (2, 10, 67)] ++ (List.replicate 10 (1, 4, 0) ++ ([(2, 10, 78)] ++ (List.replicate 10 (1, 4, 0) ++ ([(2, 6, 89), (1, 2, 0), (1, 2, 0), (1, 2, 0), (1, 2, 0), (1, 2, 0), (1, 2, 0), (2, 6, 96), (1, 2, 0), (1, 2, 0), (1, 2, 0), (1, 2, 0), (1, 2, 0), (1, 2, 0), (2, 160, 103)] ++ (List.replicate 160 (1, 2, 0) ++ ([(2, 160, 264)] ++ (List.replicate 160 (1, 2, 0) ++ ([(2, 6, 425), (1, 2, 0), (1, 2, 0), (1, 2, 0), (1, 2, 0), (1, 2, 0), (1, 2, 0), (2, 6, 432), (1, 2, 0), (1, 2, 0), (1, 2, 0), (1, 2, 0), (1, 2, 0), (1, 2, 0), (1, 160, 0), (1, 7, 0), (2, 80, 441)] ++ (List.replicate 80 (1, 3, 0) ++ ([(1, 63, 0), (1, 63, 0), (1, 6, 0), (1, 6, 0), (1, 6, 0), (2, 16, 527)] ++ (List.replicate 16 (1, 63, 0) ++ ([(2, 3, 544), (1, 1072, 0), (1, 1072, 0), (1, 1072, 0), (1, 61, 0), (3, 1, 0)]))))))))))))
/-- of a handle: (0, class, 0) an object, (1, n, 0) an int row, (2, n, k) a row of rows k, k+1 .., (3, n, 0) a long row -/
def shp (h : Nat) : Nat × Nat × Nat := shL.getD h (9, 0, 0)
/-- an object's fields: some k: a reference to handle k, none: an int -/
def fsh (h : Nat) : List (Option Nat) := match h with
  | 0 => [some 1, some 3, some 12, some 21, some 26, some 31, some 37, some 40, some 43, some 48, some 51, none, none, none]
  | 1 => [some 2, none, none, none, none, none, none, none]
  | 3 => [some 4, some 5, some 6, some 7, some 8, some 9, some 10, some 11, none, none, none, none, none, none]
  | 12 => [some 13, some 14, some 15, some 16, some 17, some 18, some 19, some 20, none, none, none, none, none, none]
  | 21 => [some 22, some 23, some 24, some 25, none]
  | 26 => [some 27, some 28, some 29, some 30, none]
  | 31 => [some 32, some 33, some 34, some 35, some 36, none, none, none]
  | 37 => [some 38, some 39, none]
  | 40 => [some 41, some 42, none]
  | 43 => [some 44, some 45, some 46, some 47]
  | 48 => [some 49, some 50, none, none]
  | 51 => [some 3, some 21, some 43, some 52]
  | 52 => [some 53, some 54, some 55, some 56]
  | 57 => [none, none, none, none, none, none, none, none, none, some 58, some 59, some 60, some 61, some 62, some 63, some 64, some 65, some 66, some 77, some 88, some 95, none, none, some 102, some 263, some 424, some 431, some 438, some 439, some 440, none, some 521, some 522, some 523, some 524, some 525, some 526, some 543, none, none, none, none, none, none, none, none, none, some 547, none, none]
  | _ => []
def R_IAE : String := "java/lang/IllegalArgumentException"
def R_NSE : String := "java/util/NoSuchElementException"
def T_non : u_T := fun _ => ("", "", "", false)
abbrev CLX : List vw_C := vwCl ++ [(R_IAE, T_non, 0), (R_NSE, T_non, 0)]
def strT : List String := ["a number is out of its range", "house", "thing", "tide", "find", "rent", "rope", "depth", "lost", "wet", "moon", "least", "most", "lift", "lower", "tie", "untie", "bag", "again", "there is no such one"]
def strLen : List Nat := [28, 5, 5, 4, 4, 4, 4, 5, 4, 3, 4, 5, 4, 4, 5, 3, 5, 3, 5, 20]
def strByt : List (List Int32) := [[97, 32, 110, 117, 109, 98, 101, 114, 32, 105, 115, 32, 111, 117, 116, 32, 111, 102, 32, 105, 116, 115, 32, 114, 97, 110, 103, 101], [104, 111, 117, 115, 101], [116, 104, 105, 110, 103], [116, 105, 100, 101], [102, 105, 110, 100], [114, 101, 110, 116], [114, 111, 112, 101], [100, 101, 112, 116, 104], [108, 111, 115, 116], [119, 101, 116], [109, 111, 111, 110], [108, 101, 97, 115, 116], [109, 111, 115, 116], [108, 105, 102, 116], [108, 111, 119, 101, 114], [116, 105, 101], [117, 110, 116, 105, 101], [98, 97, 103], [97, 103, 97, 105, 110], [116, 104, 101, 114, 101, 32, 105, 115, 32, 110, 111, 32, 115, 117, 99, 104, 32, 111, 110, 101]]
/-- each place of a constant pool that names a text: the class, the place, the text, its number -/
def strL : List (String × Nat × String × Nat) := [("TideLodger", 365, "a number is out of its range", 0), ("TideLodger$Street", 80, "house", 1), ("TideLodger$Street", 93, "thing", 2), ("TideLodger$Street", 98, "tide", 3), ("TideLodger$Street", 103, "find", 4), ("TideLodger$Street", 108, "rent", 5), ("TideLodger$Street", 113, "rope", 6), ("TideLodger$Law", 92, "depth", 7), ("TideLodger$Law", 98, "lost", 8), ("TideLodger$Law", 100, "wet", 9), ("TideLodger$Law", 102, "tide", 3), ("TideLodger$Law", 104, "moon", 10), ("TideLodger$Law", 106, "rent", 5), ("TideLodger$Law", 108, "house", 1), ("TideLodger$Law", 110, "least", 11), ("TideLodger$Law", 112, "most", 12), ("TideLodger$Steps", 99, "lift", 13), ("TideLodger$Steps", 105, "lower", 14), ("TideLodger$Steps", 107, "tie", 15), ("TideLodger$Steps", 109, "untie", 16), ("TideLodger$Steps", 111, "bag", 17), ("TideLodger$Steps", 113, "tide", 3), ("TideLodger$Steps", 115, "again", 18), ("TideLodger", 358, "there is no such one", 19)]
abbrev nStr : Nat := 20
abbrev nHA : Nat := 57
abbrev nHB : Nat := 548
abbrev nHC : Nat := 549
