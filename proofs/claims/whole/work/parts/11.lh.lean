def px_LH (n : String) : List (Nat × Nat × Nat × Nat) := if n = "balance" then [(0, 12, 15, 13)] else if n = "interest" then [(0, 12, 15, 13)] else if n = "settle" then [(0, 9, 12, 13)] else if n = "night" then [(0, 10, 13, 13)] else if n = "coin" then [(0, 9, 12, 13)] else []
def px_ic : Nat := 148
def px_ik : Nat := 144
def px_xi : Nat := 13
abbrev px_xr : ByteArray := prog_26_method_4_code
