/-- which kind of thing a row of things holds: rows 0 ints, 1 bytes, 2 longs, 3 to 8 things -/
def am_tq (t : Nat) : Nat := [0, 0, 0, 7, 9, 1, 4, 5, 0].getD t 0
