/-- an amount from a book to another -/
def mvN (N : gN0) (f t a : Int) : gN0 := upN (upN N (9 + f) (N (9 + f) - a)) (9 + t) (upN N (9 + f) (N (9 + f) - a) (9 + t) + a)

