
def okW (st w : Nat) (x y : Int32) : Bool := inB x 0 4 && inB y 1 99 && decide (st ≠ 0) && decide (w < 5)
def r_walker (st w : Nat) (x y : Int32) : Int32 := if inB x 0 4 && inB y 1 99 then (if st = 0 then -103 else if w = 5 then -104 else nI w) else -102
def okS (pg : Nat → Nat) (pm : Nat) : Bool := decide ((flt pg pm 0 0 0).1 = pm) && decide ((flt pg pm 0 0 0).2.1 = 3)
