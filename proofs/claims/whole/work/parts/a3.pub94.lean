/-! THE LAW: the constructors, printed by wip/gen/pub94.py -/
def zTa : zHp := ([(99, 0), (0, 11)], fun _ _ => 0, fun _ _ => 0)
def zNew (hp : zHp) (b : Nat) : zHp := (hp.1 ++ [(0, b)], zcell hp.2.1 hp.1.length (fun _ => 0), zcell hp.2.2 hp.1.length (fun _ => 0))
def zCa0 (xs : Nat → Int32) : zCt := fun g i f => if g = 100 then (if i = 0 then xs f else 0) else if g = 0 ∨ g = 20 ∨ g = 40 then (if i = 0 then (if f = 1 then 1000 else if f = 2 then 100 else if f = 3 then 10 else 0) else 0) else if g = 389 ∨ g = 421 then -1 else 0

