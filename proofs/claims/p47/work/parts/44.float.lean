section GFL
variable {E : gE} {own : String} {nL : Nat} {p : Program} {l : Launch} {e : Env} {R : Room} {s : State} {m : MethodId} {args : Array Value} {below : List Frame} {meth : Method} {c : Code} {Q : State → Prop} {pc k n : Nat} {L r : List aV} {Sh : gSh} {V : gV} {z : Int} {cc : ByteArray}
/-- the bits of a float, as a number -/
def fb (x : UInt32) : Int := (x.toNat : Int)
end GFL
section GFR
variable {P : gPo} {rm : Room} {E : gE} {own : String} {nL : Nat} {p : Program} {l : Launch} {e : Env} {s : State} {m : MethodId} {args : Array Value} {below : List Frame} {meth : Method} {c : Code} {pc k n : Nat} {L : List aV} {Sh : gSh} {V : gV} {z : Int} {cc : ByteArray}
end GFR
