/-! THE CLASS'S OWN CELL: changed, leftOutCount -/
def bsE (ad : Nat → Nat) (cg lo : Int) : va_E := eO 8 [.ref (ad 1), .ref (ad 2), .ref (ad 3), .ref (ad 8), .ref (ad 9), .ref (ad 10), .ref (ad 11), .int (iv cg), .int (iv lo)]
def as4 (g : Nat → Int) (a b c d : Int) : Nat → Int := va_up (va_up (va_up (va_up g 0 a) 1 b) 2 c) 3 d
