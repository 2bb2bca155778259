def us (x : Int32) (k : Int32) : Int32 := (x.toUInt32 >>> (k.toUInt32 &&& Int32.toUInt32 31)).toInt32
def bc1 (x : Int32) : Int32 := x - (us x (nI 1) &&& nI 1431655765)
def bc2 (x : Int32) : Int32 := (x &&& nI 858993459) + (us x (nI 2) &&& nI 858993459)
def bc3 (x : Int32) : Int32 := (x + us x (nI 4)) &&& nI 252645135
def bc4 (x : Int32) : Int32 := x + us x (nI 8)
def bc5 (x : Int32) : Int32 := x + us x (nI 16)
def bcF (x : Int32) : Int32 := bc5 (bc4 (bc3 (bc2 (bc1 x)))) &&& nI 63
set_option maxRecDepth 100000 in
theorem bc_ok : ∀ m, m < 4096 → bcF (nI m) = nI (cnt (fun j => m.testBit j) 12) := by decide +kernel
def lowI (o : Nat) : Nat → Nat
  | 0 => 12
  | n + 1 => if o.testBit (12 - (n + 1)) then 12 - (n + 1) else lowI o n
def lowB (o : Nat) : Nat := if o = 0 then 0 else 2 ^ lowI o 12
set_option maxRecDepth 100000 in
theorem low_ok : ∀ o, o < 4096 → nI o &&& - nI o = nI (lowB o) := by decide +kernel
set_option maxRecDepth 100000 in
theorem low_sp : ∀ o, o < 4096 → o ≠ 0 → lowI o 12 < 12 ∧ o.testBit (lowI o 12) = true ∧ ∀ j, j < lowI o 12 → o.testBit j = false := by decide +kernel

