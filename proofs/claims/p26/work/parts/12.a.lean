-- Integer.bitCount and the model's bits count the bits
def sw1 (n : Nat) : Nat := (4294967296 - (n / 2 &&& 1431655765) + n) % 4294967296
def sw2 (a : Nat) : Nat := ((a &&& 858993459) + (a / 4 &&& 858993459)) % 4294967296
def sw3 (b : Nat) : Nat := (b + b / 16) % 4294967296 &&& 252645135
def sw4 (c : Nat) : Nat := (c + c / 256) % 4294967296
def sw5 (d : Nat) : Nat := (d + d / 65536) % 4294967296
def sw (n : Nat) : Nat := sw5 (sw4 (sw3 (sw2 (sw1 n)))) &&& 63
def chk : Nat → Nat → Nat → Bool
  | 0, n, c => Nat.beq (sw n) c
  | d + 1, n, c => and (chk d n c) (chk d (n + 2 ^ d) (c + 1))
set_option maxRecDepth 100000 in
set_option maxHeartbeats 4000000 in
theorem chk_ok : chk 16 0 0 = true := by decide +kernel

