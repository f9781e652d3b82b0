def nL (n : Nat) : Int64 := Int64.ofNat n
