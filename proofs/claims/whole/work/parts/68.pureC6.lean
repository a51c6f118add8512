def alDP (P : PS) (F : FS) (gA : Nat → Nat) (pl : Nat → Nat → Nat) (a : Nat) (d : Int64) : Int64 := iterL (fun u d => d * 31 + (ansP P F (pl a) (gA a) u).toInt64) d 9
theorem alDP_e (P : PS) (F : FS) (gA : Nat → Nat) (pl : Nat → Nat → Nat) (a : Nat) (d : Int64) : iterL (fun u d => d * 31 + (ansP P F (pl a) (gA a) u).toInt64) d 9 = alDP P F gA pl a d := rfl
def cnDP (P : PS) (F : FS) (n : Nat) : Int64 := iterL (fun u d => d * 31 + (cntP P F n u).toInt64) 1303 9
theorem cnDP_e (P : PS) (F : FS) (n : Nat) : iterL (fun u d => d * 31 + (cntP P F n u).toInt64) 1303 9 = cnDP P F n := rfl
