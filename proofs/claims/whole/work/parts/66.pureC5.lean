abbrev fpP (P : PS) (F : FS) (sz : Nat) (x1 y1 x2 y2 : Int32) : PS := nwP P sz (nI (fC F)) 0 (bx4 x1 y1 x2 y2) 0
def apP (P : PS) (q r : Nat) : PS := sS (sH (sA P q (insF (pA P q) (pS P q) (pS P q) r)) r (some q)) q (pS P q + 1)
def cF2 (F : FS) (sz : Nat) : FS := sC (sAl F (va_up (fA F) (fC F) (some sz))) (fC F + 1)
