-- needs: 10 11 12 13 14 15 20 21 22 23 30 31 32 33 34 35 36 37 38 40 41 42 56 57 65 66 67 68
variable {S : List (Nat × Nat)} {R : Nat → Nat → Option Nat} {I : Nat → Nat → Int32} {q : Nat → Nat} {s : St} {post : am_R}
