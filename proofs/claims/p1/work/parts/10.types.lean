/-! ===== a machine of small numbers beside the machine: its words =====
values: (0,n) the int n, (1,k) the symbol k, (2,_) some int, (3,n) the long n, (4,_) some long, (5,_) null, (6,k) the cell k, (7,j) the constant thing j
cells: kind (0 object, 1 int[], 2 byte[], 3 boolean[], 4 long[], 5 Word[], 6 World[]), number of the object's kind or length, default, what differs from it
code: place, instruction, its length, five numbers
-/
abbrev ai_V : Type := Nat × Nat
abbrev ai_C : Type := Nat × Nat × ai_V × List (Nat × ai_V)
abbrev ai_H : Type := List ai_C
abbrev ai_E : Type := List (Nat × Nat)
abbrev ai_N : Type := Nat × Instr × Nat × Nat × Nat × Nat × Nat × Nat
/-- how many cells there are, the cells (the youngest first), bounds of the symbols, cells and slots made -/
abbrev ai_W : Type := Nat × ai_H × ai_E × Nat × Nat
/-- locals by their places; (9, 0): none -/
abbrev ai_L : Type := List ai_V
/-- an end: what is answered, the cells, the bounds -/
abbrev ai_O : Type := Option ai_V × Nat × ai_H × ai_E
/-- a method: locals, code, cells and slots that it may make -/
abbrev ai_M : Type := Nat × List ai_N × Nat × Nat
abbrev ai_P : Type := Option (List ai_O)
abbrev ai_Q : Type := ai_L → List ai_V → ai_W → ai_P
/-- how deep calls may go, method, place, the code from there on -/
abbrev ai_X : Type := Nat → ai_M → Nat → List ai_N → ai_Q
/-- the run, the depth, the method, the place -/
abbrev ai_K : Type := ai_X × Nat × ai_M × Nat
/-- an instruction: what is behind it, what is at a place, the rest -/
abbrev ai_D : Type := ai_Q → (Nat → ai_Q) → ai_K → ai_Q
