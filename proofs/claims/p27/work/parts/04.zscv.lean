/-! a saved scene: what its cells hold -/
abbrev SCV : Type := (Nat → Int32) × Int32 × (Nat → Int32) × (Nat → Int32) × (Nat → Int32) × (Nat → Int32) × (Nat → Int32) × (Nat → Int32) × (Nat → Int32) × (Nat → Int32) × (Nat → Int32) × (Nat → Int32) × Int32 × Int32 × Int32 × Int32
def scb (cI cC cZ cR : ClassId) (a : Nat → Nat) (v : SCV) : va_W := ws_scene cI cC cZ cR (a 0) (a 1) (a 2) (a 3) (a 4) (a 5) (a 6) (a 7) (a 8) (a 9) (a 10) (a 11) (a 12) (a 13) v.1 v.2.1 v.2.2.1 v.2.2.2.1 v.2.2.2.2.1 v.2.2.2.2.2.1 v.2.2.2.2.2.2.1 v.2.2.2.2.2.2.2.1 v.2.2.2.2.2.2.2.2.1 v.2.2.2.2.2.2.2.2.2.1 v.2.2.2.2.2.2.2.2.2.2.1 v.2.2.2.2.2.2.2.2.2.2.2.1 v.2.2.2.2.2.2.2.2.2.2.2.2.1 v.2.2.2.2.2.2.2.2.2.2.2.2.2.1 v.2.2.2.2.2.2.2.2.2.2.2.2.2.2.1 v.2.2.2.2.2.2.2.2.2.2.2.2.2.2.2
def hwB' (cI cC cZ cR : ClassId) (pr : Nat → Bool) (ad : Nat → Nat → Nat) (sv : Nat → SCV) : Nat → va_W
  | 0 => []
  | n + 1 => hwB' cI cC cZ cR pr ad sv n ++ (if pr n = true then scb cI cC cZ cR (ad n) (sv n) else [])
/-- the blocks of the history's six places -/
def hwB (cI cC cZ cR : ClassId) (pr : Nat → Bool) (ad : Nat → Nat → Nat) (sv : Nat → SCV) : va_W := hwB' cI cC cZ cR pr ad sv 6
def hfn (pr : Nat → Bool) (ad : Nat → Nat → Nat) : Nat → Option Nat := fun i => if pr i = true then some (ad i 0) else none
