/-! the first setup is accepted: by evaluation -/
def fi_M0 : cl_M := fun _ _ => 0
def fi_run (M : cl_M) : Option (Int32 × cl_M) := cl_b2 (f_X3_readHead M 1 4) (fun v M2 => if v = 0 then none else f_X3_readCommands M2 1 4)
def fi_good (x : Option (Int32 × cl_M)) : Bool := match x with
  | some (v, _) => decide (0 ≤ v)
  | none => false
set_option maxRecDepth 100000 in
theorem fi_ok : fi_good ((f_X3_appendText fi_M0 1 22).bind fi_run) = true := by decide +kernel
