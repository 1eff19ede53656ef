/-! BASE: NONE or a number; a truth value as the machine has it -/
def rt_o : Option Nat → Int32
  | none => -1
  | some k => nI k
def rt_b (b : Bool) : Int32 := if b = true then 1 else 0
