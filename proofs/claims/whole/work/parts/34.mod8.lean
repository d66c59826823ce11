/-! rows of stones end -/
def gEnd (m : Nat) : Nat → (Nat → Nat) → Bool
  | 0, _ => false
  | n + 1, p => match gNx m p with
    | none => true
    | some q => gEnd m n q
/-- the same, the row as a number -/
def gco (m : Nat) (p : Nat → Nat) : Nat → Nat
  | 0 => 0
  | n + 1 => gco m p n + p n * 8 ^ n
def gde (c i : Nat) : Nat := c / 8 ^ i % 8
def gEndC (m : Nat) : Nat → Nat → Bool
  | 0, _ => false
  | n + 1, c => match gNx m (gde c) with
    | none => true
    | some q => gEndC m n (gco m q m)
set_option maxRecDepth 100000 in
theorem gEndC_ok : gEndC 2 120 (gco 2 id 2) = true ∧ gEndC 3 120 (gco 3 id 3) = true ∧ gEndC 4 120 (gco 4 id 4) = true ∧ gEndC 5 120 (gco 5 id 5) = true := by decide +kernel
