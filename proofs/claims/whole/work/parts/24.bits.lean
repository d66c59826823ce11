/-! orders: bits, rows of stones, the next row by the alphabet -/
abbrev gbit (set s : Nat) : Prop := (set / 2 ^ s) % 2 = 1
def gel (set : Nat) : Nat → List Nat
  | 0 => []
  | n + 1 => gel set n ++ (if gbit set n then [n] else [])
theorem gel_mono (set n : Nat) : ∀ k, (gel set n).length ≤ (gel set (n + k)).length
  | 0 => Nat.le_refl _
  | k + 1 => by
    have := gel_mono set n k
    show _ ≤ (gel set (n + k) ++ _).length
    rw [List.length_append]
    omega
theorem gel_lt {set : Nat} : ∀ {n : Nat} {x : Nat}, x ∈ gel set n → x < n ∧ gbit set x
  | 0, x, h => by cases h
  | n + 1, x, h => by
    rcases List.mem_append.mp h with h | h
    · exact ⟨by have := (gel_lt h).1; omega, (gel_lt h).2⟩
    · split at h
      · rename_i c
        rw [List.mem_singleton.mp h]
        exact ⟨Nat.lt_succ_self _, c⟩
      · cases h
/-- the JDK's bitCount -/
def zbc (x : Int32) : Int32 :=
  let sh := fun (x : Int32) (k : Int32) => (x.toUInt32 >>> (k.toUInt32 &&& Int32.toUInt32 31)).toInt32
  let a := x - (sh x 1 &&& zi 1431655765)
  let b := (a &&& zi 858993459) + (sh a 2 &&& zi 858993459)
  let c := (b + sh b 4) &&& zi 252645135
  let e := c + sh c 8
  let f := e + sh e 16
  f &&& zi 63
set_option maxRecDepth 100000 in
theorem zbc_ok : ∀ n : Nat, n < 4096 → zbc (zi (n : Int)) = zi ((gel n 12).length : Int) := by decide +kernel
