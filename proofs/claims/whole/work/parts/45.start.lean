/-! the start -/
def zT0 : zMI := fun k j => if k = 64 then (if j < 4 then -1 else 0) else if k = 1 ∨ k = 10 ∨ k = 19 ∨ k = 28 then (if j = 11 then 1 else 0) else if k = 50 then (if j = 7 then 1 else 0) else 0
def zG0 : zG := (0, 0, fun _ => 0, fun _ _ => 0, fun _ _ => 0, fun _ => 0, fun _ => 0, fun _ => 0, 0, fun _ => 0, 1)
def zS0 : gSh := (fun _ => -1, fun _ => 0, fun _ _ => 0)
theorem JJ0 : JJ zT0 := by
  refine ⟨zG0, none, (0, fun _ => 0), zS0, ⟨⟨⟨⟨Nat.zero_le _, Nat.le_refl _⟩, fun p hp => absurd hp (Nat.not_lt_zero p), fun p q hp => absurd hp (Nat.not_lt_zero p), fun s hs => absurd hs (Nat.not_lt_zero s), fun s w hs => absurd hs (Nat.not_lt_zero s), fun s hs => absurd hs (Nat.not_lt_zero s), ⟨Or.inl rfl, fun z => absurd z (by decide)⟩, by decide⟩, fun p hp => absurd hp (Nat.not_lt_zero p)⟩, fun k hk => (by cases hk), fun n hn => ⟨⟨by show (-1 : Int) ≤ -1; omega, by show (-1 : Int) ≤ 2; omega⟩, ⟨by show (0 : Int) ≤ 0; omega, by show (0 : Int) ≤ 24; omega⟩, fun i hi => ⟨by show (-2147483648 : Int) ≤ 0; omega, by show (0 : Int) < 2147483648; omega⟩⟩⟩, ⟨⟨⟨rfl, rfl, rfl, rfl⟩, fun s hs => absurd hs (Nat.not_lt_zero s), fun s w hs => absurd hs (Nat.not_lt_zero s), fun p hp => absurd hp (Nat.not_lt_zero p), rfl, rfl⟩, rfl, ⟨rfl, fun i hi => absurd hi (Nat.not_lt_zero i), Nat.zero_le _, fun i hi => absurd hi (Nat.not_lt_zero i)⟩, fun n hn => ?_⟩, ⟨⟨⟨rfl, rfl, rfl, rfl⟩, fun s hs => absurd hs (Nat.not_lt_zero s), fun s w hs => absurd hs (Nat.not_lt_zero s), fun p hp => absurd hp (Nat.not_lt_zero p), rfl, rfl⟩, rfl, ⟨rfl, fun i hi => absurd hi (Nat.not_lt_zero i), Nat.zero_le _, fun i hi => absurd hi (Nat.not_lt_zero i)⟩, fun n hn => ?_⟩⟩
  · rcases (by omega : n = 0 ∨ n = 1 ∨ n = 2 ∨ n = 3) with rfl | rfl | rfl | rfl <;> exact ⟨rfl, fun z => absurd z (by decide), rfl, fun i _ => rfl⟩
  · refine ⟨?_, rfl, fun i _ => rfl⟩
    show (if n < 4 then (-1 : Int) else 0) = -1
    rw [if_pos hn]
