/-! the start -/
def zT0 : zMI := fun k j => if k = 64 then (if j < 4 then -1 else 0) else if k = 1 ∨ k = 10 ∨ k = 19 ∨ k = 28 then (if j = 11 then 1 else 0) else if k = 50 then (if j = 7 then 1 else 0) else 0
def zG0 : zG := (0, 0, fun _ => 0, fun _ _ => 0, fun _ _ => 0, fun _ => 0, fun _ => 0, fun _ => 0, 0, fun _ => 0, 1)
def zS0 : gSh := (fun _ => -1, fun _ => 0, fun _ _ => 0)
theorem JJ0 : JJ zT0 := by
  refine ⟨zG0, none, (0, fun _ => 0), zS0, ⟨⟨⟨⟨Nat.zero_le _, Nat.le_refl _⟩, fun p hp => absurd hp (Nat.not_lt_zero p), fun p q hp => absurd hp (Nat.not_lt_zero p), fun s hs => absurd hs (Nat.not_lt_zero s), fun s w hs => absurd hs (Nat.not_lt_zero s), fun s hs => absurd hs (Nat.not_lt_zero s), ⟨Or.inl rfl, fun z => absurd z (by decide)⟩, by decide⟩, fun p hp => absurd hp (Nat.not_lt_zero p)⟩, fun k hk => (by cases hk), fun n hn => ⟨⟨by show (-1 : Int) ≤ -1; omega, by show (-1 : Int) ≤ 2; omega⟩, ⟨by show (0 : Int) ≤ 0; omega, by show (0 : Int) ≤ 24; omega⟩, fun i hi => ⟨by show (-2147483648 : Int) ≤ 0; omega, by show (0 : Int) < 2147483648; omega⟩⟩⟩, ⟨⟨⟨rfl, rfl, rfl, rfl⟩, fun s hs => absurd hs (Nat.not_lt_zero s), fun s w hs => absurd hs (Nat.not_lt_zero s), fun p hp => absurd hp (Nat.not_lt_zero p), rfl, rfl⟩, rfl, ⟨rfl, fun i hi => absurd hi (Nat.not_lt_zero i), Nat.zero_le _, fun i hi => absurd hi (Nat.not_lt_zero i)⟩, fun n hn => ?_⟩, ⟨⟨⟨rfl, rfl, rfl, rfl⟩, fun s hs => absurd hs (Nat.not_lt_zero s), fun s w hs => absurd hs (Nat.not_lt_zero s), fun p hp => absurd hp (Nat.not_lt_zero p), rfl, rfl⟩, rfl, ⟨rfl, fun i hi => absurd hi (Nat.not_lt_zero i), Nat.zero_le _, fun i hi => absurd hi (Nat.not_lt_zero i)⟩, fun n hn => ?_⟩⟩
  · rcases (by omega : n = 0 ∨ n = 1 ∨ n = 2 ∨ n = 3) with rfl | rfl | rfl | rfl <;> exact ⟨rfl, fun z => absurd z (by decide), rfl, fun i _ => rfl⟩
  · refine ⟨?_, rfl, fun i _ => rfl⟩
    show (if n < 4 then (-1 : Int) else 0) = -1
    rw [if_pos hn]
def zX3 (ad : Nat → Nat) (cA cS : ClassId) : va_W := [(ad 0, .inr (3, [.ref (ad 1), .ref (ad 10), .int 0, .ref (ad 19), .ref (ad 28), .ref (ad 37), .ref (ad 39), .ref (ad 48), .ref (ad 49)])), (ad 1, .inr (1, [.int 0, .ref (ad 2), .ref (ad 3), .ref (ad 4), .ref (ad 5), .ref (ad 6), .ref (ad 7), .int 0, .ref (ad 8), .int 0, .ref (ad 9), .int 1])), (ad 2, .inl (cA, 12, .inl (fun _ => 0))), (ad 3, .inl (cA, 24, .inl (fun _ => 0))), (ad 4, .inl (cA, 24, .inl (fun _ => 0))), (ad 5, .inl (cA, 12, .inl (fun _ => 0))), (ad 6, .inl (cA, 12, .inl (fun _ => 0))), (ad 7, .inl (cA, 12, .inl (fun _ => 0))), (ad 8, .inl (cA, 12, .inl (fun _ => 0))), (ad 9, .inl (cA, 2, .inl (fun _ => 0))), (ad 10, .inr (1, [.int 0, .ref (ad 11), .ref (ad 12), .ref (ad 13), .ref (ad 14), .ref (ad 15), .ref (ad 16), .int 0, .ref (ad 17), .int 0, .ref (ad 18), .int 1])), (ad 11, .inl (cA, 12, .inl (fun _ => 0))), (ad 12, .inl (cA, 24, .inl (fun _ => 0))), (ad 13, .inl (cA, 24, .inl (fun _ => 0))), (ad 14, .inl (cA, 12, .inl (fun _ => 0))), (ad 15, .inl (cA, 12, .inl (fun _ => 0))), (ad 16, .inl (cA, 12, .inl (fun _ => 0))), (ad 17, .inl (cA, 12, .inl (fun _ => 0))), (ad 18, .inl (cA, 2, .inl (fun _ => 0))), (ad 19, .inr (1, [.int 0, .ref (ad 20), .ref (ad 21), .ref (ad 22), .ref (ad 23), .ref (ad 24), .ref (ad 25), .int 0, .ref (ad 26), .int 0, .ref (ad 27), .int 1])), (ad 20, .inl (cA, 12, .inl (fun _ => 0))), (ad 21, .inl (cA, 24, .inl (fun _ => 0))), (ad 22, .inl (cA, 24, .inl (fun _ => 0))), (ad 23, .inl (cA, 12, .inl (fun _ => 0))), (ad 24, .inl (cA, 12, .inl (fun _ => 0))), (ad 25, .inl (cA, 12, .inl (fun _ => 0))), (ad 26, .inl (cA, 12, .inl (fun _ => 0))), (ad 27, .inl (cA, 2, .inl (fun _ => 0))), (ad 28, .inr (1, [.int 0, .ref (ad 29), .ref (ad 30), .ref (ad 31), .ref (ad 32), .ref (ad 33), .ref (ad 34), .int 0, .ref (ad 35), .int 0, .ref (ad 36), .int 1])), (ad 29, .inl (cA, 12, .inl (fun _ => 0))), (ad 30, .inl (cA, 24, .inl (fun _ => 0))), (ad 31, .inl (cA, 24, .inl (fun _ => 0))), (ad 32, .inl (cA, 12, .inl (fun _ => 0))), (ad 33, .inl (cA, 12, .inl (fun _ => 0))), (ad 34, .inl (cA, 12, .inl (fun _ => 0))), (ad 35, .inl (cA, 12, .inl (fun _ => 0))), (ad 36, .inl (cA, 2, .inl (fun _ => 0))), (ad 37, .inr (2, [.ref (ad 38), .int 0, .int 0])), (ad 38, .inl (cA, 80, .inl (fun _ => 0))), (ad 39, .inl (cS, 4, .inr (.inr (.inr (.inr (va_up (va_up (va_up (va_up (fun _ => none) 0 (some (ad 40))) 1 (some (ad 42))) 2 (some (ad 44))) 3 (some (ad 46)))))))), (ad 48, .inl (cA, 5, .inl (fun _ => 0))), (ad 49, .inl (cA, 5, .inl (fun _ => 0))), (ad 40, .inr (0, [.ref (ad 41), .int 0, .int 0, .int 0])), (ad 41, .inl (cA, 24, .inl (fun _ => 0))), (ad 42, .inr (0, [.ref (ad 43), .int 0, .int 0, .int 0])), (ad 43, .inl (cA, 24, .inl (fun _ => 0))), (ad 44, .inr (0, [.ref (ad 45), .int 0, .int 0, .int 0])), (ad 45, .inl (cA, 24, .inl (fun _ => 0))), (ad 46, .inr (0, [.ref (ad 47), .int 0, .int 0, .int 0])), (ad 47, .inl (cA, 24, .inl (fun _ => 0)))]
def zX4 (ad : Nat → Nat) (cA : ClassId) : va_W := [(ad 50, .inr (4, [.ref (ad 51), .int 0, .ref (ad 52), .ref (ad 53), .int 0, .ref (ad 54), .int 0, .int 1, .ref (ad 55), .int 0, .int 0, .int 0, .ref (ad 56), .ref (ad 57), .ref (ad 58), .ref (ad 59), .ref (ad 60), .int 0, .ref (ad 61), .ref (ad 62), .ref (ad 63), .ref (ad 64), .ref (ad 65), .ref (ad 66), .ref (ad 67), .ref (ad 68), .ref (ad 69), .int 0])), (ad 51, .inl (cA, 72, .inl (fun _ => 0))), (ad 52, .inl (cA, 12, .inl (fun _ => 0))), (ad 53, .inl (cA, 12, .inl (fun _ => 0))), (ad 54, .inl (cA, 2, .inl (fun _ => 0))), (ad 55, .inl (cA, 80, .inl (fun _ => 0))), (ad 56, .inl (cA, 40, .inl (fun _ => 0))), (ad 57, .inl (cA, 12, .inl (fun _ => 0))), (ad 58, .inl (cA, 12, .inl (fun _ => 0))), (ad 59, .inl (cA, 72, .inl (fun _ => 0))), (ad 60, .inl (cA, 72, .inl (fun _ => 0))), (ad 61, .inl (cA, 72, .inl (fun _ => 0))), (ad 62, .inl (cA, 24, .inl (fun _ => 0))), (ad 63, .inl (cA, 6, .inl (fun _ => 0))), (ad 64, .inl (cA, 4, .inl (upd (upd (upd (upd (fun _ => 0) 0 (-1)) 1 (-1)) 2 (-1)) 3 (-1)))), (ad 65, .inl (cA, 4, .inl (fun _ => 0))), (ad 66, .inl (cA, 96, .inl (fun _ => 0))), (ad 67, .inl (cA, 5, .inl (fun _ => 0))), (ad 68, .inl (cA, 5, .inl (fun _ => 0))), (ad 69, .inl (cA, 24, .inl (fun _ => 0)))]
def zXp (k : Nat) : Nat := if k < 40 then k else if k < 48 then k + 2 else if k < 50 then k - 8 else k
theorem zXp_inj {i j : Nat} (hi : i < 70) (hj : j < 70) (h : zXp i = zXp j) : i = j := by
  unfold zXp at h
  split at h <;> split at h <;> (try split at h) <;> (try split at h) <;> (try split at h) <;> (try split at h) <;> omega
theorem zz0 {k : Nat} (h : ¬ k = 64 ∧ ¬ (k = 1 ∨ k = 10 ∨ k = 19 ∨ k = 28) ∧ ¬ k = 50) : zlf zT0 k = fun _ => 0 := by
  funext j
  show zi (zT0 k j) = 0
  unfold zT0
  rw [if_neg h.1, if_neg h.2.1, if_neg h.2.2]
  rfl
theorem zza {ad : Nat → Nat} {cA cS : ClassId} {k n : Nat} (h : ¬ k = 64 ∧ ¬ (k = 1 ∨ k = 10 ∨ k = 19 ∨ k = 28) ∧ ¬ k = 50) : zce ad cA cS (zlf zT0) k (.inl n) = .inl (cA, n, .inl (fun _ => 0)) := by
  show (Sum.inl (cA, n, Sum.inl (zlf zT0 k)) : va_E) = _
  rw [zz0 h]
theorem zz64 : zlf zT0 64 = (upd (upd (upd (upd (fun _ => 0) 0 (-1)) 1 (-1)) 2 (-1)) 3 (-1)) := by
  funext j
  rcases (by omega : j = 0 ∨ j = 1 ∨ j = 2 ∨ j = 3 ∨ ¬ j < 4) with rfl | rfl | rfl | rfl | z
  · decide +kernel
  · decide +kernel
  · decide +kernel
  · decide +kernel
  · show zi (if j < 4 then -1 else 0) = _
    unfold upd
    rw [if_neg z, if_neg (by omega), if_neg (by omega), if_neg (by omega), if_neg (by omega)]
    rfl
theorem zzs (ad : Nat → Nat) : (fun i => (([40, 42, 44, 46] : List Nat)[i]?).map ad) = va_up (va_up (va_up (va_up (fun _ => none) 0 (some (ad 40))) 1 (some (ad 42))) 2 (some (ad 44))) 3 (some (ad 46)) := by
  funext i
  rcases (by omega : i = 0 ∨ i = 1 ∨ i = 2 ∨ i = 3 ∨ 4 ≤ i) with rfl | rfl | rfl | rfl | h
  · rfl
  · rfl
  · rfl
  · rfl
  · unfold va_up
    rw [if_neg (by omega), if_neg (by omega), if_neg (by omega), if_neg (by omega), List.getElem?_eq_none (show ([40, 42, 44, 46] : List Nat).length ≤ i from h)]
    rfl
theorem zf_0_2 : zlf zT0 0 2 = 0 := by decide +kernel
theorem zo_0 (ad : Nat → Nat) (cA cS : ClassId) : zce ad cA cS (zlf zT0) 0 (.inr (.inl (3, [some 1, some 10, none, some 19, some 28, some 37, some 39, some 48, some 49]))) = .inr (3, [.ref (ad 1), .ref (ad 10), .int 0, .ref (ad 19), .ref (ad 28), .ref (ad 37), .ref (ad 39), .ref (ad 48), .ref (ad 49)]) := by
  simp only [zce, List.mapIdx_cons, List.mapIdx_nil, Nat.reduceAdd, zf_0_2]
theorem zf_1_0 : zlf zT0 1 0 = 0 := by decide +kernel
theorem zf_1_7 : zlf zT0 1 7 = 0 := by decide +kernel
theorem zf_1_9 : zlf zT0 1 9 = 0 := by decide +kernel
theorem zf_1_11 : zlf zT0 1 11 = 1 := by decide +kernel
theorem zo_1 (ad : Nat → Nat) (cA cS : ClassId) : zce ad cA cS (zlf zT0) 1 (.inr (.inl (1, [none, some 2, some 3, some 4, some 5, some 6, some 7, none, some 8, none, some 9, none]))) = .inr (1, [.int 0, .ref (ad 2), .ref (ad 3), .ref (ad 4), .ref (ad 5), .ref (ad 6), .ref (ad 7), .int 0, .ref (ad 8), .int 0, .ref (ad 9), .int 1]) := by
  simp only [zce, List.mapIdx_cons, List.mapIdx_nil, Nat.reduceAdd, zf_1_0, zf_1_7, zf_1_9, zf_1_11]
theorem zf_10_0 : zlf zT0 10 0 = 0 := by decide +kernel
theorem zf_10_7 : zlf zT0 10 7 = 0 := by decide +kernel
theorem zf_10_9 : zlf zT0 10 9 = 0 := by decide +kernel
theorem zf_10_11 : zlf zT0 10 11 = 1 := by decide +kernel
theorem zo_10 (ad : Nat → Nat) (cA cS : ClassId) : zce ad cA cS (zlf zT0) 10 (.inr (.inl (1, [none, some 11, some 12, some 13, some 14, some 15, some 16, none, some 17, none, some 18, none]))) = .inr (1, [.int 0, .ref (ad 11), .ref (ad 12), .ref (ad 13), .ref (ad 14), .ref (ad 15), .ref (ad 16), .int 0, .ref (ad 17), .int 0, .ref (ad 18), .int 1]) := by
  simp only [zce, List.mapIdx_cons, List.mapIdx_nil, Nat.reduceAdd, zf_10_0, zf_10_7, zf_10_9, zf_10_11]
theorem zf_19_0 : zlf zT0 19 0 = 0 := by decide +kernel
theorem zf_19_7 : zlf zT0 19 7 = 0 := by decide +kernel
theorem zf_19_9 : zlf zT0 19 9 = 0 := by decide +kernel
theorem zf_19_11 : zlf zT0 19 11 = 1 := by decide +kernel
theorem zo_19 (ad : Nat → Nat) (cA cS : ClassId) : zce ad cA cS (zlf zT0) 19 (.inr (.inl (1, [none, some 20, some 21, some 22, some 23, some 24, some 25, none, some 26, none, some 27, none]))) = .inr (1, [.int 0, .ref (ad 20), .ref (ad 21), .ref (ad 22), .ref (ad 23), .ref (ad 24), .ref (ad 25), .int 0, .ref (ad 26), .int 0, .ref (ad 27), .int 1]) := by
  simp only [zce, List.mapIdx_cons, List.mapIdx_nil, Nat.reduceAdd, zf_19_0, zf_19_7, zf_19_9, zf_19_11]
theorem zf_28_0 : zlf zT0 28 0 = 0 := by decide +kernel
theorem zf_28_7 : zlf zT0 28 7 = 0 := by decide +kernel
theorem zf_28_9 : zlf zT0 28 9 = 0 := by decide +kernel
theorem zf_28_11 : zlf zT0 28 11 = 1 := by decide +kernel
theorem zo_28 (ad : Nat → Nat) (cA cS : ClassId) : zce ad cA cS (zlf zT0) 28 (.inr (.inl (1, [none, some 29, some 30, some 31, some 32, some 33, some 34, none, some 35, none, some 36, none]))) = .inr (1, [.int 0, .ref (ad 29), .ref (ad 30), .ref (ad 31), .ref (ad 32), .ref (ad 33), .ref (ad 34), .int 0, .ref (ad 35), .int 0, .ref (ad 36), .int 1]) := by
  simp only [zce, List.mapIdx_cons, List.mapIdx_nil, Nat.reduceAdd, zf_28_0, zf_28_7, zf_28_9, zf_28_11]
theorem zf_37_1 : zlf zT0 37 1 = 0 := by decide +kernel
theorem zf_37_2 : zlf zT0 37 2 = 0 := by decide +kernel
theorem zo_37 (ad : Nat → Nat) (cA cS : ClassId) : zce ad cA cS (zlf zT0) 37 (.inr (.inl (2, [some 38, none, none]))) = .inr (2, [.ref (ad 38), .int 0, .int 0]) := by
  simp only [zce, List.mapIdx_cons, List.mapIdx_nil, Nat.reduceAdd, zf_37_1, zf_37_2]
theorem zf_40_1 : zlf zT0 40 1 = 0 := by decide +kernel
theorem zf_40_2 : zlf zT0 40 2 = 0 := by decide +kernel
theorem zf_40_3 : zlf zT0 40 3 = 0 := by decide +kernel
theorem zo_40 (ad : Nat → Nat) (cA cS : ClassId) : zce ad cA cS (zlf zT0) 40 (.inr (.inl (0, [some 41, none, none, none]))) = .inr (0, [.ref (ad 41), .int 0, .int 0, .int 0]) := by
  simp only [zce, List.mapIdx_cons, List.mapIdx_nil, Nat.reduceAdd, zf_40_1, zf_40_2, zf_40_3]
theorem zf_42_1 : zlf zT0 42 1 = 0 := by decide +kernel
theorem zf_42_2 : zlf zT0 42 2 = 0 := by decide +kernel
theorem zf_42_3 : zlf zT0 42 3 = 0 := by decide +kernel
theorem zo_42 (ad : Nat → Nat) (cA cS : ClassId) : zce ad cA cS (zlf zT0) 42 (.inr (.inl (0, [some 43, none, none, none]))) = .inr (0, [.ref (ad 43), .int 0, .int 0, .int 0]) := by
  simp only [zce, List.mapIdx_cons, List.mapIdx_nil, Nat.reduceAdd, zf_42_1, zf_42_2, zf_42_3]
theorem zf_44_1 : zlf zT0 44 1 = 0 := by decide +kernel
theorem zf_44_2 : zlf zT0 44 2 = 0 := by decide +kernel
theorem zf_44_3 : zlf zT0 44 3 = 0 := by decide +kernel
theorem zo_44 (ad : Nat → Nat) (cA cS : ClassId) : zce ad cA cS (zlf zT0) 44 (.inr (.inl (0, [some 45, none, none, none]))) = .inr (0, [.ref (ad 45), .int 0, .int 0, .int 0]) := by
  simp only [zce, List.mapIdx_cons, List.mapIdx_nil, Nat.reduceAdd, zf_44_1, zf_44_2, zf_44_3]
theorem zf_46_1 : zlf zT0 46 1 = 0 := by decide +kernel
theorem zf_46_2 : zlf zT0 46 2 = 0 := by decide +kernel
theorem zf_46_3 : zlf zT0 46 3 = 0 := by decide +kernel
theorem zo_46 (ad : Nat → Nat) (cA cS : ClassId) : zce ad cA cS (zlf zT0) 46 (.inr (.inl (0, [some 47, none, none, none]))) = .inr (0, [.ref (ad 47), .int 0, .int 0, .int 0]) := by
  simp only [zce, List.mapIdx_cons, List.mapIdx_nil, Nat.reduceAdd, zf_46_1, zf_46_2, zf_46_3]
theorem zf_50_1 : zlf zT0 50 1 = 0 := by decide +kernel
theorem zf_50_4 : zlf zT0 50 4 = 0 := by decide +kernel
theorem zf_50_6 : zlf zT0 50 6 = 0 := by decide +kernel
theorem zf_50_7 : zlf zT0 50 7 = 1 := by decide +kernel
theorem zf_50_9 : zlf zT0 50 9 = 0 := by decide +kernel
theorem zf_50_10 : zlf zT0 50 10 = 0 := by decide +kernel
theorem zf_50_11 : zlf zT0 50 11 = 0 := by decide +kernel
theorem zf_50_17 : zlf zT0 50 17 = 0 := by decide +kernel
theorem zf_50_27 : zlf zT0 50 27 = 0 := by decide +kernel
theorem zo_50 (ad : Nat → Nat) (cA cS : ClassId) : zce ad cA cS (zlf zT0) 50 (.inr (.inl (4, [some 51, none, some 52, some 53, none, some 54, none, none, some 55, none, none, none, some 56, some 57, some 58, some 59, some 60, none, some 61, some 62, some 63, some 64, some 65, some 66, some 67, some 68, some 69, none]))) = .inr (4, [.ref (ad 51), .int 0, .ref (ad 52), .ref (ad 53), .int 0, .ref (ad 54), .int 0, .int 1, .ref (ad 55), .int 0, .int 0, .int 0, .ref (ad 56), .ref (ad 57), .ref (ad 58), .ref (ad 59), .ref (ad 60), .int 0, .ref (ad 61), .ref (ad 62), .ref (ad 63), .ref (ad 64), .ref (ad 65), .ref (ad 66), .ref (ad 67), .ref (ad 68), .ref (ad 69), .int 0]) := by
  simp only [zce, List.mapIdx_cons, List.mapIdx_nil, Nat.reduceAdd, zf_50_1, zf_50_4, zf_50_6, zf_50_7, zf_50_9, zf_50_10, zf_50_11, zf_50_17, zf_50_27]
theorem zx_0 (ad : Nat → Nat) (cA cS : ClassId) : (zX3 ad cA cS ++ zX4 ad cA)[0]? = (zW ad cA cS (zlf zT0))[0]? := by
  rw [zW_get (k := 0) (e := .inr (.inl (3, [some 1, some 10, none, some 19, some 28, some 37, some 39, some 48, some 49]))) rfl, zo_0]
  rfl
theorem zx_1 (ad : Nat → Nat) (cA cS : ClassId) : (zX3 ad cA cS ++ zX4 ad cA)[1]? = (zW ad cA cS (zlf zT0))[1]? := by
  rw [zW_get (k := 1) (e := .inr (.inl (1, [none, some 2, some 3, some 4, some 5, some 6, some 7, none, some 8, none, some 9, none]))) rfl, zo_1]
  rfl
theorem zx_2 (ad : Nat → Nat) (cA cS : ClassId) : (zX3 ad cA cS ++ zX4 ad cA)[2]? = (zW ad cA cS (zlf zT0))[2]? := by
  rw [zW_get (k := 2) (e := .inl 12) rfl, zza (by decide)]
  rfl
theorem zx_3 (ad : Nat → Nat) (cA cS : ClassId) : (zX3 ad cA cS ++ zX4 ad cA)[3]? = (zW ad cA cS (zlf zT0))[3]? := by
  rw [zW_get (k := 3) (e := .inl 24) rfl, zza (by decide)]
  rfl
theorem zx_4 (ad : Nat → Nat) (cA cS : ClassId) : (zX3 ad cA cS ++ zX4 ad cA)[4]? = (zW ad cA cS (zlf zT0))[4]? := by
  rw [zW_get (k := 4) (e := .inl 24) rfl, zza (by decide)]
  rfl
theorem zx_5 (ad : Nat → Nat) (cA cS : ClassId) : (zX3 ad cA cS ++ zX4 ad cA)[5]? = (zW ad cA cS (zlf zT0))[5]? := by
  rw [zW_get (k := 5) (e := .inl 12) rfl, zza (by decide)]
  rfl
theorem zx_6 (ad : Nat → Nat) (cA cS : ClassId) : (zX3 ad cA cS ++ zX4 ad cA)[6]? = (zW ad cA cS (zlf zT0))[6]? := by
  rw [zW_get (k := 6) (e := .inl 12) rfl, zza (by decide)]
  rfl
theorem zx_7 (ad : Nat → Nat) (cA cS : ClassId) : (zX3 ad cA cS ++ zX4 ad cA)[7]? = (zW ad cA cS (zlf zT0))[7]? := by
  rw [zW_get (k := 7) (e := .inl 12) rfl, zza (by decide)]
  rfl
theorem zx_8 (ad : Nat → Nat) (cA cS : ClassId) : (zX3 ad cA cS ++ zX4 ad cA)[8]? = (zW ad cA cS (zlf zT0))[8]? := by
  rw [zW_get (k := 8) (e := .inl 12) rfl, zza (by decide)]
  rfl
theorem zx_9 (ad : Nat → Nat) (cA cS : ClassId) : (zX3 ad cA cS ++ zX4 ad cA)[9]? = (zW ad cA cS (zlf zT0))[9]? := by
  rw [zW_get (k := 9) (e := .inl 2) rfl, zza (by decide)]
  rfl
theorem zx_10 (ad : Nat → Nat) (cA cS : ClassId) : (zX3 ad cA cS ++ zX4 ad cA)[10]? = (zW ad cA cS (zlf zT0))[10]? := by
  rw [zW_get (k := 10) (e := .inr (.inl (1, [none, some 11, some 12, some 13, some 14, some 15, some 16, none, some 17, none, some 18, none]))) rfl, zo_10]
  rfl
theorem zx_11 (ad : Nat → Nat) (cA cS : ClassId) : (zX3 ad cA cS ++ zX4 ad cA)[11]? = (zW ad cA cS (zlf zT0))[11]? := by
  rw [zW_get (k := 11) (e := .inl 12) rfl, zza (by decide)]
  rfl
theorem zx_12 (ad : Nat → Nat) (cA cS : ClassId) : (zX3 ad cA cS ++ zX4 ad cA)[12]? = (zW ad cA cS (zlf zT0))[12]? := by
  rw [zW_get (k := 12) (e := .inl 24) rfl, zza (by decide)]
  rfl
theorem zx_13 (ad : Nat → Nat) (cA cS : ClassId) : (zX3 ad cA cS ++ zX4 ad cA)[13]? = (zW ad cA cS (zlf zT0))[13]? := by
  rw [zW_get (k := 13) (e := .inl 24) rfl, zza (by decide)]
  rfl
theorem zx_14 (ad : Nat → Nat) (cA cS : ClassId) : (zX3 ad cA cS ++ zX4 ad cA)[14]? = (zW ad cA cS (zlf zT0))[14]? := by
  rw [zW_get (k := 14) (e := .inl 12) rfl, zza (by decide)]
  rfl
theorem zx_15 (ad : Nat → Nat) (cA cS : ClassId) : (zX3 ad cA cS ++ zX4 ad cA)[15]? = (zW ad cA cS (zlf zT0))[15]? := by
  rw [zW_get (k := 15) (e := .inl 12) rfl, zza (by decide)]
  rfl
theorem zx_16 (ad : Nat → Nat) (cA cS : ClassId) : (zX3 ad cA cS ++ zX4 ad cA)[16]? = (zW ad cA cS (zlf zT0))[16]? := by
  rw [zW_get (k := 16) (e := .inl 12) rfl, zza (by decide)]
  rfl
theorem zx_17 (ad : Nat → Nat) (cA cS : ClassId) : (zX3 ad cA cS ++ zX4 ad cA)[17]? = (zW ad cA cS (zlf zT0))[17]? := by
  rw [zW_get (k := 17) (e := .inl 12) rfl, zza (by decide)]
  rfl
theorem zx_18 (ad : Nat → Nat) (cA cS : ClassId) : (zX3 ad cA cS ++ zX4 ad cA)[18]? = (zW ad cA cS (zlf zT0))[18]? := by
  rw [zW_get (k := 18) (e := .inl 2) rfl, zza (by decide)]
  rfl
theorem zx_19 (ad : Nat → Nat) (cA cS : ClassId) : (zX3 ad cA cS ++ zX4 ad cA)[19]? = (zW ad cA cS (zlf zT0))[19]? := by
  rw [zW_get (k := 19) (e := .inr (.inl (1, [none, some 20, some 21, some 22, some 23, some 24, some 25, none, some 26, none, some 27, none]))) rfl, zo_19]
  rfl
theorem zx_20 (ad : Nat → Nat) (cA cS : ClassId) : (zX3 ad cA cS ++ zX4 ad cA)[20]? = (zW ad cA cS (zlf zT0))[20]? := by
  rw [zW_get (k := 20) (e := .inl 12) rfl, zza (by decide)]
  rfl
theorem zx_21 (ad : Nat → Nat) (cA cS : ClassId) : (zX3 ad cA cS ++ zX4 ad cA)[21]? = (zW ad cA cS (zlf zT0))[21]? := by
  rw [zW_get (k := 21) (e := .inl 24) rfl, zza (by decide)]
  rfl
theorem zx_22 (ad : Nat → Nat) (cA cS : ClassId) : (zX3 ad cA cS ++ zX4 ad cA)[22]? = (zW ad cA cS (zlf zT0))[22]? := by
  rw [zW_get (k := 22) (e := .inl 24) rfl, zza (by decide)]
  rfl
theorem zx_23 (ad : Nat → Nat) (cA cS : ClassId) : (zX3 ad cA cS ++ zX4 ad cA)[23]? = (zW ad cA cS (zlf zT0))[23]? := by
  rw [zW_get (k := 23) (e := .inl 12) rfl, zza (by decide)]
  rfl
theorem zx_24 (ad : Nat → Nat) (cA cS : ClassId) : (zX3 ad cA cS ++ zX4 ad cA)[24]? = (zW ad cA cS (zlf zT0))[24]? := by
  rw [zW_get (k := 24) (e := .inl 12) rfl, zza (by decide)]
  rfl
theorem zx_25 (ad : Nat → Nat) (cA cS : ClassId) : (zX3 ad cA cS ++ zX4 ad cA)[25]? = (zW ad cA cS (zlf zT0))[25]? := by
  rw [zW_get (k := 25) (e := .inl 12) rfl, zza (by decide)]
  rfl
theorem zx_26 (ad : Nat → Nat) (cA cS : ClassId) : (zX3 ad cA cS ++ zX4 ad cA)[26]? = (zW ad cA cS (zlf zT0))[26]? := by
  rw [zW_get (k := 26) (e := .inl 12) rfl, zza (by decide)]
  rfl
theorem zx_27 (ad : Nat → Nat) (cA cS : ClassId) : (zX3 ad cA cS ++ zX4 ad cA)[27]? = (zW ad cA cS (zlf zT0))[27]? := by
  rw [zW_get (k := 27) (e := .inl 2) rfl, zza (by decide)]
  rfl
theorem zx_28 (ad : Nat → Nat) (cA cS : ClassId) : (zX3 ad cA cS ++ zX4 ad cA)[28]? = (zW ad cA cS (zlf zT0))[28]? := by
  rw [zW_get (k := 28) (e := .inr (.inl (1, [none, some 29, some 30, some 31, some 32, some 33, some 34, none, some 35, none, some 36, none]))) rfl, zo_28]
  rfl
theorem zx_29 (ad : Nat → Nat) (cA cS : ClassId) : (zX3 ad cA cS ++ zX4 ad cA)[29]? = (zW ad cA cS (zlf zT0))[29]? := by
  rw [zW_get (k := 29) (e := .inl 12) rfl, zza (by decide)]
  rfl
theorem zx_30 (ad : Nat → Nat) (cA cS : ClassId) : (zX3 ad cA cS ++ zX4 ad cA)[30]? = (zW ad cA cS (zlf zT0))[30]? := by
  rw [zW_get (k := 30) (e := .inl 24) rfl, zza (by decide)]
  rfl
theorem zx_31 (ad : Nat → Nat) (cA cS : ClassId) : (zX3 ad cA cS ++ zX4 ad cA)[31]? = (zW ad cA cS (zlf zT0))[31]? := by
  rw [zW_get (k := 31) (e := .inl 24) rfl, zza (by decide)]
  rfl
theorem zx_32 (ad : Nat → Nat) (cA cS : ClassId) : (zX3 ad cA cS ++ zX4 ad cA)[32]? = (zW ad cA cS (zlf zT0))[32]? := by
  rw [zW_get (k := 32) (e := .inl 12) rfl, zza (by decide)]
  rfl
theorem zx_33 (ad : Nat → Nat) (cA cS : ClassId) : (zX3 ad cA cS ++ zX4 ad cA)[33]? = (zW ad cA cS (zlf zT0))[33]? := by
  rw [zW_get (k := 33) (e := .inl 12) rfl, zza (by decide)]
  rfl
theorem zx_34 (ad : Nat → Nat) (cA cS : ClassId) : (zX3 ad cA cS ++ zX4 ad cA)[34]? = (zW ad cA cS (zlf zT0))[34]? := by
  rw [zW_get (k := 34) (e := .inl 12) rfl, zza (by decide)]
  rfl
theorem zx_35 (ad : Nat → Nat) (cA cS : ClassId) : (zX3 ad cA cS ++ zX4 ad cA)[35]? = (zW ad cA cS (zlf zT0))[35]? := by
  rw [zW_get (k := 35) (e := .inl 12) rfl, zza (by decide)]
  rfl
theorem zx_36 (ad : Nat → Nat) (cA cS : ClassId) : (zX3 ad cA cS ++ zX4 ad cA)[36]? = (zW ad cA cS (zlf zT0))[36]? := by
  rw [zW_get (k := 36) (e := .inl 2) rfl, zza (by decide)]
  rfl
theorem zx_37 (ad : Nat → Nat) (cA cS : ClassId) : (zX3 ad cA cS ++ zX4 ad cA)[37]? = (zW ad cA cS (zlf zT0))[37]? := by
  rw [zW_get (k := 37) (e := .inr (.inl (2, [some 38, none, none]))) rfl, zo_37]
  rfl
theorem zx_38 (ad : Nat → Nat) (cA cS : ClassId) : (zX3 ad cA cS ++ zX4 ad cA)[38]? = (zW ad cA cS (zlf zT0))[38]? := by
  rw [zW_get (k := 38) (e := .inl 80) rfl, zza (by decide)]
  rfl
theorem zx_39 (ad : Nat → Nat) (cA cS : ClassId) : (zX3 ad cA cS ++ zX4 ad cA)[39]? = (zW ad cA cS (zlf zT0))[39]? := by
  rw [zW_get (k := 39) (e := .inr (.inr [40, 42, 44, 46])) rfl, show zce ad cA cS (zlf zT0) 39 (.inr (.inr [40, 42, 44, 46])) = .inl (cS, 4, .inr (.inr (.inr (.inr (fun i => (([40, 42, 44, 46] : List Nat)[i]?).map ad))))) from rfl, zzs]
  rfl
theorem zx_40 (ad : Nat → Nat) (cA cS : ClassId) : (zX3 ad cA cS ++ zX4 ad cA)[42]? = (zW ad cA cS (zlf zT0))[40]? := by
  rw [zW_get (k := 40) (e := .inr (.inl (0, [some 41, none, none, none]))) rfl, zo_40]
  rfl
theorem zx_41 (ad : Nat → Nat) (cA cS : ClassId) : (zX3 ad cA cS ++ zX4 ad cA)[43]? = (zW ad cA cS (zlf zT0))[41]? := by
  rw [zW_get (k := 41) (e := .inl 24) rfl, zza (by decide)]
  rfl
theorem zx_42 (ad : Nat → Nat) (cA cS : ClassId) : (zX3 ad cA cS ++ zX4 ad cA)[44]? = (zW ad cA cS (zlf zT0))[42]? := by
  rw [zW_get (k := 42) (e := .inr (.inl (0, [some 43, none, none, none]))) rfl, zo_42]
  rfl
theorem zx_43 (ad : Nat → Nat) (cA cS : ClassId) : (zX3 ad cA cS ++ zX4 ad cA)[45]? = (zW ad cA cS (zlf zT0))[43]? := by
  rw [zW_get (k := 43) (e := .inl 24) rfl, zza (by decide)]
  rfl
theorem zx_44 (ad : Nat → Nat) (cA cS : ClassId) : (zX3 ad cA cS ++ zX4 ad cA)[46]? = (zW ad cA cS (zlf zT0))[44]? := by
  rw [zW_get (k := 44) (e := .inr (.inl (0, [some 45, none, none, none]))) rfl, zo_44]
  rfl
theorem zx_45 (ad : Nat → Nat) (cA cS : ClassId) : (zX3 ad cA cS ++ zX4 ad cA)[47]? = (zW ad cA cS (zlf zT0))[45]? := by
  rw [zW_get (k := 45) (e := .inl 24) rfl, zza (by decide)]
  rfl
theorem zx_46 (ad : Nat → Nat) (cA cS : ClassId) : (zX3 ad cA cS ++ zX4 ad cA)[48]? = (zW ad cA cS (zlf zT0))[46]? := by
  rw [zW_get (k := 46) (e := .inr (.inl (0, [some 47, none, none, none]))) rfl, zo_46]
  rfl
theorem zx_47 (ad : Nat → Nat) (cA cS : ClassId) : (zX3 ad cA cS ++ zX4 ad cA)[49]? = (zW ad cA cS (zlf zT0))[47]? := by
  rw [zW_get (k := 47) (e := .inl 24) rfl, zza (by decide)]
  rfl
theorem zx_48 (ad : Nat → Nat) (cA cS : ClassId) : (zX3 ad cA cS ++ zX4 ad cA)[40]? = (zW ad cA cS (zlf zT0))[48]? := by
  rw [zW_get (k := 48) (e := .inl 5) rfl, zza (by decide)]
  rfl
theorem zx_49 (ad : Nat → Nat) (cA cS : ClassId) : (zX3 ad cA cS ++ zX4 ad cA)[41]? = (zW ad cA cS (zlf zT0))[49]? := by
  rw [zW_get (k := 49) (e := .inl 5) rfl, zza (by decide)]
  rfl
theorem zx_50 (ad : Nat → Nat) (cA cS : ClassId) : (zX3 ad cA cS ++ zX4 ad cA)[50]? = (zW ad cA cS (zlf zT0))[50]? := by
  rw [zW_get (k := 50) (e := .inr (.inl (4, [some 51, none, some 52, some 53, none, some 54, none, none, some 55, none, none, none, some 56, some 57, some 58, some 59, some 60, none, some 61, some 62, some 63, some 64, some 65, some 66, some 67, some 68, some 69, none]))) rfl, zo_50]
  rfl
theorem zx_51 (ad : Nat → Nat) (cA cS : ClassId) : (zX3 ad cA cS ++ zX4 ad cA)[51]? = (zW ad cA cS (zlf zT0))[51]? := by
  rw [zW_get (k := 51) (e := .inl 72) rfl, zza (by decide)]
  rfl
theorem zx_52 (ad : Nat → Nat) (cA cS : ClassId) : (zX3 ad cA cS ++ zX4 ad cA)[52]? = (zW ad cA cS (zlf zT0))[52]? := by
  rw [zW_get (k := 52) (e := .inl 12) rfl, zza (by decide)]
  rfl
theorem zx_53 (ad : Nat → Nat) (cA cS : ClassId) : (zX3 ad cA cS ++ zX4 ad cA)[53]? = (zW ad cA cS (zlf zT0))[53]? := by
  rw [zW_get (k := 53) (e := .inl 12) rfl, zza (by decide)]
  rfl
theorem zx_54 (ad : Nat → Nat) (cA cS : ClassId) : (zX3 ad cA cS ++ zX4 ad cA)[54]? = (zW ad cA cS (zlf zT0))[54]? := by
  rw [zW_get (k := 54) (e := .inl 2) rfl, zza (by decide)]
  rfl
theorem zx_55 (ad : Nat → Nat) (cA cS : ClassId) : (zX3 ad cA cS ++ zX4 ad cA)[55]? = (zW ad cA cS (zlf zT0))[55]? := by
  rw [zW_get (k := 55) (e := .inl 80) rfl, zza (by decide)]
  rfl
theorem zx_56 (ad : Nat → Nat) (cA cS : ClassId) : (zX3 ad cA cS ++ zX4 ad cA)[56]? = (zW ad cA cS (zlf zT0))[56]? := by
  rw [zW_get (k := 56) (e := .inl 40) rfl, zza (by decide)]
  rfl
theorem zx_57 (ad : Nat → Nat) (cA cS : ClassId) : (zX3 ad cA cS ++ zX4 ad cA)[57]? = (zW ad cA cS (zlf zT0))[57]? := by
  rw [zW_get (k := 57) (e := .inl 12) rfl, zza (by decide)]
  rfl
theorem zx_58 (ad : Nat → Nat) (cA cS : ClassId) : (zX3 ad cA cS ++ zX4 ad cA)[58]? = (zW ad cA cS (zlf zT0))[58]? := by
  rw [zW_get (k := 58) (e := .inl 12) rfl, zza (by decide)]
  rfl
theorem zx_59 (ad : Nat → Nat) (cA cS : ClassId) : (zX3 ad cA cS ++ zX4 ad cA)[59]? = (zW ad cA cS (zlf zT0))[59]? := by
  rw [zW_get (k := 59) (e := .inl 72) rfl, zza (by decide)]
  rfl
theorem zx_60 (ad : Nat → Nat) (cA cS : ClassId) : (zX3 ad cA cS ++ zX4 ad cA)[60]? = (zW ad cA cS (zlf zT0))[60]? := by
  rw [zW_get (k := 60) (e := .inl 72) rfl, zza (by decide)]
  rfl
theorem zx_61 (ad : Nat → Nat) (cA cS : ClassId) : (zX3 ad cA cS ++ zX4 ad cA)[61]? = (zW ad cA cS (zlf zT0))[61]? := by
  rw [zW_get (k := 61) (e := .inl 72) rfl, zza (by decide)]
  rfl
theorem zx_62 (ad : Nat → Nat) (cA cS : ClassId) : (zX3 ad cA cS ++ zX4 ad cA)[62]? = (zW ad cA cS (zlf zT0))[62]? := by
  rw [zW_get (k := 62) (e := .inl 24) rfl, zza (by decide)]
  rfl
theorem zx_63 (ad : Nat → Nat) (cA cS : ClassId) : (zX3 ad cA cS ++ zX4 ad cA)[63]? = (zW ad cA cS (zlf zT0))[63]? := by
  rw [zW_get (k := 63) (e := .inl 6) rfl, zza (by decide)]
  rfl
theorem zx_64 (ad : Nat → Nat) (cA cS : ClassId) : (zX3 ad cA cS ++ zX4 ad cA)[64]? = (zW ad cA cS (zlf zT0))[64]? := by
  rw [zW_get (k := 64) (e := .inl 4) rfl, show zce ad cA cS (zlf zT0) 64 (.inl 4) = .inl (cA, 4, .inl (zlf zT0 64)) from rfl, zz64]
  rfl
theorem zx_65 (ad : Nat → Nat) (cA cS : ClassId) : (zX3 ad cA cS ++ zX4 ad cA)[65]? = (zW ad cA cS (zlf zT0))[65]? := by
  rw [zW_get (k := 65) (e := .inl 4) rfl, zza (by decide)]
  rfl
theorem zx_66 (ad : Nat → Nat) (cA cS : ClassId) : (zX3 ad cA cS ++ zX4 ad cA)[66]? = (zW ad cA cS (zlf zT0))[66]? := by
  rw [zW_get (k := 66) (e := .inl 96) rfl, zza (by decide)]
  rfl
theorem zx_67 (ad : Nat → Nat) (cA cS : ClassId) : (zX3 ad cA cS ++ zX4 ad cA)[67]? = (zW ad cA cS (zlf zT0))[67]? := by
  rw [zW_get (k := 67) (e := .inl 5) rfl, zza (by decide)]
  rfl
theorem zx_68 (ad : Nat → Nat) (cA cS : ClassId) : (zX3 ad cA cS ++ zX4 ad cA)[68]? = (zW ad cA cS (zlf zT0))[68]? := by
  rw [zW_get (k := 68) (e := .inl 5) rfl, zza (by decide)]
  rfl
theorem zx_69 (ad : Nat → Nat) (cA cS : ClassId) : (zX3 ad cA cS ++ zX4 ad cA)[69]? = (zW ad cA cS (zlf zT0))[69]? := by
  rw [zW_get (k := 69) (e := .inl 24) rfl, zza (by decide)]
  rfl
theorem zl_succ {P : Nat → Prop} {n : Nat} (h : ∀ k, k < n → P k) (hn : P n) : ∀ k, k < n + 1 → P k := fun k hk => by
  rcases Nat.lt_succ_iff_lt_or_eq.mp hk with h1 | rfl
  · exact h k h1
  · exact hn
theorem zX_at (ad : Nat → Nat) (cA cS : ClassId) : ∀ k, k < 70 → (zX3 ad cA cS ++ zX4 ad cA)[zXp k]? = (zW ad cA cS (zlf zT0))[k]? := by
  have h0 : ∀ k, k < 0 → (zX3 ad cA cS ++ zX4 ad cA)[zXp k]? = (zW ad cA cS (zlf zT0))[k]? := fun k hk => absurd hk (Nat.not_lt_zero k)
  have h1 := zl_succ (P := fun k => (zX3 ad cA cS ++ zX4 ad cA)[zXp k]? = (zW ad cA cS (zlf zT0))[k]?) (n := 0) h0 (zx_0 ad cA cS)
  have h2 := zl_succ (P := fun k => (zX3 ad cA cS ++ zX4 ad cA)[zXp k]? = (zW ad cA cS (zlf zT0))[k]?) (n := 1) h1 (zx_1 ad cA cS)
  have h3 := zl_succ (P := fun k => (zX3 ad cA cS ++ zX4 ad cA)[zXp k]? = (zW ad cA cS (zlf zT0))[k]?) (n := 2) h2 (zx_2 ad cA cS)
  have h4 := zl_succ (P := fun k => (zX3 ad cA cS ++ zX4 ad cA)[zXp k]? = (zW ad cA cS (zlf zT0))[k]?) (n := 3) h3 (zx_3 ad cA cS)
  have h5 := zl_succ (P := fun k => (zX3 ad cA cS ++ zX4 ad cA)[zXp k]? = (zW ad cA cS (zlf zT0))[k]?) (n := 4) h4 (zx_4 ad cA cS)
  have h6 := zl_succ (P := fun k => (zX3 ad cA cS ++ zX4 ad cA)[zXp k]? = (zW ad cA cS (zlf zT0))[k]?) (n := 5) h5 (zx_5 ad cA cS)
  have h7 := zl_succ (P := fun k => (zX3 ad cA cS ++ zX4 ad cA)[zXp k]? = (zW ad cA cS (zlf zT0))[k]?) (n := 6) h6 (zx_6 ad cA cS)
  have h8 := zl_succ (P := fun k => (zX3 ad cA cS ++ zX4 ad cA)[zXp k]? = (zW ad cA cS (zlf zT0))[k]?) (n := 7) h7 (zx_7 ad cA cS)
  have h9 := zl_succ (P := fun k => (zX3 ad cA cS ++ zX4 ad cA)[zXp k]? = (zW ad cA cS (zlf zT0))[k]?) (n := 8) h8 (zx_8 ad cA cS)
  have h10 := zl_succ (P := fun k => (zX3 ad cA cS ++ zX4 ad cA)[zXp k]? = (zW ad cA cS (zlf zT0))[k]?) (n := 9) h9 (zx_9 ad cA cS)
  have h11 := zl_succ (P := fun k => (zX3 ad cA cS ++ zX4 ad cA)[zXp k]? = (zW ad cA cS (zlf zT0))[k]?) (n := 10) h10 (zx_10 ad cA cS)
  have h12 := zl_succ (P := fun k => (zX3 ad cA cS ++ zX4 ad cA)[zXp k]? = (zW ad cA cS (zlf zT0))[k]?) (n := 11) h11 (zx_11 ad cA cS)
  have h13 := zl_succ (P := fun k => (zX3 ad cA cS ++ zX4 ad cA)[zXp k]? = (zW ad cA cS (zlf zT0))[k]?) (n := 12) h12 (zx_12 ad cA cS)
  have h14 := zl_succ (P := fun k => (zX3 ad cA cS ++ zX4 ad cA)[zXp k]? = (zW ad cA cS (zlf zT0))[k]?) (n := 13) h13 (zx_13 ad cA cS)
  have h15 := zl_succ (P := fun k => (zX3 ad cA cS ++ zX4 ad cA)[zXp k]? = (zW ad cA cS (zlf zT0))[k]?) (n := 14) h14 (zx_14 ad cA cS)
  have h16 := zl_succ (P := fun k => (zX3 ad cA cS ++ zX4 ad cA)[zXp k]? = (zW ad cA cS (zlf zT0))[k]?) (n := 15) h15 (zx_15 ad cA cS)
  have h17 := zl_succ (P := fun k => (zX3 ad cA cS ++ zX4 ad cA)[zXp k]? = (zW ad cA cS (zlf zT0))[k]?) (n := 16) h16 (zx_16 ad cA cS)
  have h18 := zl_succ (P := fun k => (zX3 ad cA cS ++ zX4 ad cA)[zXp k]? = (zW ad cA cS (zlf zT0))[k]?) (n := 17) h17 (zx_17 ad cA cS)
  have h19 := zl_succ (P := fun k => (zX3 ad cA cS ++ zX4 ad cA)[zXp k]? = (zW ad cA cS (zlf zT0))[k]?) (n := 18) h18 (zx_18 ad cA cS)
  have h20 := zl_succ (P := fun k => (zX3 ad cA cS ++ zX4 ad cA)[zXp k]? = (zW ad cA cS (zlf zT0))[k]?) (n := 19) h19 (zx_19 ad cA cS)
  have h21 := zl_succ (P := fun k => (zX3 ad cA cS ++ zX4 ad cA)[zXp k]? = (zW ad cA cS (zlf zT0))[k]?) (n := 20) h20 (zx_20 ad cA cS)
  have h22 := zl_succ (P := fun k => (zX3 ad cA cS ++ zX4 ad cA)[zXp k]? = (zW ad cA cS (zlf zT0))[k]?) (n := 21) h21 (zx_21 ad cA cS)
  have h23 := zl_succ (P := fun k => (zX3 ad cA cS ++ zX4 ad cA)[zXp k]? = (zW ad cA cS (zlf zT0))[k]?) (n := 22) h22 (zx_22 ad cA cS)
  have h24 := zl_succ (P := fun k => (zX3 ad cA cS ++ zX4 ad cA)[zXp k]? = (zW ad cA cS (zlf zT0))[k]?) (n := 23) h23 (zx_23 ad cA cS)
  have h25 := zl_succ (P := fun k => (zX3 ad cA cS ++ zX4 ad cA)[zXp k]? = (zW ad cA cS (zlf zT0))[k]?) (n := 24) h24 (zx_24 ad cA cS)
  have h26 := zl_succ (P := fun k => (zX3 ad cA cS ++ zX4 ad cA)[zXp k]? = (zW ad cA cS (zlf zT0))[k]?) (n := 25) h25 (zx_25 ad cA cS)
  have h27 := zl_succ (P := fun k => (zX3 ad cA cS ++ zX4 ad cA)[zXp k]? = (zW ad cA cS (zlf zT0))[k]?) (n := 26) h26 (zx_26 ad cA cS)
  have h28 := zl_succ (P := fun k => (zX3 ad cA cS ++ zX4 ad cA)[zXp k]? = (zW ad cA cS (zlf zT0))[k]?) (n := 27) h27 (zx_27 ad cA cS)
  have h29 := zl_succ (P := fun k => (zX3 ad cA cS ++ zX4 ad cA)[zXp k]? = (zW ad cA cS (zlf zT0))[k]?) (n := 28) h28 (zx_28 ad cA cS)
  have h30 := zl_succ (P := fun k => (zX3 ad cA cS ++ zX4 ad cA)[zXp k]? = (zW ad cA cS (zlf zT0))[k]?) (n := 29) h29 (zx_29 ad cA cS)
  have h31 := zl_succ (P := fun k => (zX3 ad cA cS ++ zX4 ad cA)[zXp k]? = (zW ad cA cS (zlf zT0))[k]?) (n := 30) h30 (zx_30 ad cA cS)
  have h32 := zl_succ (P := fun k => (zX3 ad cA cS ++ zX4 ad cA)[zXp k]? = (zW ad cA cS (zlf zT0))[k]?) (n := 31) h31 (zx_31 ad cA cS)
  have h33 := zl_succ (P := fun k => (zX3 ad cA cS ++ zX4 ad cA)[zXp k]? = (zW ad cA cS (zlf zT0))[k]?) (n := 32) h32 (zx_32 ad cA cS)
  have h34 := zl_succ (P := fun k => (zX3 ad cA cS ++ zX4 ad cA)[zXp k]? = (zW ad cA cS (zlf zT0))[k]?) (n := 33) h33 (zx_33 ad cA cS)
  have h35 := zl_succ (P := fun k => (zX3 ad cA cS ++ zX4 ad cA)[zXp k]? = (zW ad cA cS (zlf zT0))[k]?) (n := 34) h34 (zx_34 ad cA cS)
  have h36 := zl_succ (P := fun k => (zX3 ad cA cS ++ zX4 ad cA)[zXp k]? = (zW ad cA cS (zlf zT0))[k]?) (n := 35) h35 (zx_35 ad cA cS)
  have h37 := zl_succ (P := fun k => (zX3 ad cA cS ++ zX4 ad cA)[zXp k]? = (zW ad cA cS (zlf zT0))[k]?) (n := 36) h36 (zx_36 ad cA cS)
  have h38 := zl_succ (P := fun k => (zX3 ad cA cS ++ zX4 ad cA)[zXp k]? = (zW ad cA cS (zlf zT0))[k]?) (n := 37) h37 (zx_37 ad cA cS)
  have h39 := zl_succ (P := fun k => (zX3 ad cA cS ++ zX4 ad cA)[zXp k]? = (zW ad cA cS (zlf zT0))[k]?) (n := 38) h38 (zx_38 ad cA cS)
  have h40 := zl_succ (P := fun k => (zX3 ad cA cS ++ zX4 ad cA)[zXp k]? = (zW ad cA cS (zlf zT0))[k]?) (n := 39) h39 (zx_39 ad cA cS)
  have h41 := zl_succ (P := fun k => (zX3 ad cA cS ++ zX4 ad cA)[zXp k]? = (zW ad cA cS (zlf zT0))[k]?) (n := 40) h40 (zx_40 ad cA cS)
  have h42 := zl_succ (P := fun k => (zX3 ad cA cS ++ zX4 ad cA)[zXp k]? = (zW ad cA cS (zlf zT0))[k]?) (n := 41) h41 (zx_41 ad cA cS)
  have h43 := zl_succ (P := fun k => (zX3 ad cA cS ++ zX4 ad cA)[zXp k]? = (zW ad cA cS (zlf zT0))[k]?) (n := 42) h42 (zx_42 ad cA cS)
  have h44 := zl_succ (P := fun k => (zX3 ad cA cS ++ zX4 ad cA)[zXp k]? = (zW ad cA cS (zlf zT0))[k]?) (n := 43) h43 (zx_43 ad cA cS)
  have h45 := zl_succ (P := fun k => (zX3 ad cA cS ++ zX4 ad cA)[zXp k]? = (zW ad cA cS (zlf zT0))[k]?) (n := 44) h44 (zx_44 ad cA cS)
  have h46 := zl_succ (P := fun k => (zX3 ad cA cS ++ zX4 ad cA)[zXp k]? = (zW ad cA cS (zlf zT0))[k]?) (n := 45) h45 (zx_45 ad cA cS)
  have h47 := zl_succ (P := fun k => (zX3 ad cA cS ++ zX4 ad cA)[zXp k]? = (zW ad cA cS (zlf zT0))[k]?) (n := 46) h46 (zx_46 ad cA cS)
  have h48 := zl_succ (P := fun k => (zX3 ad cA cS ++ zX4 ad cA)[zXp k]? = (zW ad cA cS (zlf zT0))[k]?) (n := 47) h47 (zx_47 ad cA cS)
  have h49 := zl_succ (P := fun k => (zX3 ad cA cS ++ zX4 ad cA)[zXp k]? = (zW ad cA cS (zlf zT0))[k]?) (n := 48) h48 (zx_48 ad cA cS)
  have h50 := zl_succ (P := fun k => (zX3 ad cA cS ++ zX4 ad cA)[zXp k]? = (zW ad cA cS (zlf zT0))[k]?) (n := 49) h49 (zx_49 ad cA cS)
  have h51 := zl_succ (P := fun k => (zX3 ad cA cS ++ zX4 ad cA)[zXp k]? = (zW ad cA cS (zlf zT0))[k]?) (n := 50) h50 (zx_50 ad cA cS)
  have h52 := zl_succ (P := fun k => (zX3 ad cA cS ++ zX4 ad cA)[zXp k]? = (zW ad cA cS (zlf zT0))[k]?) (n := 51) h51 (zx_51 ad cA cS)
  have h53 := zl_succ (P := fun k => (zX3 ad cA cS ++ zX4 ad cA)[zXp k]? = (zW ad cA cS (zlf zT0))[k]?) (n := 52) h52 (zx_52 ad cA cS)
  have h54 := zl_succ (P := fun k => (zX3 ad cA cS ++ zX4 ad cA)[zXp k]? = (zW ad cA cS (zlf zT0))[k]?) (n := 53) h53 (zx_53 ad cA cS)
  have h55 := zl_succ (P := fun k => (zX3 ad cA cS ++ zX4 ad cA)[zXp k]? = (zW ad cA cS (zlf zT0))[k]?) (n := 54) h54 (zx_54 ad cA cS)
  have h56 := zl_succ (P := fun k => (zX3 ad cA cS ++ zX4 ad cA)[zXp k]? = (zW ad cA cS (zlf zT0))[k]?) (n := 55) h55 (zx_55 ad cA cS)
  have h57 := zl_succ (P := fun k => (zX3 ad cA cS ++ zX4 ad cA)[zXp k]? = (zW ad cA cS (zlf zT0))[k]?) (n := 56) h56 (zx_56 ad cA cS)
  have h58 := zl_succ (P := fun k => (zX3 ad cA cS ++ zX4 ad cA)[zXp k]? = (zW ad cA cS (zlf zT0))[k]?) (n := 57) h57 (zx_57 ad cA cS)
  have h59 := zl_succ (P := fun k => (zX3 ad cA cS ++ zX4 ad cA)[zXp k]? = (zW ad cA cS (zlf zT0))[k]?) (n := 58) h58 (zx_58 ad cA cS)
  have h60 := zl_succ (P := fun k => (zX3 ad cA cS ++ zX4 ad cA)[zXp k]? = (zW ad cA cS (zlf zT0))[k]?) (n := 59) h59 (zx_59 ad cA cS)
  have h61 := zl_succ (P := fun k => (zX3 ad cA cS ++ zX4 ad cA)[zXp k]? = (zW ad cA cS (zlf zT0))[k]?) (n := 60) h60 (zx_60 ad cA cS)
  have h62 := zl_succ (P := fun k => (zX3 ad cA cS ++ zX4 ad cA)[zXp k]? = (zW ad cA cS (zlf zT0))[k]?) (n := 61) h61 (zx_61 ad cA cS)
  have h63 := zl_succ (P := fun k => (zX3 ad cA cS ++ zX4 ad cA)[zXp k]? = (zW ad cA cS (zlf zT0))[k]?) (n := 62) h62 (zx_62 ad cA cS)
  have h64 := zl_succ (P := fun k => (zX3 ad cA cS ++ zX4 ad cA)[zXp k]? = (zW ad cA cS (zlf zT0))[k]?) (n := 63) h63 (zx_63 ad cA cS)
  have h65 := zl_succ (P := fun k => (zX3 ad cA cS ++ zX4 ad cA)[zXp k]? = (zW ad cA cS (zlf zT0))[k]?) (n := 64) h64 (zx_64 ad cA cS)
  have h66 := zl_succ (P := fun k => (zX3 ad cA cS ++ zX4 ad cA)[zXp k]? = (zW ad cA cS (zlf zT0))[k]?) (n := 65) h65 (zx_65 ad cA cS)
  have h67 := zl_succ (P := fun k => (zX3 ad cA cS ++ zX4 ad cA)[zXp k]? = (zW ad cA cS (zlf zT0))[k]?) (n := 66) h66 (zx_66 ad cA cS)
  have h68 := zl_succ (P := fun k => (zX3 ad cA cS ++ zX4 ad cA)[zXp k]? = (zW ad cA cS (zlf zT0))[k]?) (n := 67) h67 (zx_67 ad cA cS)
  have h69 := zl_succ (P := fun k => (zX3 ad cA cS ++ zX4 ad cA)[zXp k]? = (zW ad cA cS (zlf zT0))[k]?) (n := 68) h68 (zx_68 ad cA cS)
  have h70 := zl_succ (P := fun k => (zX3 ad cA cS ++ zX4 ad cA)[zXp k]? = (zW ad cA cS (zlf zT0))[k]?) (n := 69) h69 (zx_69 ad cA cS)
  exact h70
theorem zW_out {ad : Nat → Nat} {cA cS : ClassId} {σ : zM} {k : Nat} (h : ¬ k < 70) : (zW ad cA cS σ)[k]? = none := by
  refine List.getElem?_eq_none ?_
  unfold zW
  rw [List.length_mapIdx, show zLy.length = 70 from rfl]
  omega
theorem zX_P {D : va_G} {ad : Nat → Nat} {cA cS : ClassId} {H : Heap} (h : va_P D vwCl (zX3 ad cA cS ++ zX4 ad cA) H) : va_P D vwCl (zW ad cA cS (zlf zT0)) H := fun k q hq => by
  by_cases hk : k < 70
  · exact h (zXp k) q ((zX_at ad cA cS k hk).trans hq)
  · rw [zW_out hk] at hq
    cases hq
theorem zX_D {A : Nat → Prop} {ad : Nat → Nat} {cA cS : ClassId} (h : va_D A (zX3 ad cA cS ++ zX4 ad cA)) : va_D A (zW ad cA cS (zlf zT0)) := by
  have key : ∀ (k : Nat) (q : Nat × va_E), (zW ad cA cS (zlf zT0))[k]? = some q → k < 70 ∧ (zX3 ad cA cS ++ zX4 ad cA)[zXp k]? = some q := fun k q hq => by
    by_cases hk : k < 70
    · exact ⟨hk, (zX_at ad cA cS k hk).trans hq⟩
    · rw [zW_out hk] at hq
      cases hq
  exact ⟨fun i j p q hp hq he => zXp_inj (key i p hp).1 (key j q hq).1 (h.1 (zXp i) (zXp j) p q (key i p hp).2 (key j q hq).2 he), fun k q hq => h.2 (zXp k) q (key k q hq).2⟩
theorem zX3_congr {f g : Nat → Nat} {cA cS : ClassId} (h : ∀ k, k < 50 → f k = g k) : zX3 f cA cS = zX3 g cA cS := by
  simp only [zX3, h 0 (Nat.le_of_ble_eq_true rfl), h 1 (Nat.le_of_ble_eq_true rfl), h 2 (Nat.le_of_ble_eq_true rfl), h 3 (Nat.le_of_ble_eq_true rfl), h 4 (Nat.le_of_ble_eq_true rfl), h 5 (Nat.le_of_ble_eq_true rfl), h 6 (Nat.le_of_ble_eq_true rfl), h 7 (Nat.le_of_ble_eq_true rfl), h 8 (Nat.le_of_ble_eq_true rfl), h 9 (Nat.le_of_ble_eq_true rfl), h 10 (Nat.le_of_ble_eq_true rfl), h 11 (Nat.le_of_ble_eq_true rfl), h 12 (Nat.le_of_ble_eq_true rfl), h 13 (Nat.le_of_ble_eq_true rfl), h 14 (Nat.le_of_ble_eq_true rfl), h 15 (Nat.le_of_ble_eq_true rfl), h 16 (Nat.le_of_ble_eq_true rfl), h 17 (Nat.le_of_ble_eq_true rfl), h 18 (Nat.le_of_ble_eq_true rfl), h 19 (Nat.le_of_ble_eq_true rfl), h 20 (Nat.le_of_ble_eq_true rfl), h 21 (Nat.le_of_ble_eq_true rfl), h 22 (Nat.le_of_ble_eq_true rfl), h 23 (Nat.le_of_ble_eq_true rfl), h 24 (Nat.le_of_ble_eq_true rfl), h 25 (Nat.le_of_ble_eq_true rfl), h 26 (Nat.le_of_ble_eq_true rfl), h 27 (Nat.le_of_ble_eq_true rfl), h 28 (Nat.le_of_ble_eq_true rfl), h 29 (Nat.le_of_ble_eq_true rfl), h 30 (Nat.le_of_ble_eq_true rfl), h 31 (Nat.le_of_ble_eq_true rfl), h 32 (Nat.le_of_ble_eq_true rfl), h 33 (Nat.le_of_ble_eq_true rfl), h 34 (Nat.le_of_ble_eq_true rfl), h 35 (Nat.le_of_ble_eq_true rfl), h 36 (Nat.le_of_ble_eq_true rfl), h 37 (Nat.le_of_ble_eq_true rfl), h 38 (Nat.le_of_ble_eq_true rfl), h 39 (Nat.le_of_ble_eq_true rfl), h 40 (Nat.le_of_ble_eq_true rfl), h 41 (Nat.le_of_ble_eq_true rfl), h 42 (Nat.le_of_ble_eq_true rfl), h 43 (Nat.le_of_ble_eq_true rfl), h 44 (Nat.le_of_ble_eq_true rfl), h 45 (Nat.le_of_ble_eq_true rfl), h 46 (Nat.le_of_ble_eq_true rfl), h 47 (Nat.le_of_ble_eq_true rfl), h 48 (Nat.le_of_ble_eq_true rfl), h 49 (Nat.le_of_ble_eq_true rfl)]
theorem zX4_congr {f g : Nat → Nat} {cA : ClassId} (h : ∀ k, 50 ≤ k → f k = g k) : zX4 f cA = zX4 g cA := by
  simp only [zX4, h 50 (Nat.le_of_ble_eq_true rfl), h 51 (Nat.le_of_ble_eq_true rfl), h 52 (Nat.le_of_ble_eq_true rfl), h 53 (Nat.le_of_ble_eq_true rfl), h 54 (Nat.le_of_ble_eq_true rfl), h 55 (Nat.le_of_ble_eq_true rfl), h 56 (Nat.le_of_ble_eq_true rfl), h 57 (Nat.le_of_ble_eq_true rfl), h 58 (Nat.le_of_ble_eq_true rfl), h 59 (Nat.le_of_ble_eq_true rfl), h 60 (Nat.le_of_ble_eq_true rfl), h 61 (Nat.le_of_ble_eq_true rfl), h 62 (Nat.le_of_ble_eq_true rfl), h 63 (Nat.le_of_ble_eq_true rfl), h 64 (Nat.le_of_ble_eq_true rfl), h 65 (Nat.le_of_ble_eq_true rfl), h 66 (Nat.le_of_ble_eq_true rfl), h 67 (Nat.le_of_ble_eq_true rfl), h 68 (Nat.le_of_ble_eq_true rfl), h 69 (Nat.le_of_ble_eq_true rfl)]
theorem zX_comb (ad am : Nat → Nat) (cA cS : ClassId) : ∃ f : Nat → Nat, zX3 ad cA cS = zX3 f cA cS ∧ zX4 am cA = zX4 f cA ∧ f 0 = ad 0 ∧ f 50 = am 50 :=
  ⟨fun k => if k < 50 then ad k else am k, zX3_congr (fun k hk => (if_pos hk).symm), zX4_congr (fun k hk => (if_neg (Nat.not_lt.mpr hk)).symm), if_pos (Nat.le_of_ble_eq_true rfl), if_neg (Nat.not_lt.mpr (Nat.le_refl 50))⟩
