/-! the start -/
def zT0 : zMI := fun k j => if k = 64 then (if j < 4 then -1 else 0) else if k = 1 ∨ k = 10 ∨ k = 19 ∨ k = 28 then (if j = 11 then 1 else 0) else if k = 50 then (if j = 7 then 1 else 0) else 0
def zG0 : zG := (0, 0, fun _ => 0, fun _ _ => 0, fun _ _ => 0, fun _ => 0, fun _ => 0, fun _ => 0, 0, fun _ => 0, 1)
def zS0 : gSh := (fun _ => -1, fun _ => 0, fun _ _ => 0)
theorem JJ0 : JJ zT0 := by
  refine ⟨zG0, none, (0, fun _ => 0), zS0, ⟨⟨⟨⟨Nat.zero_le _, Nat.le_refl _⟩, fun p hp => absurd hp (Nat.not_lt_zero p), fun p q hp => absurd hp (Nat.not_lt_zero p), fun s hs => absurd hs (Nat.not_lt_zero s), fun s w hs => absurd hs (Nat.not_lt_zero s), fun s hs => absurd hs (Nat.not_lt_zero s), ⟨Or.inl rfl, fun z => absurd z (by decide)⟩, by decide⟩, fun p hp => absurd hp (Nat.not_lt_zero p)⟩, fun k hk => (by cases hk), fun n hn => ⟨⟨by show (-1 : Int) ≤ -1; omega, by show (-1 : Int) ≤ 2; omega⟩, ⟨by show (0 : Int) ≤ 0; omega, by show (0 : Int) ≤ 24; omega⟩, fun i hi => ⟨by show (-2147483648 : Int) ≤ 0; omega, by show (0 : Int) < 2147483648; omega⟩⟩⟩, ⟨⟨⟨rfl, rfl, rfl, rfl⟩, fun s hs => absurd hs (Nat.not_lt_zero s), fun s w hs => absurd hs (Nat.not_lt_zero s), fun p hp => absurd hp (Nat.not_lt_zero p), rfl, rfl⟩, rfl, ⟨rfl, fun i hi => absurd hi (Nat.not_lt_zero i), Nat.zero_le _, fun i hi => absurd hi (Nat.not_lt_zero i)⟩, fun n hn => ?_⟩, ⟨⟨⟨rfl, rfl, rfl, rfl⟩, fun s hs => absurd hs (Nat.not_lt_zero s), fun s w hs => absurd hs (Nat.not_lt_zero s), fun p hp => absurd hp (Nat.not_lt_zero p), rfl, rfl⟩, rfl, ⟨rfl, fun i hi => absurd hi (Nat.not_lt_zero i), Nat.zero_le _, fun i hi => absurd hi (Nat.not_lt_zero i)⟩, fun n hn => ?_⟩⟩
  · rcases (by omega : n = 0 ∨ n = 1 ∨ n = 2 ∨ n = 3) with rfl | rfl | rfl | rfl <;> exact ⟨rfl, fun z => absurd z (by decide), rfl, fun i _ => rfl⟩
  · refine ⟨?_, rfl, fun i _ => rfl⟩
    show (if n < 4 then (-1 : Int) else 0) = -1
    rw [if_pos hn]
def zWB (cA cS : ClassId) (h0 p1 p1_q1 p1_q2 p1_q3 p1_q4 p1_q5 p1_q6 p1_q7 p1_q8 p2 p2_q1 p2_q2 p2_q3 p2_q4 p2_q5 p2_q6 p2_q7 p2_q8 p3 p3_q1 p3_q2 p3_q3 p3_q4 p3_q5 p3_q6 p3_q7 p3_q8 p4 p4_q1 p4_q2 p4_q3 p4_q4 p4_q5 p4_q6 p4_q7 p4_q8 p5 p5_q1 arr p8 p8_q1 p9 p9_q1 p10 p10_q1 p11 p11_q1 o6 o7 m0 m_q1 m_q2 m_q3 m_q4 m_q5 m_q6 m_q7 m_q8 m_q9 m_q10 m_q11 m_q12 m_q13 m_q14 m_q15 m_q16 m_q17 m_q18 m_q19 : Nat) : va_W := [(h0, .inr (3, [.ref p1, .ref p2, .int 0, .ref p3, .ref p4, .ref p5, .ref arr, .ref o6, .ref o7])), (p1, .inr (1, [.int 0, .ref p1_q1, .ref p1_q2, .ref p1_q3, .ref p1_q4, .ref p1_q5, .ref p1_q6, .int 0, .ref p1_q7, .int 0, .ref p1_q8, .int 1])), (p1_q1, .inl (cA, 12, .inl (fun _ => 0))), (p1_q2, .inl (cA, 24, .inl (fun _ => 0))), (p1_q3, .inl (cA, 24, .inl (fun _ => 0))), (p1_q4, .inl (cA, 12, .inl (fun _ => 0))), (p1_q5, .inl (cA, 12, .inl (fun _ => 0))), (p1_q6, .inl (cA, 12, .inl (fun _ => 0))), (p1_q7, .inl (cA, 12, .inl (fun _ => 0))), (p1_q8, .inl (cA, 2, .inl (fun _ => 0))), (p2, .inr (1, [.int 0, .ref p2_q1, .ref p2_q2, .ref p2_q3, .ref p2_q4, .ref p2_q5, .ref p2_q6, .int 0, .ref p2_q7, .int 0, .ref p2_q8, .int 1])), (p2_q1, .inl (cA, 12, .inl (fun _ => 0))), (p2_q2, .inl (cA, 24, .inl (fun _ => 0))), (p2_q3, .inl (cA, 24, .inl (fun _ => 0))), (p2_q4, .inl (cA, 12, .inl (fun _ => 0))), (p2_q5, .inl (cA, 12, .inl (fun _ => 0))), (p2_q6, .inl (cA, 12, .inl (fun _ => 0))), (p2_q7, .inl (cA, 12, .inl (fun _ => 0))), (p2_q8, .inl (cA, 2, .inl (fun _ => 0))), (p3, .inr (1, [.int 0, .ref p3_q1, .ref p3_q2, .ref p3_q3, .ref p3_q4, .ref p3_q5, .ref p3_q6, .int 0, .ref p3_q7, .int 0, .ref p3_q8, .int 1])), (p3_q1, .inl (cA, 12, .inl (fun _ => 0))), (p3_q2, .inl (cA, 24, .inl (fun _ => 0))), (p3_q3, .inl (cA, 24, .inl (fun _ => 0))), (p3_q4, .inl (cA, 12, .inl (fun _ => 0))), (p3_q5, .inl (cA, 12, .inl (fun _ => 0))), (p3_q6, .inl (cA, 12, .inl (fun _ => 0))), (p3_q7, .inl (cA, 12, .inl (fun _ => 0))), (p3_q8, .inl (cA, 2, .inl (fun _ => 0))), (p4, .inr (1, [.int 0, .ref p4_q1, .ref p4_q2, .ref p4_q3, .ref p4_q4, .ref p4_q5, .ref p4_q6, .int 0, .ref p4_q7, .int 0, .ref p4_q8, .int 1])), (p4_q1, .inl (cA, 12, .inl (fun _ => 0))), (p4_q2, .inl (cA, 24, .inl (fun _ => 0))), (p4_q3, .inl (cA, 24, .inl (fun _ => 0))), (p4_q4, .inl (cA, 12, .inl (fun _ => 0))), (p4_q5, .inl (cA, 12, .inl (fun _ => 0))), (p4_q6, .inl (cA, 12, .inl (fun _ => 0))), (p4_q7, .inl (cA, 12, .inl (fun _ => 0))), (p4_q8, .inl (cA, 2, .inl (fun _ => 0))), (p5, .inr (2, [.ref p5_q1, .int 0, .int 0])), (p5_q1, .inl (cA, 80, .inl (fun _ => 0))), (arr, .inl (cS, 4, .inr (.inr (.inr (.inr (fun i => (([40, 42, 44, 46] : List Nat)[i]?).map (fun k => ([h0, p1, p1_q1, p1_q2, p1_q3, p1_q4, p1_q5, p1_q6, p1_q7, p1_q8, p2, p2_q1, p2_q2, p2_q3, p2_q4, p2_q5, p2_q6, p2_q7, p2_q8, p3, p3_q1, p3_q2, p3_q3, p3_q4, p3_q5, p3_q6, p3_q7, p3_q8, p4, p4_q1, p4_q2, p4_q3, p4_q4, p4_q5, p4_q6, p4_q7, p4_q8, p5, p5_q1, arr, p8, p8_q1, p9, p9_q1, p10, p10_q1, p11, p11_q1, o6, o7, m0, m_q1, m_q2, m_q3, m_q4, m_q5, m_q6, m_q7, m_q8, m_q9, m_q10, m_q11, m_q12, m_q13, m_q14, m_q15, m_q16, m_q17, m_q18, m_q19] : List Nat).getD k 0))))))), (o6, .inl (cA, 5, .inl (fun _ => 0))), (o7, .inl (cA, 5, .inl (fun _ => 0))), (p8, .inr (0, [.ref p8_q1, .int 0, .int 0, .int 0])), (p8_q1, .inl (cA, 24, .inl (fun _ => 0))), (p9, .inr (0, [.ref p9_q1, .int 0, .int 0, .int 0])), (p9_q1, .inl (cA, 24, .inl (fun _ => 0))), (p10, .inr (0, [.ref p10_q1, .int 0, .int 0, .int 0])), (p10_q1, .inl (cA, 24, .inl (fun _ => 0))), (p11, .inr (0, [.ref p11_q1, .int 0, .int 0, .int 0])), (p11_q1, .inl (cA, 24, .inl (fun _ => 0))), (m0, .inr (4, [.ref m_q1, .int 0, .ref m_q2, .ref m_q3, .int 0, .ref m_q4, .int 0, .int 1, .ref m_q5, .int 0, .int 0, .int 0, .ref m_q6, .ref m_q7, .ref m_q8, .ref m_q9, .ref m_q10, .int 0, .ref m_q11, .ref m_q12, .ref m_q13, .ref m_q14, .ref m_q15, .ref m_q16, .ref m_q17, .ref m_q18, .ref m_q19, .int 0])), (m_q1, .inl (cA, 72, .inl (fun _ => 0))), (m_q2, .inl (cA, 12, .inl (fun _ => 0))), (m_q3, .inl (cA, 12, .inl (fun _ => 0))), (m_q4, .inl (cA, 2, .inl (fun _ => 0))), (m_q5, .inl (cA, 80, .inl (fun _ => 0))), (m_q6, .inl (cA, 40, .inl (fun _ => 0))), (m_q7, .inl (cA, 12, .inl (fun _ => 0))), (m_q8, .inl (cA, 12, .inl (fun _ => 0))), (m_q9, .inl (cA, 72, .inl (fun _ => 0))), (m_q10, .inl (cA, 72, .inl (fun _ => 0))), (m_q11, .inl (cA, 72, .inl (fun _ => 0))), (m_q12, .inl (cA, 24, .inl (fun _ => 0))), (m_q13, .inl (cA, 6, .inl (fun _ => 0))), (m_q14, .inl (cA, 4, .inl (zlf zT0 64))), (m_q15, .inl (cA, 4, .inl (fun _ => 0))), (m_q16, .inl (cA, 96, .inl (fun _ => 0))), (m_q17, .inl (cA, 5, .inl (fun _ => 0))), (m_q18, .inl (cA, 5, .inl (fun _ => 0))), (m_q19, .inl (cA, 24, .inl (fun _ => 0)))]
def zAd (h0 p1 p1_q1 p1_q2 p1_q3 p1_q4 p1_q5 p1_q6 p1_q7 p1_q8 p2 p2_q1 p2_q2 p2_q3 p2_q4 p2_q5 p2_q6 p2_q7 p2_q8 p3 p3_q1 p3_q2 p3_q3 p3_q4 p3_q5 p3_q6 p3_q7 p3_q8 p4 p4_q1 p4_q2 p4_q3 p4_q4 p4_q5 p4_q6 p4_q7 p4_q8 p5 p5_q1 arr p8 p8_q1 p9 p9_q1 p10 p10_q1 p11 p11_q1 o6 o7 m0 m_q1 m_q2 m_q3 m_q4 m_q5 m_q6 m_q7 m_q8 m_q9 m_q10 m_q11 m_q12 m_q13 m_q14 m_q15 m_q16 m_q17 m_q18 m_q19 : Nat) : Nat → Nat := fun k => ([h0, p1, p1_q1, p1_q2, p1_q3, p1_q4, p1_q5, p1_q6, p1_q7, p1_q8, p2, p2_q1, p2_q2, p2_q3, p2_q4, p2_q5, p2_q6, p2_q7, p2_q8, p3, p3_q1, p3_q2, p3_q3, p3_q4, p3_q5, p3_q6, p3_q7, p3_q8, p4, p4_q1, p4_q2, p4_q3, p4_q4, p4_q5, p4_q6, p4_q7, p4_q8, p5, p5_q1, arr, p8, p8_q1, p9, p9_q1, p10, p10_q1, p11, p11_q1, o6, o7, m0, m_q1, m_q2, m_q3, m_q4, m_q5, m_q6, m_q7, m_q8, m_q9, m_q10, m_q11, m_q12, m_q13, m_q14, m_q15, m_q16, m_q17, m_q18, m_q19] : List Nat).getD k 0
set_option maxHeartbeats 4000000 in
theorem zW_at (cA cS : ClassId) (h0 p1 p1_q1 p1_q2 p1_q3 p1_q4 p1_q5 p1_q6 p1_q7 p1_q8 p2 p2_q1 p2_q2 p2_q3 p2_q4 p2_q5 p2_q6 p2_q7 p2_q8 p3 p3_q1 p3_q2 p3_q3 p3_q4 p3_q5 p3_q6 p3_q7 p3_q8 p4 p4_q1 p4_q2 p4_q3 p4_q4 p4_q5 p4_q6 p4_q7 p4_q8 p5 p5_q1 arr p8 p8_q1 p9 p9_q1 p10 p10_q1 p11 p11_q1 o6 o7 m0 m_q1 m_q2 m_q3 m_q4 m_q5 m_q6 m_q7 m_q8 m_q9 m_q10 m_q11 m_q12 m_q13 m_q14 m_q15 m_q16 m_q17 m_q18 m_q19 : Nat) : ∀ (k : Nat) (q : Nat × va_E), (zW (zAd h0 p1 p1_q1 p1_q2 p1_q3 p1_q4 p1_q5 p1_q6 p1_q7 p1_q8 p2 p2_q1 p2_q2 p2_q3 p2_q4 p2_q5 p2_q6 p2_q7 p2_q8 p3 p3_q1 p3_q2 p3_q3 p3_q4 p3_q5 p3_q6 p3_q7 p3_q8 p4 p4_q1 p4_q2 p4_q3 p4_q4 p4_q5 p4_q6 p4_q7 p4_q8 p5 p5_q1 arr p8 p8_q1 p9 p9_q1 p10 p10_q1 p11 p11_q1 o6 o7 m0 m_q1 m_q2 m_q3 m_q4 m_q5 m_q6 m_q7 m_q8 m_q9 m_q10 m_q11 m_q12 m_q13 m_q14 m_q15 m_q16 m_q17 m_q18 m_q19) cA cS (zlf zT0))[k]? = some q → ∃ j : Nat, ([0, 1, 2, 3, 4, 5, 6, 7, 8, 9, 10, 11, 12, 13, 14, 15, 16, 17, 18, 19, 20, 21, 22, 23, 24, 25, 26, 27, 28, 29, 30, 31, 32, 33, 34, 35, 36, 37, 38, 39, 42, 43, 44, 45, 46, 47, 48, 49, 40, 41, 50, 51, 52, 53, 54, 55, 56, 57, 58, 59, 60, 61, 62, 63, 64, 65, 66, 67, 68, 69] : List Nat)[k]? = some j ∧ (zWB cA cS h0 p1 p1_q1 p1_q2 p1_q3 p1_q4 p1_q5 p1_q6 p1_q7 p1_q8 p2 p2_q1 p2_q2 p2_q3 p2_q4 p2_q5 p2_q6 p2_q7 p2_q8 p3 p3_q1 p3_q2 p3_q3 p3_q4 p3_q5 p3_q6 p3_q7 p3_q8 p4 p4_q1 p4_q2 p4_q3 p4_q4 p4_q5 p4_q6 p4_q7 p4_q8 p5 p5_q1 arr p8 p8_q1 p9 p9_q1 p10 p10_q1 p11 p11_q1 o6 o7 m0 m_q1 m_q2 m_q3 m_q4 m_q5 m_q6 m_q7 m_q8 m_q9 m_q10 m_q11 m_q12 m_q13 m_q14 m_q15 m_q16 m_q17 m_q18 m_q19)[j]? = some q := by
  intro k q hq
  have hk : k < 70 := by
    have := (List.getElem?_eq_some_iff.mp hq).1
    simpa [zW, zLy] using this
  rcases (by omega : k = 0 ∨ k = 1 ∨ k = 2 ∨ k = 3 ∨ k = 4 ∨ k = 5 ∨ k = 6 ∨ k = 7 ∨ k = 8 ∨ k = 9 ∨ k = 10 ∨ k = 11 ∨ k = 12 ∨ k = 13 ∨ k = 14 ∨ k = 15 ∨ k = 16 ∨ k = 17 ∨ k = 18 ∨ k = 19 ∨ k = 20 ∨ k = 21 ∨ k = 22 ∨ k = 23 ∨ k = 24 ∨ k = 25 ∨ k = 26 ∨ k = 27 ∨ k = 28 ∨ k = 29 ∨ k = 30 ∨ k = 31 ∨ k = 32 ∨ k = 33 ∨ k = 34 ∨ k = 35 ∨ k = 36 ∨ k = 37 ∨ k = 38 ∨ k = 39 ∨ k = 40 ∨ k = 41 ∨ k = 42 ∨ k = 43 ∨ k = 44 ∨ k = 45 ∨ k = 46 ∨ k = 47 ∨ k = 48 ∨ k = 49 ∨ k = 50 ∨ k = 51 ∨ k = 52 ∨ k = 53 ∨ k = 54 ∨ k = 55 ∨ k = 56 ∨ k = 57 ∨ k = 58 ∨ k = 59 ∨ k = 60 ∨ k = 61 ∨ k = 62 ∨ k = 63 ∨ k = 64 ∨ k = 65 ∨ k = 66 ∨ k = 67 ∨ k = 68 ∨ k = 69) with rfl | rfl | rfl | rfl | rfl | rfl | rfl | rfl | rfl | rfl | rfl | rfl | rfl | rfl | rfl | rfl | rfl | rfl | rfl | rfl | rfl | rfl | rfl | rfl | rfl | rfl | rfl | rfl | rfl | rfl | rfl | rfl | rfl | rfl | rfl | rfl | rfl | rfl | rfl | rfl | rfl | rfl | rfl | rfl | rfl | rfl | rfl | rfl | rfl | rfl | rfl | rfl | rfl | rfl | rfl | rfl | rfl | rfl | rfl | rfl | rfl | rfl | rfl | rfl | rfl | rfl | rfl | rfl | rfl | rfl
  · exact ⟨0, rfl, by rw [← hq, zW_get (k := 0) (e := .inr (.inl (3, [some 1, some 10, none, some 19, some 28, some 37, some 39, some 48, some 49]))) rfl]; rfl⟩
  · exact ⟨1, rfl, by rw [← hq, zW_get (k := 1) (e := .inr (.inl (1, [none, some 2, some 3, some 4, some 5, some 6, some 7, none, some 8, none, some 9, none]))) rfl]; rfl⟩
  · exact ⟨2, rfl, by rw [← hq, zW_get (k := 2) (e := .inl 12) rfl]; rfl⟩
  · exact ⟨3, rfl, by rw [← hq, zW_get (k := 3) (e := .inl 24) rfl]; rfl⟩
  · exact ⟨4, rfl, by rw [← hq, zW_get (k := 4) (e := .inl 24) rfl]; rfl⟩
  · exact ⟨5, rfl, by rw [← hq, zW_get (k := 5) (e := .inl 12) rfl]; rfl⟩
  · exact ⟨6, rfl, by rw [← hq, zW_get (k := 6) (e := .inl 12) rfl]; rfl⟩
  · exact ⟨7, rfl, by rw [← hq, zW_get (k := 7) (e := .inl 12) rfl]; rfl⟩
  · exact ⟨8, rfl, by rw [← hq, zW_get (k := 8) (e := .inl 12) rfl]; rfl⟩
  · exact ⟨9, rfl, by rw [← hq, zW_get (k := 9) (e := .inl 2) rfl]; rfl⟩
  · exact ⟨10, rfl, by rw [← hq, zW_get (k := 10) (e := .inr (.inl (1, [none, some 11, some 12, some 13, some 14, some 15, some 16, none, some 17, none, some 18, none]))) rfl]; rfl⟩
  · exact ⟨11, rfl, by rw [← hq, zW_get (k := 11) (e := .inl 12) rfl]; rfl⟩
  · exact ⟨12, rfl, by rw [← hq, zW_get (k := 12) (e := .inl 24) rfl]; rfl⟩
  · exact ⟨13, rfl, by rw [← hq, zW_get (k := 13) (e := .inl 24) rfl]; rfl⟩
  · exact ⟨14, rfl, by rw [← hq, zW_get (k := 14) (e := .inl 12) rfl]; rfl⟩
  · exact ⟨15, rfl, by rw [← hq, zW_get (k := 15) (e := .inl 12) rfl]; rfl⟩
  · exact ⟨16, rfl, by rw [← hq, zW_get (k := 16) (e := .inl 12) rfl]; rfl⟩
  · exact ⟨17, rfl, by rw [← hq, zW_get (k := 17) (e := .inl 12) rfl]; rfl⟩
  · exact ⟨18, rfl, by rw [← hq, zW_get (k := 18) (e := .inl 2) rfl]; rfl⟩
  · exact ⟨19, rfl, by rw [← hq, zW_get (k := 19) (e := .inr (.inl (1, [none, some 20, some 21, some 22, some 23, some 24, some 25, none, some 26, none, some 27, none]))) rfl]; rfl⟩
  · exact ⟨20, rfl, by rw [← hq, zW_get (k := 20) (e := .inl 12) rfl]; rfl⟩
  · exact ⟨21, rfl, by rw [← hq, zW_get (k := 21) (e := .inl 24) rfl]; rfl⟩
  · exact ⟨22, rfl, by rw [← hq, zW_get (k := 22) (e := .inl 24) rfl]; rfl⟩
  · exact ⟨23, rfl, by rw [← hq, zW_get (k := 23) (e := .inl 12) rfl]; rfl⟩
  · exact ⟨24, rfl, by rw [← hq, zW_get (k := 24) (e := .inl 12) rfl]; rfl⟩
  · exact ⟨25, rfl, by rw [← hq, zW_get (k := 25) (e := .inl 12) rfl]; rfl⟩
  · exact ⟨26, rfl, by rw [← hq, zW_get (k := 26) (e := .inl 12) rfl]; rfl⟩
  · exact ⟨27, rfl, by rw [← hq, zW_get (k := 27) (e := .inl 2) rfl]; rfl⟩
  · exact ⟨28, rfl, by rw [← hq, zW_get (k := 28) (e := .inr (.inl (1, [none, some 29, some 30, some 31, some 32, some 33, some 34, none, some 35, none, some 36, none]))) rfl]; rfl⟩
  · exact ⟨29, rfl, by rw [← hq, zW_get (k := 29) (e := .inl 12) rfl]; rfl⟩
  · exact ⟨30, rfl, by rw [← hq, zW_get (k := 30) (e := .inl 24) rfl]; rfl⟩
  · exact ⟨31, rfl, by rw [← hq, zW_get (k := 31) (e := .inl 24) rfl]; rfl⟩
  · exact ⟨32, rfl, by rw [← hq, zW_get (k := 32) (e := .inl 12) rfl]; rfl⟩
  · exact ⟨33, rfl, by rw [← hq, zW_get (k := 33) (e := .inl 12) rfl]; rfl⟩
  · exact ⟨34, rfl, by rw [← hq, zW_get (k := 34) (e := .inl 12) rfl]; rfl⟩
  · exact ⟨35, rfl, by rw [← hq, zW_get (k := 35) (e := .inl 12) rfl]; rfl⟩
  · exact ⟨36, rfl, by rw [← hq, zW_get (k := 36) (e := .inl 2) rfl]; rfl⟩
  · exact ⟨37, rfl, by rw [← hq, zW_get (k := 37) (e := .inr (.inl (2, [some 38, none, none]))) rfl]; rfl⟩
  · exact ⟨38, rfl, by rw [← hq, zW_get (k := 38) (e := .inl 80) rfl]; rfl⟩
  · exact ⟨39, rfl, by rw [← hq, zW_get (k := 39) (e := .inr (.inr [40, 42, 44, 46])) rfl]; rfl⟩
  · exact ⟨42, rfl, by rw [← hq, zW_get (k := 40) (e := .inr (.inl (0, [some 41, none, none, none]))) rfl]; rfl⟩
  · exact ⟨43, rfl, by rw [← hq, zW_get (k := 41) (e := .inl 24) rfl]; rfl⟩
  · exact ⟨44, rfl, by rw [← hq, zW_get (k := 42) (e := .inr (.inl (0, [some 43, none, none, none]))) rfl]; rfl⟩
  · exact ⟨45, rfl, by rw [← hq, zW_get (k := 43) (e := .inl 24) rfl]; rfl⟩
  · exact ⟨46, rfl, by rw [← hq, zW_get (k := 44) (e := .inr (.inl (0, [some 45, none, none, none]))) rfl]; rfl⟩
  · exact ⟨47, rfl, by rw [← hq, zW_get (k := 45) (e := .inl 24) rfl]; rfl⟩
  · exact ⟨48, rfl, by rw [← hq, zW_get (k := 46) (e := .inr (.inl (0, [some 47, none, none, none]))) rfl]; rfl⟩
  · exact ⟨49, rfl, by rw [← hq, zW_get (k := 47) (e := .inl 24) rfl]; rfl⟩
  · exact ⟨40, rfl, by rw [← hq, zW_get (k := 48) (e := .inl 5) rfl]; rfl⟩
  · exact ⟨41, rfl, by rw [← hq, zW_get (k := 49) (e := .inl 5) rfl]; rfl⟩
  · exact ⟨50, rfl, by rw [← hq, zW_get (k := 50) (e := .inr (.inl (4, [some 51, none, some 52, some 53, none, some 54, none, none, some 55, none, none, none, some 56, some 57, some 58, some 59, some 60, none, some 61, some 62, some 63, some 64, some 65, some 66, some 67, some 68, some 69, none]))) rfl]; rfl⟩
  · exact ⟨51, rfl, by rw [← hq, zW_get (k := 51) (e := .inl 72) rfl]; rfl⟩
  · exact ⟨52, rfl, by rw [← hq, zW_get (k := 52) (e := .inl 12) rfl]; rfl⟩
  · exact ⟨53, rfl, by rw [← hq, zW_get (k := 53) (e := .inl 12) rfl]; rfl⟩
  · exact ⟨54, rfl, by rw [← hq, zW_get (k := 54) (e := .inl 2) rfl]; rfl⟩
  · exact ⟨55, rfl, by rw [← hq, zW_get (k := 55) (e := .inl 80) rfl]; rfl⟩
  · exact ⟨56, rfl, by rw [← hq, zW_get (k := 56) (e := .inl 40) rfl]; rfl⟩
  · exact ⟨57, rfl, by rw [← hq, zW_get (k := 57) (e := .inl 12) rfl]; rfl⟩
  · exact ⟨58, rfl, by rw [← hq, zW_get (k := 58) (e := .inl 12) rfl]; rfl⟩
  · exact ⟨59, rfl, by rw [← hq, zW_get (k := 59) (e := .inl 72) rfl]; rfl⟩
  · exact ⟨60, rfl, by rw [← hq, zW_get (k := 60) (e := .inl 72) rfl]; rfl⟩
  · exact ⟨61, rfl, by rw [← hq, zW_get (k := 61) (e := .inl 72) rfl]; rfl⟩
  · exact ⟨62, rfl, by rw [← hq, zW_get (k := 62) (e := .inl 24) rfl]; rfl⟩
  · exact ⟨63, rfl, by rw [← hq, zW_get (k := 63) (e := .inl 6) rfl]; rfl⟩
  · exact ⟨64, rfl, by rw [← hq, zW_get (k := 64) (e := .inl 4) rfl]; rfl⟩
  · exact ⟨65, rfl, by rw [← hq, zW_get (k := 65) (e := .inl 4) rfl]; rfl⟩
  · exact ⟨66, rfl, by rw [← hq, zW_get (k := 66) (e := .inl 96) rfl]; rfl⟩
  · exact ⟨67, rfl, by rw [← hq, zW_get (k := 67) (e := .inl 5) rfl]; rfl⟩
  · exact ⟨68, rfl, by rw [← hq, zW_get (k := 68) (e := .inl 5) rfl]; rfl⟩
  · exact ⟨69, rfl, by rw [← hq, zW_get (k := 69) (e := .inl 24) rfl]; rfl⟩
