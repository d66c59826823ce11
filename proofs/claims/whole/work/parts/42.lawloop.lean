/-! the law: its loop -/
section
variable {p : Program} {l : Launch} {e : Env} {s : State} {m : MethodId} {below : List Frame} {meth : Method} {c : Code} {b L : Nat} {xs : Nat → Int32} {D : va_G} {ad : Nat → Nat} {cA cS : ClassId} {H : Heap} {locs : List Loc} {cells slots : Nat} {Q : State → Prop}
set_option maxHeartbeats 4000000 in
theorem law_loop (hL : L ≤ 3072) (C0 : lw_At p s m meth c b L xs) (hK : va_K D vwCl (zTy cA cS) s) (hN : zNs s) (hc : cells ≤ 600000 ∧ slots ≤ 7302250) : ∀ (n i : Nat) (t : zMI) (H : Heap) (locs : List Loc) (ls : Array Slot), i ≤ L + 6 → L ≤ i + n → JJ t → va_P D vwCl (zW ad cA cS (zlf t)) H → va_D (fun q : Nat => s.heap.size ≤ q) (zW ad cA cS (zlf t)) → va_S (fun q : Nat => s.heap.size ≤ q) s.heap H locs → lv_has ls 4 [(0, .ref b), (1, .ref (ad 0)), (2, .ref (ad 50)), (3, .int (nI i))] → W p l e room_1 s m #[Value.ref b] below meth c H locs cells slots (lw_Z below #[Value.ref b] s) (F0 m 18 ls []) := by
  obtain ⟨hx, hb, hr, hml, hown, hts, hX, hbl, hlocks, hgv⟩ := id C0
  have hbA : ¬ (fun q : Nat => s.heap.size ≤ q) b := Nat.not_le.mpr hbl
  have cmp : ∀ i : Nat, i ≤ L + 6 → (Int32.ofNat L - 6 < nI i ↔ ¬ (i + 6 ≤ L)) := fun i hi => by
    have e1 : Int32.ofNat L - 6 = zi ((L : Int) - 6) := zi_sub (L : Int) 6
    have e2 : nI i = zi (i : Int) := rfl
    rw [e1, e2, zi_lt (by omega)]
    omega
  have out : ∀ (i : Nat) (H : Heap) (locs : List Loc) (ls : Array Slot), i ≤ L + 6 → ¬ (i + 6 ≤ L) → va_S (fun q : Nat => s.heap.size ≤ q) s.heap H locs → lv_has ls 4 [(0, .ref b), (1, .ref (ad 0)), (2, .ref (ad 50)), (3, .int (nI i))] → W p l e room_1 s m #[Value.ref b] below meth c H locs cells slots (lw_Z below #[Value.ref b] s) (F0 m 18 ls []) := by
    intro i H locs ls hi hno hS hl
    refine lv_iload_n hx hb dL_18 rfl (lv_at hl 3 rfl) ?_
    refine lv_aload_n hx hb dL_19 rfl (lv_at hl 0 rfl) ?_
    refine va_slen hx hb hX hbl hbA hS dL_20 ?_
    refine lv_bipush (v := 6) hx hb dL_21 (by decide) ?_
    refine lv_isub hx hb dL_23 ?_
    refine lv_icmp_gt (tgt := 1019) hx hb dL_24 (by decide) (fun _ => ?_) (fun q => absurd ((cmp i hi).mpr hno) q)
    refine lv_iconst (v := 1) hx hb dL_1019 (by decide) ?_
    refine va_forget (fun q hq => hS.2.2 q hq) ?_
    refine W.widen (k := 600000) (n := 7302250) hc.1 hc.2 ?_
    exact lw_ret hx hb hr hlocks dL_1020
  intro n
  induction n with
  | zero =>
    intro i t H locs ls hi hn hJ hP hD hS hl
    exact out i H locs ls hi (by omega) hS hl
  | succ n ih =>
    intro i t H locs ls hi hn hJ hP hD hS hl
    by_cases h6 : i + 6 ≤ L
    · have next : ∀ (t2 : zMI) (H2 : Heap) (locs2 : List Loc), JJ t2 → va_P D vwCl (zW ad cA cS (zlf t2)) H2 → va_D (fun q : Nat => s.heap.size ≤ q) (zW ad cA cS (zlf t2)) → va_S (fun q : Nat => s.heap.size ≤ q) s.heap H2 locs2 → W p l e room_1 s m #[Value.ref b] below meth c H2 locs2 cells slots (lw_Z below #[Value.ref b] s) (F0 m 1013 ls []) := by
        intro t2 H2 locs2 hJ2 hP2 hD2 hS2
        refine lv_iinc (v := nI (i + 6)) (lv' := [(3, .int (nI (i + 6))), (0, .ref b), (1, .ref (ad 0)), (2, .ref (ad 50))]) hx hb dL_1013 hl (k := 3) rfl (nI_add i 6) (by decide) rfl (fun ls hl => ?_)
        refine lv_goto (tgt := 18) hx hb dL_1016 (by decide) ?_
        exact ih (i + 6) t2 H2 locs2 ls (by omega) (by omega) hJ2 hP2 hD2 hS2 (lv_sub hl [1, 2, 3, 0] rfl)
      have hin0 : vp_in (nI i) L := vp_in_nI (by omega) (by omega)
      refine lv_iload_n hx hb dL_18 rfl (lv_at hl 3 rfl) ?_
      refine lv_aload_n hx hb dL_19 rfl (lv_at hl 0 rfl) ?_
      refine va_slen hx hb hX hbl hbA hS dL_20 ?_
      refine lv_bipush (v := 6) hx hb dL_21 (by decide) ?_
      refine lv_isub hx hb dL_23 ?_
      refine lv_icmp_gt (tgt := 1019) hx hb dL_24 (by decide) (fun q => absurd h6 ((cmp i hi).mp q)) (fun _ => ?_)
      refine lv_aload_n hx hb dL_27 rfl (lv_at hl 0 rfl) ?_
      refine lv_iload_n hx hb dL_28 rfl (lv_at hl 3 rfl) ?_
      refine va_sld hx hb hX hbl hbA hS hin0 dL_29 ?_
      refine lv_bipush (v := 31) hx hb dL_30 (by decide) ?_
      refine lv_iand hx hb dL_32 ?_
      generalize xs (nI i).toNatClampNeg &&& 31 = y
      by_cases ho : y.toInt < 0 ∨ 26 < y.toInt
      · exact lv_tableOut (tgt := 1013) hx hb dL_33 ho (by decide) (next t H locs hJ hP hD hS)
      · rcases (by omega : y.toInt = 0 ∨ y.toInt = 1 ∨ y.toInt = 2 ∨ y.toInt = 3 ∨ y.toInt = 4 ∨ y.toInt = 5 ∨ y.toInt = 6 ∨ y.toInt = 7 ∨ y.toInt = 8 ∨ y.toInt = 9 ∨ y.toInt = 10 ∨ y.toInt = 11 ∨ y.toInt = 12 ∨ y.toInt = 13 ∨ y.toInt = 14 ∨ y.toInt = 15 ∨ y.toInt = 16 ∨ y.toInt = 17 ∨ y.toInt = 18 ∨ y.toInt = 19 ∨ y.toInt = 20 ∨ y.toInt = 21 ∨ y.toInt = 22 ∨ y.toInt = 23 ∨ y.toInt = 24 ∨ y.toInt = 25 ∨ y.toInt = 26) with h | h | h | h | h | h | h | h | h | h | h | h | h | h | h | h | h | h | h | h | h | h | h | h | h | h | h
        · exact lv_tableIn (off := 123) (tgt := 156) hx hb dL_33 (by omega) (by omega) (by rw [h]; rfl) (by decide) (law_c0 hL C0 hK hN h6 hJ hP hD hS hl hc next)
        · exact lv_tableIn (off := 166) (tgt := 199) hx hb dL_33 (by omega) (by omega) (by rw [h]; rfl) (by decide) (law_c1 hL C0 hK hN h6 hJ hP hD hS hl hc next)
        · exact lv_tableIn (off := 209) (tgt := 242) hx hb dL_33 (by omega) (by omega) (by rw [h]; rfl) (by decide) (law_c2 hL C0 hK hN h6 hJ hP hD hS hl hc next)
        · exact lv_tableIn (off := 242) (tgt := 275) hx hb dL_33 (by omega) (by omega) (by rw [h]; rfl) (by decide) (law_c3 hL C0 hK hN h6 hJ hP hD hS hl hc next)
        · exact lv_tableIn (off := 275) (tgt := 308) hx hb dL_33 (by omega) (by omega) (by rw [h]; rfl) (by decide) (law_c4 hL C0 hK hN h6 hJ hP hD hS hl hc next)
        · exact lv_tableIn (off := 338) (tgt := 371) hx hb dL_33 (by omega) (by omega) (by rw [h]; rfl) (by decide) (law_c5 hL C0 hK hN h6 hJ hP hD hS hl hc next)
        · exact lv_tableIn (off := 351) (tgt := 384) hx hb dL_33 (by omega) (by omega) (by rw [h]; rfl) (by decide) (law_c6 hL C0 hK hN h6 hJ hP hD hS hl hc next)
        · exact lv_tableIn (off := 374) (tgt := 407) hx hb dL_33 (by omega) (by omega) (by rw [h]; rfl) (by decide) (law_c7 hL C0 hK hN h6 hJ hP hD hS hl hc next)
        · exact lv_tableIn (off := 407) (tgt := 440) hx hb dL_33 (by omega) (by omega) (by rw [h]; rfl) (by decide) (law_c8 hL C0 hK hN h6 hJ hP hD hS hl hc next)
        · exact lv_tableIn (off := 440) (tgt := 473) hx hb dL_33 (by omega) (by omega) (by rw [h]; rfl) (by decide) (law_c9 hL C0 hK hN h6 hJ hP hD hS hl hc next)
        · exact lv_tableIn (off := 463) (tgt := 496) hx hb dL_33 (by omega) (by omega) (by rw [h]; rfl) (by decide) (law_c10 hL C0 hK hN h6 hJ hP hD hS hl hc next)
        · exact lv_tableIn (off := 502) (tgt := 535) hx hb dL_33 (by omega) (by omega) (by rw [h]; rfl) (by decide) (law_c11 hL C0 hK hN h6 hJ hP hD hS hl hc next)
        · exact lv_tableIn (off := 515) (tgt := 548) hx hb dL_33 (by omega) (by omega) (by rw [h]; rfl) (by decide) (law_c12 hL C0 hK hN h6 hJ hP hD hS hl hc next)
        · exact lv_tableIn (off := 538) (tgt := 571) hx hb dL_33 (by omega) (by omega) (by rw [h]; rfl) (by decide) (law_c13 hL C0 hK hN h6 hJ hP hD hS hl hc next)
        · exact lv_tableIn (off := 551) (tgt := 584) hx hb dL_33 (by omega) (by omega) (by rw [h]; rfl) (by decide) (law_c14 hL C0 hK hN h6 hJ hP hD hS hl hc next)
        · exact lv_tableIn (off := 564) (tgt := 597) hx hb dL_33 (by omega) (by omega) (by rw [h]; rfl) (by decide) (law_c15 hL C0 hK hN h6 hJ hP hD hS hl hc next)
        · exact lv_tableIn (off := 597) (tgt := 630) hx hb dL_33 (by omega) (by omega) (by rw [h]; rfl) (by decide) (law_c16 hL C0 hK hN h6 hJ hP hD hS hl hc next)
        · exact lv_tableIn (off := 630) (tgt := 663) hx hb dL_33 (by omega) (by omega) (by rw [h]; rfl) (by decide) (law_c17 hL C0 hK hN h6 hJ hP hD hS hl hc next)
        · exact lv_tableIn (off := 653) (tgt := 686) hx hb dL_33 (by omega) (by omega) (by rw [h]; rfl) (by decide) (law_c18 hL C0 hK hN h6 hJ hP hD hS hl hc next)
        · exact lv_tableIn (off := 676) (tgt := 709) hx hb dL_33 (by omega) (by omega) (by rw [h]; rfl) (by decide) (law_c19 hL C0 hK hN h6 hJ hP hD hS hl hc next)
        · exact lv_tableIn (off := 689) (tgt := 722) hx hb dL_33 (by omega) (by omega) (by rw [h]; rfl) (by decide) (law_c20 hL C0 hK hN h6 hJ hP hD hS hl hc next)
        · exact lv_tableIn (off := 702) (tgt := 735) hx hb dL_33 (by omega) (by omega) (by rw [h]; rfl) (by decide) (law_c21 hL C0 hK hN h6 hJ hP hD hS hl hc next)
        · exact lv_tableIn (off := 755) (tgt := 788) hx hb dL_33 (by omega) (by omega) (by rw [h]; rfl) (by decide) (law_c22 hL C0 hK hN h6 hJ hP hD hS hl hc next)
        · exact lv_tableIn (off := 818) (tgt := 851) hx hb dL_33 (by omega) (by omega) (by rw [h]; rfl) (by decide) (law_c23 hL C0 hK hN h6 hJ hP hD hS hl hc next)
        · exact lv_tableIn (off := 861) (tgt := 894) hx hb dL_33 (by omega) (by omega) (by rw [h]; rfl) (by decide) (law_c24 hL C0 hK hN h6 hJ hP hD hS hl hc next)
        · exact lv_tableIn (off := 884) (tgt := 917) hx hb dL_33 (by omega) (by omega) (by rw [h]; rfl) (by decide) (law_c25 hL C0 hK hN h6 hJ hP hD hS hl hc next)
        · exact lv_tableIn (off := 937) (tgt := 970) hx hb dL_33 (by omega) (by omega) (by rw [h]; rfl) (by decide) (law_c26 hL C0 hK hN h6 hJ hP hD hS hl hc next)
    · exact out i H locs ls hi h6 hS hl
end
