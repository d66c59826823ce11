/-! the class's calls: stones, lays, cranks -/
/-- what the calls over the game may change: the table, the two trials, the orders -/
def zFg (t t' : zMI) : Prop := ∀ k, ¬ (1 ≤ k ∧ k < 10) → ¬ (19 ≤ k ∧ k < 37) → ¬ (48 ≤ k ∧ k < 50) → t' k = t k
theorem zFg.rf {t : zMI} : zFg t t := fun _ _ _ _ => rfl
theorem zFg.fr {t t' : zMI} (h : zFr 1 t t') : zFg t t' := fun k h1 _ _ => h k (by omega)
theorem zFg.up {t : zMI} {b n : Nat} {v : Int} (hb : 1 ≤ b ∧ b < 10) : zFg t (zup t b n v) := fun k h1 _ _ => zup_o (by omega)
theorem zT1 : zTa 1 := Or.inl rfl
section
variable {d : Nat} {t : zMI} {g : zG} {K : Int → zMI → Prop} {Kv : zMI → Prop}
theorem s_stone {kd a b : Int} (h : zTB 1 t g) (hw : gWF g) (r1 : -2147483648 ≤ kd ∧ kd < 2147483648) (r2 : -2147483648 ≤ a ∧ a < 2147483648) (r3 : -2147483648 ≤ b ∧ b < 2147483648) (k : ∀ t', zTB 1 t' (oStone g kd a b).2 → zFg t t' → K (oStone g kd a b).1 t') : ZX (d + 3) 66 0 [(0, .ref 0), (1, .int (zi kd)), (2, .int (zi a)), (3, .int (zi b))] [] t (zKi K) := by
  have hT := zT1
  have hn := hw.n
  have bad : ¬ ((0 ≤ kd ∧ kd ≤ 3) ∧ (3 ≤ a ∧ a ≤ 9) ∧ (3 ≤ b ∧ b ≤ 9)) → K (-1) t := fun q => by
    have k1 := k t
    unfold oStone at k1
    rw [if_neg q] at k1
    exact k1 h zFg.rf
  refine z_iload_n zi_66_0 rfl ?_
  refine z_iconst zi_66_1 ?_
  refine z_iconst zi_66_2 ?_
  refine z_cs3i zi_66_3 rfl rfl rfl ⟨by decide, rfl, Nat.le_of_ble_eq_true rfl, Nat.le_of_ble_eq_true rfl⟩ (s_within r1 (by omega) (by omega) (fun q1 => ?_) (fun q1 => ?_))
  · refine z_if_eq_f zi_66_4 (by omega) (by omega) ?_
    refine z_iload_n zi_66_5 rfl ?_
    refine z_cs1i zi_66_6 rfl ⟨by decide, rfl, Nat.le_of_ble_eq_true rfl, Nat.le_of_ble_eq_true rfl⟩ (s_isTeeth r2 (fun q2 => ?_) (fun q2 => ?_))
    · refine z_if_eq_f zi_66_7 (by omega) (by omega) ?_
      refine z_iload_n zi_66_8 rfl ?_
      refine z_cs1i zi_66_9 rfl ⟨by decide, rfl, Nat.le_of_ble_eq_true rfl, Nat.le_of_ble_eq_true rfl⟩ (s_isTeeth r3 (fun q3 => ?_) (fun q3 => ?_))
      · refine z_if_ne_t zi_66_10 (by omega) (by omega) ?_
        unfold oStone at k
        rw [if_pos ⟨q1, q2, q3⟩] at k
        refine z_aload_n zi_66_13 rfl ?_
        refine z_getfield zi_66_14 rfl ?_
        refine z_cv0i zi_66_15  (zt_c hT) ⟨rfl, Nat.le_of_ble_eq_true rfl, Nat.le_of_ble_eq_true rfl⟩ (s_isFull hT h hw (fun q => ?_) (fun q => ?_))
        · rw [if_pos q] at k
          refine z_if_eq_f zi_66_16 (by omega) (by omega) ?_
          refine z_bipush zi_66_17 (by decide) ?_
          refine z_goto zi_66_18 ?_
          refine z_ireturn zi_66_25 rfl (k t h zFg.rf)
        · rw [if_neg (by omega)] at k
          refine z_if_eq_t zi_66_16 (by omega) (by omega) ?_
          refine z_aload_n zi_66_19 rfl ?_
          refine z_getfield zi_66_20 rfl ?_
          refine z_iload_n zi_66_21 rfl ?_
          refine z_iload_n zi_66_22 rfl ?_
          refine z_iload_n zi_66_23 rfl ?_
          refine z_cv3i zi_66_24 rfl rfl rfl (zt_c hT) ⟨rfl, Nat.le_of_ble_eq_true rfl, Nat.le_of_ble_eq_true rfl⟩ (s_addStone hT h hw q (fun t1 h1 f1 => ?_))
          refine z_ireturn zi_66_25 rfl (k t1 h1 (zFg.fr f1))
      · refine z_if_ne_f zi_66_10 (by omega) (by omega) ?_
        refine z_iconst zi_66_11 ?_
        refine z_ireturn zi_66_12 rfl (bad (fun z => q3 z.2.2))
    · refine z_if_eq_t zi_66_7 (by omega) (by omega) ?_
      refine z_iconst zi_66_11 ?_
      refine z_ireturn zi_66_12 rfl (bad (fun z => q2 z.2.1))
  · refine z_if_eq_t zi_66_4 (by omega) (by omega) ?_
    refine z_iconst zi_66_11 ?_
    refine z_ireturn zi_66_12 rfl (bad (fun z => q1 z.1))
theorem s_mark {s w v : Int} (h : zTB 1 t g) (hw : gWF g) (r1 : -2147483648 ≤ s ∧ s < 2147483648) (r2 : -2147483648 ≤ w ∧ w < 2147483648) (r3 : -2147483648 ≤ v ∧ v < 2147483648) (k : ∀ t', zTB 1 t' (oMark g s w v).2 → zFg t t' → K (oMark g s w v).1 t') : ZX (d + 3) 67 0 [(0, .ref 0), (1, .int (zi s)), (2, .int (zi w)), (3, .int (zi v))] [] t (zKi K) := by
  have hT := zT1
  have hn := hw.n
  have bad : ¬ ((0 ≤ s ∧ s < gN g) ∧ (0 ≤ w ∧ w ≤ 1) ∧ (0 ≤ v ∧ v ≤ gT g s.toNat w.toNat - 1)) → K (-1) t := fun q => by
    have k1 := k t
    unfold oMark at k1
    rw [if_neg q] at k1
    exact k1 h zFg.rf
  refine z_aload_n zi_67_0 rfl ?_
  refine z_getfield zi_67_1 rfl ?_
  refine z_iload_n zi_67_2 rfl ?_
  refine z_cv1i zi_67_3 rfl (zt_c hT) ⟨rfl, Nat.le_of_ble_eq_true rfl, Nat.le_of_ble_eq_true rfl⟩ (s_hasStone hT h hw r1 (fun q1 => ?_) (fun q1 => ?_))
  · refine z_if_eq_f zi_67_4 (by omega) (by omega) ?_
    refine z_iload_n zi_67_5 rfl ?_
    refine z_cs1i zi_67_6 rfl ⟨by decide, rfl, Nat.le_of_ble_eq_true rfl, Nat.le_of_ble_eq_true rfl⟩ (s_isWheel r2 (fun q2 => ?_) (fun q2 => ?_))
    · have ht := hw.t (s := s.toNat) (w := w.toNat) (by omega) (by omega)
      refine z_if_eq_f zi_67_7 (by omega) (by omega) ?_
      refine z_iload_n zi_67_8 rfl ?_
      refine z_iconst zi_67_9 ?_
      refine z_aload_n zi_67_10 rfl ?_
      refine z_getfield zi_67_11 rfl ?_
      refine z_iload_n zi_67_12 rfl ?_
      refine z_iload_n zi_67_13 rfl ?_
      refine z_cv2i zi_67_14 rfl rfl (zt_c hT) ⟨rfl, Nat.le_of_ble_eq_true rfl, Nat.le_of_ble_eq_true rfl⟩ (s_teethOf (s := s.toNat) (w := w.toNat) hT h hw (by omega) (by omega) (by omega) (by omega) ?_)
      refine z_iconst zi_67_15 ?_
      refine z_isub zi_67_16 ?_
      refine z_cs3i zi_67_17 rfl rfl rfl ⟨by decide, rfl, Nat.le_of_ble_eq_true rfl, Nat.le_of_ble_eq_true rfl⟩ (s_within r3 (by omega) (by omega) (fun q3 => ?_) (fun q3 => ?_))
      · unfold oMark at k
        rw [if_pos ⟨q1, q2, q3⟩] at k
        refine z_if_ne_t zi_67_18 (by omega) (by omega) ?_
        refine z_aload_n zi_67_21 rfl ?_
        refine z_getfield zi_67_22 rfl ?_
        refine z_iload_n zi_67_23 rfl ?_
        refine z_iload_n zi_67_24 rfl ?_
        refine z_cv2i zi_67_25 rfl rfl (zt_c hT) ⟨rfl, Nat.le_of_ble_eq_true rfl, Nat.le_of_ble_eq_true rfl⟩ (s_markOf (s := s.toNat) (w := w.toNat) hT h hw (by omega) (by omega) (by omega) (by omega) ?_)
        refine z_istore zi_67_26 rfl ?_
        refine z_aload_n zi_67_27 rfl ?_
        refine z_getfield zi_67_28 rfl ?_
        refine z_iload_n zi_67_29 rfl ?_
        refine z_iload_n zi_67_30 rfl ?_
        refine z_iload_n zi_67_31 rfl ?_
        refine z_cv3v zi_67_32 rfl rfl rfl (zt_c hT) ⟨rfl, Nat.le_of_ble_eq_true rfl, Nat.le_of_ble_eq_true rfl⟩ (s_setMark (s := s.toNat) (w := w.toNat) hT (by omega) (by omega) (by omega) (by omega) ?_)
        refine z_iload zi_67_33 rfl ?_
        refine z_ireturn zi_67_34 rfl (k _ (zTB_M h (by omega) _) (zFg.up (by omega)))
      · refine z_if_ne_f zi_67_18 (by omega) (by omega) ?_
        refine z_iconst zi_67_19 ?_
        refine z_ireturn zi_67_20 rfl (bad (fun z => q3 z.2.2))
    · refine z_if_eq_t zi_67_7 (by omega) (by omega) ?_
      refine z_iconst zi_67_19 ?_
      refine z_ireturn zi_67_20 rfl (bad (fun z => q2 z.2.1))
  · refine z_if_eq_t zi_67_4 (by omega) (by omega) ?_
    refine z_iconst zi_67_19 ?_
    refine z_ireturn zi_67_20 rfl (bad (fun z => q1 z.1))
theorem s_told {s w : Int} (h : zTB 1 t g) (hw : gWF g) (r1 : -2147483648 ≤ s ∧ s < 2147483648) (r2 : -2147483648 ≤ w ∧ w < 2147483648) (k : K (oTold g s w) t) : ZX (d + 3) 68 0 [(0, .ref 0), (1, .int (zi s)), (2, .int (zi w))] [] t (zKi K) := by
  have hT := zT1
  have hn := hw.n
  unfold oTold at k
  refine z_aload_n zi_68_0 rfl ?_
  refine z_getfield zi_68_1 rfl ?_
  refine z_iload_n zi_68_2 rfl ?_
  refine z_cv1i zi_68_3 rfl (zt_c hT) ⟨rfl, Nat.le_of_ble_eq_true rfl, Nat.le_of_ble_eq_true rfl⟩ (s_hasStone hT h hw r1 (fun q1 => ?_) (fun q1 => ?_))
  · refine z_if_ne_t zi_68_4 (by omega) (by omega) ?_
    refine z_iload_n zi_68_7 rfl ?_
    by_cases q2 : 0 ≤ w ∧ w ≤ 7
    · rw [if_pos ⟨q1, q2⟩] at k
      obtain ⟨n, rfl⟩ : ∃ n : Nat, w = n := ⟨w.toNat, by omega⟩
      rcases (by omega : n = 0 ∨ n = 1 ∨ n = 2 ∨ n = 3 ∨ n = 4 ∨ n = 5 ∨ n = 6 ∨ n = 7) with rfl | rfl | rfl | rfl | rfl | rfl | rfl | rfl
      · refine z_tabIn zi_68_8 r2 (by omega) rfl ?_
        refine z_aload_n zi_68_9 rfl ?_
        refine z_getfield zi_68_10 rfl ?_
        refine z_iload_n zi_68_11 rfl ?_
        refine z_cv1i zi_68_12 rfl (zt_c hT) ⟨rfl, Nat.le_of_ble_eq_true rfl, Nat.le_of_ble_eq_true rfl⟩ (s_kindOf (s := s.toNat) hT h hw (by omega) (by omega) ?_)
        refine z_ireturn zi_68_13 rfl k
      · refine z_tabIn zi_68_8 r2 (by omega) rfl ?_
        refine z_aload_n zi_68_14 rfl ?_
        refine z_getfield zi_68_15 rfl ?_
        refine z_iload_n zi_68_16 rfl ?_
        refine z_iload_n zi_68_17 rfl ?_
        refine z_iconst zi_68_18 ?_
        refine z_isub zi_68_19 ?_
        refine z_cv2i zi_68_20 rfl rfl (zt_c hT) ⟨rfl, Nat.le_of_ble_eq_true rfl, Nat.le_of_ble_eq_true rfl⟩ (s_teethOf (s := s.toNat) (w := 0) hT h hw (by omega) (by omega) rfl (by omega) ?_)
        refine z_ireturn zi_68_21 rfl k
      · refine z_tabIn zi_68_8 r2 (by omega) rfl ?_
        refine z_aload_n zi_68_14 rfl ?_
        refine z_getfield zi_68_15 rfl ?_
        refine z_iload_n zi_68_16 rfl ?_
        refine z_iload_n zi_68_17 rfl ?_
        refine z_iconst zi_68_18 ?_
        refine z_isub zi_68_19 ?_
        refine z_cv2i zi_68_20 rfl rfl (zt_c hT) ⟨rfl, Nat.le_of_ble_eq_true rfl, Nat.le_of_ble_eq_true rfl⟩ (s_teethOf (s := s.toNat) (w := 1) hT h hw (by omega) (by omega) rfl (by omega) ?_)
        refine z_ireturn zi_68_21 rfl k
      · refine z_tabIn zi_68_8 r2 (by omega) rfl ?_
        refine z_aload_n zi_68_22 rfl ?_
        refine z_getfield zi_68_23 rfl ?_
        refine z_iload_n zi_68_24 rfl ?_
        refine z_iload_n zi_68_25 rfl ?_
        refine z_iconst zi_68_26 ?_
        refine z_isub zi_68_27 ?_
        refine z_cv2i zi_68_28 rfl rfl (zt_c hT) ⟨rfl, Nat.le_of_ble_eq_true rfl, Nat.le_of_ble_eq_true rfl⟩ (s_markOf (s := s.toNat) (w := 0) hT h hw (by omega) (by omega) rfl (by omega) ?_)
        refine z_ireturn zi_68_29 rfl k
      · refine z_tabIn zi_68_8 r2 (by omega) rfl ?_
        refine z_aload_n zi_68_22 rfl ?_
        refine z_getfield zi_68_23 rfl ?_
        refine z_iload_n zi_68_24 rfl ?_
        refine z_iload_n zi_68_25 rfl ?_
        refine z_iconst zi_68_26 ?_
        refine z_isub zi_68_27 ?_
        refine z_cv2i zi_68_28 rfl rfl (zt_c hT) ⟨rfl, Nat.le_of_ble_eq_true rfl, Nat.le_of_ble_eq_true rfl⟩ (s_markOf (s := s.toNat) (w := 1) hT h hw (by omega) (by omega) rfl (by omega) ?_)
        refine z_ireturn zi_68_29 rfl k
      · refine z_tabIn zi_68_8 r2 (by omega) rfl ?_
        refine z_aload_n zi_68_30 rfl ?_
        refine z_getfield zi_68_31 rfl ?_
        refine z_iload_n zi_68_32 rfl ?_
        refine z_cv1i zi_68_33 rfl (zt_c hT) ⟨rfl, Nat.le_of_ble_eq_true rfl, Nat.le_of_ble_eq_true rfl⟩ (s_placeOf (s := s.toNat) hT h hw (by omega) (by omega) ?_)
        refine z_ireturn zi_68_34 rfl k
      · refine z_tabIn zi_68_8 r2 (by omega) rfl ?_
        refine z_aload_n zi_68_35 rfl ?_
        refine z_getfield zi_68_36 rfl ?_
        refine z_iload_n zi_68_37 rfl ?_
        refine z_cv1i zi_68_38 rfl (zt_c hT) ⟨rfl, Nat.le_of_ble_eq_true rfl, Nat.le_of_ble_eq_true rfl⟩ (s_frontOf (s := s.toNat) hT h hw (by omega) (by omega) ?_)
        refine z_ireturn zi_68_39 rfl k
      · refine z_tabIn zi_68_8 r2 (by omega) rfl ?_
        refine z_aload_n zi_68_40 rfl ?_
        refine z_getfield zi_68_41 rfl ?_
        refine z_iload_n zi_68_42 rfl ?_
        refine z_cv1i zi_68_43 rfl (zt_c hT) ⟨rfl, Nat.le_of_ble_eq_true rfl, Nat.le_of_ble_eq_true rfl⟩ (s_handOf (s := s.toNat) hT h hw (by omega) (by omega) ?_)
        refine z_ireturn zi_68_44 rfl k
    · rw [if_neg (fun z => q2 z.2)] at k
      refine z_tabOut zi_68_8 r2 (by omega) rfl ?_
      refine z_iconst zi_68_45 ?_
      refine z_ireturn zi_68_46 rfl k
  · rw [if_neg (fun z => q1 z.1)] at k
    refine z_if_ne_f zi_68_4 (by omega) (by omega) ?_
    refine z_iconst zi_68_5 ?_
    refine z_ireturn zi_68_6 rfl k
theorem s_deal {s a : Int} (h : zTB 1 t g) (hw : gWF g) (r1 : -2147483648 ≤ s ∧ s < 2147483648) (r2 : -2147483648 ≤ a ∧ a < 2147483648) (k : ∀ t', zTB 1 t' (oDeal g s a).2 → zFg t t' → K (oDeal g s a).1 t') : ZX (d + 3) 69 0 [(0, .ref 0), (1, .int (zi s)), (2, .int (zi a))] [] t (zKi K) := by
  have hT := zT1
  have hn := hw.n
  unfold oDeal at k
  refine z_aload_n zi_69_0 rfl ?_
  refine z_getfield zi_69_1 rfl ?_
  refine z_iload_n zi_69_2 rfl ?_
  refine z_cv1i zi_69_3 rfl (zt_c hT) ⟨rfl, Nat.le_of_ble_eq_true rfl, Nat.le_of_ble_eq_true rfl⟩ (s_hasStone hT h hw r1 (fun q1 => ?_) (fun q1 => ?_))
  · refine z_if_eq_f zi_69_4 (by omega) (by omega) ?_
    refine z_iload_n zi_69_5 rfl ?_
    refine z_iconst zi_69_6 ?_
    refine z_iconst zi_69_7 ?_
    refine z_cs3i zi_69_8 rfl rfl rfl ⟨by decide, rfl, Nat.le_of_ble_eq_true rfl, Nat.le_of_ble_eq_true rfl⟩ (s_within r2 (by omega) (by omega) (fun q2 => ?_) (fun q2 => ?_))
    · rw [if_pos ⟨q1, q2⟩] at k
      refine z_if_ne_t zi_69_9 (by omega) (by omega) ?_
      refine z_aload_n zi_69_12 rfl ?_
      refine z_getfield zi_69_13 rfl ?_
      refine z_iload_n zi_69_14 rfl ?_
      refine z_cv1i zi_69_15 rfl (zt_c hT) ⟨rfl, Nat.le_of_ble_eq_true rfl, Nat.le_of_ble_eq_true rfl⟩ (s_isLaid (s := s.toNat) hT h hw (by omega) (by omega) (fun p q => ?_) (fun q => ?_))
      · have e : gPi g s.toNat = p := by unfold gPi; rw [q]
        rw [if_pos (by omega)] at k
        refine z_if_eq_f zi_69_16 (by omega) (by omega) ?_
        refine z_bipush zi_69_17 (by decide) ?_
        refine z_ireturn zi_69_18 rfl (k t h zFg.rf)
      · have e : gPi g s.toNat = -4 := by unfold gPi; rw [q]
        rw [if_neg (by omega)] at k
        refine z_if_eq_t zi_69_16 (by omega) (by omega) ?_
        refine z_aload_n zi_69_19 rfl ?_
        refine z_getfield zi_69_20 rfl ?_
        refine z_iload_n zi_69_21 rfl ?_
        refine z_cv1i zi_69_22 rfl (zt_c hT) ⟨rfl, Nat.le_of_ble_eq_true rfl, Nat.le_of_ble_eq_true rfl⟩ (s_handOf (s := s.toNat) hT h hw (by omega) (by omega) ?_)
        refine z_istore_n zi_69_23 rfl ?_
        refine z_aload_n zi_69_24 rfl ?_
        refine z_getfield zi_69_25 rfl ?_
        refine z_iload_n zi_69_26 rfl ?_
        refine z_iload_n zi_69_27 rfl ?_
        refine z_if_ge zi_69_28 (by omega) (fun c => ?_) (fun c => ?_)
        · rw [if_neg (by omega)] at k
          refine z_iload_n zi_69_31 rfl ?_
          refine z_cv2v zi_69_32 rfl rfl (zt_c hT) ⟨rfl, Nat.le_of_ble_eq_true rfl, Nat.le_of_ble_eq_true rfl⟩ (s_setHand (s := s.toNat) hT (by omega) (by omega) ?_)
          refine z_iload_n zi_69_33 rfl ?_
          refine z_ireturn zi_69_34 rfl (k _ (zTB_H h _ _) (zFg.up (by omega)))
        · rw [if_pos (by omega)] at k
          refine z_bipush zi_69_29 (by decide) ?_
          refine z_goto zi_69_30 ?_
          refine z_cv2v zi_69_32 rfl rfl (zt_c hT) ⟨rfl, Nat.le_of_ble_eq_true rfl, Nat.le_of_ble_eq_true rfl⟩ (s_setHand (s := s.toNat) hT (by omega) (by omega) ?_)
          refine z_iload_n zi_69_33 rfl ?_
          refine z_ireturn zi_69_34 rfl (k _ (zTB_H h _ _) (zFg.up (by omega)))
    · rw [if_neg (fun z => q2 z.2)] at k
      refine z_if_ne_f zi_69_9 (by omega) (by omega) ?_
      refine z_iconst zi_69_10 ?_
      refine z_ireturn zi_69_11 rfl (k t h zFg.rf)
  · rw [if_neg (fun z => q1 z.1)] at k
    refine z_if_eq_t zi_69_4 (by omega) (by omega) ?_
    refine z_iconst zi_69_10 ?_
    refine z_ireturn zi_69_11 rfl (k t h zFg.rf)
theorem s_count {w : Int} (h : zTB 1 t g) (hw : gWF g) (r2 : -2147483648 ≤ w ∧ w < 2147483648) (k : K (oCount g w) t) : ZX (d + 3) 72 0 [(0, .ref 0), (1, .int (zi w))] [] t (zKi K) := by
  have hT := zT1
  have hn := hw.n
  have ho := hw.o
  unfold oCount at k
  refine z_iload_n zi_72_0 rfl ?_
  by_cases q2 : 0 ≤ w ∧ w ≤ 7
  · rw [if_pos q2] at k
    obtain ⟨n, rfl⟩ : ∃ n : Nat, w = n := ⟨w.toNat, by omega⟩
    rcases (by omega : n = 0 ∨ n = 1 ∨ n = 2 ∨ n = 3 ∨ n = 4 ∨ n = 5 ∨ n = 6 ∨ n = 7) with rfl | rfl | rfl | rfl | rfl | rfl | rfl | rfl
    · refine z_tabIn zi_72_1 r2 (by omega) rfl ?_
      refine z_aload_n zi_72_2 rfl ?_
      refine z_getfield zi_72_3 rfl ?_
      refine z_cv0i zi_72_4  (zt_c hT) ⟨rfl, Nat.le_of_ble_eq_true rfl, Nat.le_of_ble_eq_true rfl⟩ (s_stoneCount hT h ?_)
      refine z_ireturn zi_72_5 rfl k
    · refine z_tabIn zi_72_1 r2 (by omega) rfl ?_
      refine z_aload_n zi_72_6 rfl ?_
      refine z_getfield zi_72_7 rfl ?_
      refine z_cv0i zi_72_8  (zt_c hT) ⟨rfl, Nat.le_of_ble_eq_true rfl, Nat.le_of_ble_eq_true rfl⟩ (s_trainLength hT h ?_)
      refine z_ireturn zi_72_9 rfl k
    · refine z_tabIn zi_72_1 r2 (by omega) rfl ?_
      refine z_aload_n zi_72_10 rfl ?_
      refine z_getfield zi_72_11 rfl ?_
      refine z_iload_n zi_72_12 rfl ?_
      refine z_iconst zi_72_13 ?_
      refine z_isub zi_72_14 ?_
      refine z_cv1i zi_72_15 rfl (zt_c hT) ⟨rfl, Nat.le_of_ble_eq_true rfl, Nat.le_of_ble_eq_true rfl⟩ (s_handSize hT h hw (by omega) ?_)
      refine z_ireturn zi_72_16 rfl k
    · refine z_tabIn zi_72_1 r2 (by omega) rfl ?_
      refine z_aload_n zi_72_10 rfl ?_
      refine z_getfield zi_72_11 rfl ?_
      refine z_iload_n zi_72_12 rfl ?_
      refine z_iconst zi_72_13 ?_
      refine z_isub zi_72_14 ?_
      refine z_cv1i zi_72_15 rfl (zt_c hT) ⟨rfl, Nat.le_of_ble_eq_true rfl, Nat.le_of_ble_eq_true rfl⟩ (s_handSize hT h hw (by omega) ?_)
      refine z_ireturn zi_72_16 rfl k
    · refine z_tabIn zi_72_1 r2 (by omega) rfl ?_
      refine z_aload_n zi_72_17 rfl ?_
      refine z_getfield zi_72_18 rfl ?_
      refine z_iload_n zi_72_19 rfl ?_
      refine z_iconst zi_72_20 ?_
      refine z_isub zi_72_21 ?_
      refine z_cv1i zi_72_22 rfl (zt_c hT) ⟨rfl, Nat.le_of_ble_eq_true rfl, Nat.le_of_ble_eq_true rfl⟩ (s_scoreOf (s := 0) hT h rfl (by omega) ?_)
      refine z_ireturn zi_72_23 rfl k
    · refine z_tabIn zi_72_1 r2 (by omega) rfl ?_
      refine z_aload_n zi_72_17 rfl ?_
      refine z_getfield zi_72_18 rfl ?_
      refine z_iload_n zi_72_19 rfl ?_
      refine z_iconst zi_72_20 ?_
      refine z_isub zi_72_21 ?_
      refine z_cv1i zi_72_22 rfl (zt_c hT) ⟨rfl, Nat.le_of_ble_eq_true rfl, Nat.le_of_ble_eq_true rfl⟩ (s_scoreOf (s := 1) hT h rfl (by omega) ?_)
      refine z_ireturn zi_72_23 rfl k
    · refine z_tabIn zi_72_1 r2 (by omega) rfl ?_
      refine z_aload_n zi_72_24 rfl ?_
      refine z_getfield zi_72_25 rfl ?_
      refine z_cv0i zi_72_26  (zt_c hT) ⟨rfl, Nat.le_of_ble_eq_true rfl, Nat.le_of_ble_eq_true rfl⟩ (s_upMarks hT h hw ?_)
      refine z_ireturn zi_72_27 rfl k
    · refine z_tabIn zi_72_1 r2 (by omega) rfl ?_
      refine z_aload_n zi_72_28 rfl ?_
      refine z_getfield zi_72_29 rfl ?_
      refine z_cv0i zi_72_30  (zt_c hT) ⟨rfl, Nat.le_of_ble_eq_true rfl, Nat.le_of_ble_eq_true rfl⟩ (s_isRing hT h hw ?_)
      have k' : K (gO g) t := k
      refine z_if_eq zi_72_31 (by omega) (fun c => ?_) (fun c => ?_)
      · refine z_iconst zi_72_34 ?_
        rw [c] at k'
        refine z_ireturn zi_72_35 rfl k'
      · refine z_iconst zi_72_32 ?_
        refine z_goto zi_72_33 ?_
        rw [show gO g = 1 by omega] at k'
        refine z_ireturn zi_72_35 rfl k'
  · rw [if_neg q2] at k
    refine z_tabOut zi_72_1 r2 (by omega) rfl ?_
    refine z_iconst zi_72_36 ?_
    refine z_ireturn zi_72_37 rfl k
theorem s_may {s f : Int} (h : zTB 1 t g) (hw : gWF g) (r1 : -2147483648 ≤ s ∧ s < 2147483648) (r2 : -2147483648 ≤ f ∧ f < 2147483648) (k : K (oMay g s f) t) : ZX (d + 3) 73 0 [(0, .ref 0), (1, .int (zi s)), (2, .int (zi f))] [] t (zKi K) := by
  have hT := zT1
  have hn := hw.n
  have ho := hw.o
  unfold oMay at k
  refine z_aload_n zi_73_0 rfl ?_
  refine z_getfield zi_73_1 rfl ?_
  refine z_iload_n zi_73_2 rfl ?_
  refine z_cv1i zi_73_3 rfl (zt_c hT) ⟨rfl, Nat.le_of_ble_eq_true rfl, Nat.le_of_ble_eq_true rfl⟩ (s_hasStone hT h hw r1 (fun q1 => ?_) (fun q1 => ?_))
  · refine z_if_eq_f zi_73_4 (by omega) (by omega) ?_
    refine z_iload_n zi_73_5 rfl ?_
    refine z_cs1i zi_73_6 rfl ⟨by decide, rfl, Nat.le_of_ble_eq_true rfl, Nat.le_of_ble_eq_true rfl⟩ (s_isWheel r2 (fun q2 => ?_) (fun q2 => ?_))
    · rw [if_pos ⟨q1, q2⟩] at k
      refine z_if_ne_t zi_73_7 (by omega) (by omega) ?_
      refine z_aload_n zi_73_10 rfl ?_
      refine z_getfield zi_73_11 rfl ?_
      refine z_iload_n zi_73_12 rfl ?_
      refine z_cv1i zi_73_13 rfl (zt_c hT) ⟨rfl, Nat.le_of_ble_eq_true rfl, Nat.le_of_ble_eq_true rfl⟩ (s_isLaid (s := s.toNat) hT h hw (by omega) (by omega) (fun p q => ?_) (fun q => ?_))
      · have e : gPi g s.toNat = p := by unfold gPi; rw [q]
        rw [if_pos (Or.inl (by omega))] at k
        refine z_if_ne_t zi_73_14 (by omega) (by omega) ?_
        refine z_bipush zi_73_19 (by decide) ?_
        refine z_ireturn zi_73_20 rfl k
      · have e : gPi g s.toNat = -4 := by unfold gPi; rw [q]
        refine z_if_ne_f zi_73_14 (by omega) (by omega) ?_
        refine z_aload_n zi_73_15 rfl ?_
        refine z_getfield zi_73_16 rfl ?_
        refine z_cv0i zi_73_17  (zt_c hT) ⟨rfl, Nat.le_of_ble_eq_true rfl, Nat.le_of_ble_eq_true rfl⟩ (s_isRing hT h hw ?_)
        refine z_if_eq zi_73_18 (by omega) (fun c => ?_) (fun c => ?_)
        · rw [if_neg (by omega)] at k
          refine z_aload_n zi_73_21 rfl ?_
          refine z_getfield zi_73_22 rfl ?_
          refine z_iload_n zi_73_23 rfl ?_
          refine z_iload_n zi_73_24 rfl ?_
          refine z_cv2i zi_73_25 rfl rfl (zt_c hT) ⟨rfl, Nat.le_of_ble_eq_true rfl, Nat.le_of_ble_eq_true rfl⟩ (s_fits (s := s.toNat) (f := f.toNat) hT h hw (by omega) (by omega) (by omega) (by omega) (fun z => ?_) (fun z => ?_))
          · rw [if_pos z] at k
            refine z_if_eq_f zi_73_26 (by omega) (by omega) ?_
            refine z_iconst zi_73_27 ?_
            refine z_goto zi_73_28 ?_
            refine z_ireturn zi_73_30 rfl k
          · rw [if_neg z] at k
            refine z_if_eq_t zi_73_26 (by omega) (by omega) ?_
            refine z_iconst zi_73_29 ?_
            refine z_ireturn zi_73_30 rfl k
        · rw [if_pos (Or.inr (by omega))] at k
          refine z_bipush zi_73_19 (by decide) ?_
          refine z_ireturn zi_73_20 rfl k
    · rw [if_neg (fun z => q2 z.2)] at k
      refine z_if_ne_f zi_73_7 (by omega) (by omega) ?_
      refine z_iconst zi_73_8 ?_
      refine z_ireturn zi_73_9 rfl k
  · rw [if_neg (fun z => q1 z.1)] at k
    refine z_if_eq_t zi_73_4 (by omega) (by omega) ?_
    refine z_iconst zi_73_8 ?_
    refine z_ireturn zi_73_9 rfl k
theorem oMay_rng (g : zG) (s f : Int) : oMay g s f = -1 ∨ oMay g s f = -2 ∨ oMay g s f = 0 ∨ oMay g s f = 1 := by
  unfold oMay
  split
  · split
    · omega
    · split <;> omega
  · omega
theorem s_lay {s f : Int} (h : zTB 1 t g) (hw : gWF g) (r1 : -2147483648 ≤ s ∧ s < 2147483648) (r2 : -2147483648 ≤ f ∧ f < 2147483648) (k : ∀ t', zTB 1 t' (oLay g s f).2 → zFg t t' → K (oLay g s f).1 t') : ZX (d + 5) 74 0 [(0, .ref 0), (1, .int (zi s)), (2, .int (zi f))] [] t (zKi K) := by
  have hT := zT1
  have hm := oMay_rng g s f
  have ho := hw.o
  unfold oLay at k
  refine z_aload_n zi_74_0 rfl ?_
  refine z_iload_n zi_74_1 rfl ?_
  refine z_iload_n zi_74_2 rfl ?_
  refine z_cv2i zi_74_3 rfl rfl rfl ⟨rfl, Nat.le_of_ble_eq_true rfl, Nat.le_of_ble_eq_true rfl⟩ (s_may h hw r1 r2 ?_)
  refine z_istore_n zi_74_4 rfl ?_
  refine z_iload_n zi_74_5 rfl ?_
  refine z_if_ge zi_74_6 (by omega) (fun c => ?_) (fun c => ?_)
  · refine z_iload_n zi_74_9 rfl ?_
    refine z_if_ne zi_74_10 (by omega) (fun c2 => ?_) (fun c2 => ?_)
    · have e : oMay g s f = 1 := by omega
      obtain ⟨c1, c2, c3, c4, c5⟩ := oMay_1 e
      rw [if_pos e] at k
      refine z_aload_n zi_74_13 rfl ?_
      refine z_getfield zi_74_14 rfl ?_
      refine z_iload_n zi_74_15 rfl ?_
      refine z_iload_n zi_74_16 rfl ?_
      refine z_cv2i zi_74_17 rfl rfl (zt_c hT) ⟨rfl, Nat.le_of_ble_eq_true rfl, Nat.le_of_ble_eq_true rfl⟩ (s_layDown (s := s.toNat) (f := f.toNat) hT h hw (by omega) (by omega) (by omega) (by omega) (gPi_none c3) (by omega) (fun t1 h1 f1 => ?_))
      refine z_ireturn zi_74_18 rfl (k t1 h1 (zFg.fr f1))
    · have e : oMay g s f = 0 := by omega
      rw [if_neg (by omega), if_pos e] at k
      refine z_bipush zi_74_11 (by decide) ?_
      refine z_goto zi_74_12 ?_
      refine z_ireturn zi_74_18 rfl (k t h zFg.rf)
  · rw [if_neg (by omega), if_neg (by omega)] at k
    refine z_iload_n zi_74_7 rfl ?_
    refine z_ireturn zi_74_8 rfl (k t h zFg.rf)
theorem s_take {a : Int} (h : zTB 1 t g) (hw : gWF g) (hh : gWH g) (r1 : -2147483648 ≤ a ∧ a < 2147483648) (k : ∀ t', zTB 1 t' (oTake g a).2 → zFg t t' → K (oTake g a).1 t') : ZX (d + 3) 75 0 [(0, .ref 0), (1, .int (zi a))] [] t (zKi K) := by
  have hT := zT1
  have hn := hw.n
  unfold oTake at k
  refine z_iload_n zi_75_0 rfl ?_
  refine z_iconst zi_75_1 ?_
  refine z_bipush zi_75_2 (by decide) ?_
  refine z_cs3i zi_75_3 rfl rfl rfl ⟨by decide, rfl, Nat.le_of_ble_eq_true rfl, Nat.le_of_ble_eq_true rfl⟩ (s_within r1 (by omega) (by omega) (fun q1 => ?_) (fun q1 => ?_))
  · rw [if_pos q1] at k
    refine z_if_ne_t zi_75_4 (by omega) (by omega) ?_
    refine z_iload_n zi_75_7 rfl ?_
    refine z_aload_n zi_75_8 rfl ?_
    refine z_getfield zi_75_9 rfl ?_
    refine z_cv0i zi_75_10  (zt_c hT) ⟨rfl, Nat.le_of_ble_eq_true rfl, Nat.le_of_ble_eq_true rfl⟩ (s_trainLength hT h ?_)
    refine z_icmp_le zi_75_11 (by omega) (fun c => ?_) (fun c => ?_)
    · rw [if_neg (by omega)] at k
      refine z_aload_n zi_75_14 rfl ?_
      refine z_getfield zi_75_15 rfl ?_
      refine z_iload_n zi_75_16 rfl ?_
      refine z_cv1v zi_75_17 rfl (zt_c hT) ⟨rfl, Nat.le_of_ble_eq_true rfl, Nat.le_of_ble_eq_true rfl⟩ (s_liftLast (n := a.toNat) hT h hw hh (by omega) (by omega) (fun t1 h1 f1 => ?_))
      refine z_aload_n zi_75_18 rfl ?_
      refine z_getfield zi_75_19 rfl ?_
      refine z_cv0i zi_75_20  (zt_c hT) ⟨rfl, Nat.le_of_ble_eq_true rfl, Nat.le_of_ble_eq_true rfl⟩ (s_trainLength hT h1 ?_)
      have e : ((gL (gtake g a.toNat) : Nat) : Int) = (gL g : Int) - a := by show ((gL g - a.toNat : Nat) : Int) = _; omega
      rw [e]
      refine z_ireturn zi_75_21 rfl (k t1 h1 (zFg.fr f1))
    · rw [if_pos (by omega)] at k
      refine z_bipush zi_75_12 (by decide) ?_
      refine z_ireturn zi_75_13 rfl (k t h zFg.rf)
  · rw [if_neg q1] at k
    refine z_if_ne_f zi_75_4 (by omega) (by omega) ?_
    refine z_iconst zi_75_5 ?_
    refine z_ireturn zi_75_6 rfl (k t h zFg.rf)
theorem s_shut {a : Int} (h : zTB 1 t g) (hw : gWF g) (r1 : a = 0 ∨ a = 1) (k : ∀ t', zTB 1 t' (oShut g a).2 → zFg t t' → K (oShut g a).1 t') : ZX (d + 3) 76 0 [(0, .ref 0), (1, .int (zi a))] [] t (zKi K) := by
  have hT := zT1
  have hn := hw.n
  have ho := hw.o
  unfold oShut at k
  have rest : ¬ (a = 1 ∧ ¬ gcan g) → ZX (d + 3) 76 8 [(0, .ref 0), (1, .int (zi a))] [] t (zKi K) := by
    intro q
    rw [if_neg q] at k
    refine z_aload_n zi_76_8 rfl ?_
    refine z_getfield zi_76_9 rfl ?_
    refine z_cv0i zi_76_10  (zt_c hT) ⟨rfl, Nat.le_of_ble_eq_true rfl, Nat.le_of_ble_eq_true rfl⟩ (s_isRing hT h hw ?_)
    have k' : K (gO g) (zup t 1 9 a) := k _ (zTB_O h a) (zFg.up (by omega))
    refine z_if_eq zi_76_11 (by omega) (fun c => ?_) (fun c => ?_)
    · refine z_iconst zi_76_14 ?_
      refine z_istore_n zi_76_15 rfl ?_
      refine z_aload_n zi_76_16 rfl ?_
      refine z_getfield zi_76_17 rfl ?_
      refine z_iload_n zi_76_18 rfl ?_
      refine z_cv1v zi_76_19 rfl (zt_c hT) ⟨rfl, Nat.le_of_ble_eq_true rfl, Nat.le_of_ble_eq_true rfl⟩ (s_setRing hT r1 ?_)
      refine z_iload_n zi_76_20 rfl ?_
      rw [c] at k'
      refine z_ireturn zi_76_21 rfl k'
    · refine z_iconst zi_76_12 ?_
      refine z_goto zi_76_13 ?_
      refine z_istore_n zi_76_15 rfl ?_
      refine z_aload_n zi_76_16 rfl ?_
      refine z_getfield zi_76_17 rfl ?_
      refine z_iload_n zi_76_18 rfl ?_
      refine z_cv1v zi_76_19 rfl (zt_c hT) ⟨rfl, Nat.le_of_ble_eq_true rfl, Nat.le_of_ble_eq_true rfl⟩ (s_setRing hT r1 ?_)
      refine z_iload_n zi_76_20 rfl ?_
      rw [show gO g = 1 by omega] at k'
      refine z_ireturn zi_76_21 rfl k'
  refine z_iload_n zi_76_0 rfl ?_
  refine z_if_eq zi_76_1 (by omega) (fun c => ?_) (fun c => ?_)
  · exact rest (by omega)
  · refine z_aload_n zi_76_2 rfl ?_
    refine z_getfield zi_76_3 rfl ?_
    refine z_cv0i zi_76_4  (zt_c hT) ⟨rfl, Nat.le_of_ble_eq_true rfl, Nat.le_of_ble_eq_true rfl⟩ (s_canBeRing hT h hw (fun q1 q2 => ?_) (fun q => ?_))
    · refine z_if_ne_t zi_76_5 (by omega) (by omega) ?_
      exact rest (fun z => z.2 ⟨q1, q2⟩)
    · rw [if_pos ⟨by omega, q⟩] at k
      refine z_if_ne_f zi_76_5 (by omega) (by omega) ?_
      refine z_bipush zi_76_6 (by decide) ?_
      refine z_ireturn zi_76_7 rfl (k t h zFg.rf)
theorem s_locked (h : zTB 1 t g) (hw : gWF g) (k : K (oLocked g) t) : ZX (d + 4) 77 0 [(0, .ref 0)] [] t (zKi K) := by
  have hT := zT1
  have hn := hw.n
  unfold oLocked at k
  refine z_aload_n zi_77_0 rfl ?_
  refine z_getfield zi_77_1 rfl ?_
  refine z_cv0i zi_77_2  (zt_c hT) ⟨rfl, Nat.le_of_ble_eq_true rfl, Nat.le_of_ble_eq_true rfl⟩ (s_trainLength hT h ?_)
  refine z_if_ne zi_77_3 (by omega) (fun c => ?_) (fun c => ?_)
  · rw [if_neg (by omega)] at k
    refine z_aload_n zi_77_6 rfl ?_
    refine z_getfield zi_77_7 rfl ?_
    refine z_aload_n zi_77_8 rfl ?_
    refine z_getfield zi_77_9 rfl ?_
    refine z_cv0i zi_77_10  (zt_c hT) ⟨rfl, Nat.le_of_ble_eq_true rfl, Nat.le_of_ble_eq_true rfl⟩ (s_lastBackWay hT h hw (by omega) ?_)
    refine z_cv1i zi_77_11 rfl (zt_c hT) ⟨rfl, Nat.le_of_ble_eq_true rfl, Nat.le_of_ble_eq_true rfl⟩ (s_lockOf hT h hw (gB_pm g _) ?_)
    refine z_ireturn zi_77_12 rfl k
  · rw [if_pos (by omega)] at k
    refine z_bipush zi_77_4 (by decide) ?_
    refine z_goto zi_77_5 ?_
    refine z_ireturn zi_77_12 rfl k
theorem s_crank {a : Int} (h : zTB 1 t g) (hw : gWF g) (r1 : -2147483648 ≤ a ∧ a < 2147483648) (k : ∀ t', zTB 1 t' (oCrank g a).2 → zFg t t' → K (oCrank g a).1 t') : ZX (d + 4) 78 0 [(0, .ref 0), (1, .int (zi a))] [] t (zKi K) := by
  have hT := zT1
  have hn := hw.n
  unfold oCrank at k
  have rest : (-99 ≤ a ∧ a ≤ 99) → (∀ t', zTB 1 t' (gturn g a) → zFg t t' → K (gup (gturn g a) (gL g)) t') → ZX (d + 4) 78 26 [(0, .ref 0), (1, .int (zi a))] [] t (zKi K) := by
    intro q k
    refine z_aload_n zi_78_26 rfl ?_
    refine z_getfield zi_78_27 rfl ?_
    refine z_iload_n zi_78_28 rfl ?_
    refine z_cv1v zi_78_29 rfl (zt_c hT) ⟨rfl, Nat.le_of_ble_eq_true rfl, Nat.le_of_ble_eq_true rfl⟩ (s_turnTrain hT h hw q (fun t1 h1 f1 => ?_))
    refine z_aload_n zi_78_30 rfl ?_
    refine z_getfield zi_78_31 rfl ?_
    refine z_cv0i zi_78_32  (zt_c hT) ⟨rfl, Nat.le_of_ble_eq_true rfl, Nat.le_of_ble_eq_true rfl⟩ (s_upMarks hT h1 (gturn_wf hw a) ?_)
    refine z_ireturn zi_78_33 rfl (k t1 h1 (zFg.fr f1))
  refine z_iload_n zi_78_0 rfl ?_
  refine z_bipush zi_78_1 (by decide) ?_
  refine z_bipush zi_78_2 (by decide) ?_
  refine z_cs3i zi_78_3 rfl rfl rfl ⟨by decide, rfl, Nat.le_of_ble_eq_true rfl, Nat.le_of_ble_eq_true rfl⟩ (s_within r1 (by omega) (by omega) (fun q1 => ?_) (fun q1 => ?_))
  · rw [if_pos q1] at k
    refine z_if_ne_t zi_78_4 (by omega) (by omega) ?_
    refine z_aload_n zi_78_7 rfl ?_
    refine z_getfield zi_78_8 rfl ?_
    refine z_cv0i zi_78_9  (zt_c hT) ⟨rfl, Nat.le_of_ble_eq_true rfl, Nat.le_of_ble_eq_true rfl⟩ (s_trainLength hT h ?_)
    refine z_if_ne zi_78_10 (by omega) (fun c => ?_) (fun c => ?_)
    · rw [if_neg (by omega)] at k
      refine z_iload_n zi_78_13 rfl ?_
      refine z_if_eq zi_78_14 (by omega) (fun c2 => ?_) (fun c2 => ?_)
      · rw [if_neg (fun z => z.1 c2)] at k
        exact rest q1 k
      · refine z_aload_n zi_78_15 rfl ?_
        refine z_getfield zi_78_16 rfl ?_
        refine z_iload_n zi_78_17 rfl ?_
        refine z_if_ge zi_78_18 (by omega) (fun c3 => ?_) (fun c3 => ?_)
        · refine z_iconst zi_78_21 ?_
          rw [if_neg (show ¬ a < 0 by omega)] at k
          have hl := gLk_rng hw 1
          refine z_cv1i zi_78_22 rfl (zt_c hT) ⟨rfl, Nat.le_of_ble_eq_true rfl, Nat.le_of_ble_eq_true rfl⟩ (s_lockOf hT h hw (Or.inl rfl) ?_)
          refine z_if_eq zi_78_23 (by omega) (fun c4 => ?_) (fun c4 => ?_)
          · rw [if_neg (fun z => z.2 c4)] at k
            exact rest q1 k
          · rw [if_pos ⟨c2, c4⟩] at k
            refine z_bipush zi_78_24 (by decide) ?_
            refine z_ireturn zi_78_25 rfl (k t h zFg.rf)
        · refine z_iconst zi_78_19 ?_
          refine z_goto zi_78_20 ?_
          rw [if_pos (show a < 0 by omega)] at k
          have hl := gLk_rng hw (-1)
          refine z_cv1i zi_78_22 rfl (zt_c hT) ⟨rfl, Nat.le_of_ble_eq_true rfl, Nat.le_of_ble_eq_true rfl⟩ (s_lockOf hT h hw (Or.inr rfl) ?_)
          refine z_if_eq zi_78_23 (by omega) (fun c4 => ?_) (fun c4 => ?_)
          · rw [if_neg (fun z => z.2 c4)] at k
            exact rest q1 k
          · rw [if_pos ⟨c2, c4⟩] at k
            refine z_bipush zi_78_24 (by decide) ?_
            refine z_ireturn zi_78_25 rfl (k t h zFg.rf)
    · rw [if_pos (by omega)] at k
      refine z_bipush zi_78_11 (by decide) ?_
      refine z_ireturn zi_78_12 rfl (k t h zFg.rf)
  · rw [if_neg q1] at k
    refine z_if_ne_f zi_78_4 (by omega) (by omega) ?_
    refine z_iconst zi_78_5 ?_
    refine z_ireturn zi_78_6 rfl (k t h zFg.rf)
theorem s_crankRefusal (h : zTB 1 t g) (hw : gWF g) (k : K (if gL g = 0 then -4 else if gLk g 1 ≠ 0 then -2 else 0) t) : ZX (d + 3) 100 0 [(0, .ref 0)] [] t (zKi K) := by
  have hT := zT1
  have hn := hw.n
  have hl := gLk_rng hw 1
  refine z_aload_n zi_100_0 rfl ?_
  refine z_getfield zi_100_1 rfl ?_
  refine z_cv0i zi_100_2  (zt_c hT) ⟨rfl, Nat.le_of_ble_eq_true rfl, Nat.le_of_ble_eq_true rfl⟩ (s_trainLength hT h ?_)
  refine z_if_ne zi_100_3 (by omega) (fun c => ?_) (fun c => ?_)
  · rw [if_neg (by omega)] at k
    refine z_aload_n zi_100_6 rfl ?_
    refine z_getfield zi_100_7 rfl ?_
    refine z_iconst zi_100_8 ?_
    refine z_cv1i zi_100_9 rfl (zt_c hT) ⟨rfl, Nat.le_of_ble_eq_true rfl, Nat.le_of_ble_eq_true rfl⟩ (s_lockOf hT h hw (Or.inl rfl) ?_)
    refine z_if_eq zi_100_10 (by omega) (fun c2 => ?_) (fun c2 => ?_)
    · rw [if_neg (fun z => z c2)] at k
      refine z_iconst zi_100_13 ?_
      refine z_ireturn zi_100_14 rfl k
    · rw [if_pos c2] at k
      refine z_bipush zi_100_11 (by decide) ?_
      refine z_goto zi_100_12 ?_
      refine z_ireturn zi_100_14 rfl k
  · rw [if_pos (by omega)] at k
    refine z_bipush zi_100_4 (by decide) ?_
    refine z_ireturn zi_100_5 rfl k
theorem s_around (h : zTB 1 t g) (hw : gWF g) (k : K (oAround g) t) : ZX (d + 4) 79 0 [(0, .ref 0)] [] t (zKi K) := by
  have hT := zT1
  unfold oAround at k
  refine z_aload_n zi_79_0 rfl ?_
  refine z_cv0i zi_79_1  rfl ⟨rfl, Nat.le_of_ble_eq_true rfl, Nat.le_of_ble_eq_true rfl⟩ (s_crankRefusal h hw ?_)
  by_cases c1 : gL g = 0
  · rw [if_pos c1] at k ⊢
    refine z_istore_n zi_79_2 rfl ?_
    refine z_iload_n zi_79_3 rfl ?_
    refine z_if_eq_f zi_79_4 (by omega) (by omega) ?_
    refine z_iload_n zi_79_5 rfl ?_
    refine z_goto zi_79_6 ?_
    refine z_ireturn zi_79_10 rfl k
  · rw [if_neg c1] at k ⊢
    by_cases c2 : gLk g 1 ≠ 0
    · rw [if_pos c2] at k ⊢
      refine z_istore_n zi_79_2 rfl ?_
      refine z_iload_n zi_79_3 rfl ?_
      refine z_if_eq_f zi_79_4 (by omega) (by omega) ?_
      refine z_iload_n zi_79_5 rfl ?_
      refine z_goto zi_79_6 ?_
      refine z_ireturn zi_79_10 rfl k
    · rw [if_neg c2] at k ⊢
      refine z_istore_n zi_79_2 rfl ?_
      refine z_iload_n zi_79_3 rfl ?_
      refine z_if_eq_t zi_79_4 (by omega) (by omega) ?_
      refine z_aload_n zi_79_7 rfl ?_
      refine z_getfield zi_79_8 rfl ?_
      refine z_cv0i zi_79_9  (zt_c hT) ⟨rfl, Nat.le_of_ble_eq_true rfl, Nat.le_of_ble_eq_true rfl⟩ (s_teethAround hT h hw ?_)
      refine z_ireturn zi_79_10 rfl k
theorem s_up (h : zTB 1 t g) (hw : gWF g) (k : ∀ v, oUp g v → K v t) : ZX (d + 4) 80 0 [(0, .ref 0)] [] t (zKi K) := by
  have hT := zT1
  refine z_aload_n zi_80_0 rfl ?_
  refine z_cv0i zi_80_1  rfl ⟨rfl, Nat.le_of_ble_eq_true rfl, Nat.le_of_ble_eq_true rfl⟩ (s_crankRefusal h hw ?_)
  by_cases c1 : gL g = 0
  · rw [if_pos c1]
    refine z_istore_n zi_80_2 rfl ?_
    refine z_iload_n zi_80_3 rfl ?_
    refine z_if_eq_f zi_80_4 (by omega) (by omega) ?_
    refine z_iload_n zi_80_5 rfl ?_
    refine z_goto zi_80_6 ?_
    refine z_ireturn zi_80_10 rfl (k _ (by unfold oUp; rw [if_pos c1]))
  · rw [if_neg c1]
    by_cases c2 : gLk g 1 ≠ 0
    · rw [if_pos c2]
      refine z_istore_n zi_80_2 rfl ?_
      refine z_iload_n zi_80_3 rfl ?_
      refine z_if_eq_f zi_80_4 (by omega) (by omega) ?_
      refine z_iload_n zi_80_5 rfl ?_
      refine z_goto zi_80_6 ?_
      refine z_ireturn zi_80_10 rfl (k _ (by unfold oUp; rw [if_neg c1, if_pos c2]))
    · rw [if_neg c2]
      refine z_istore_n zi_80_2 rfl ?_
      refine z_iload_n zi_80_3 rfl ?_
      refine z_if_eq_t zi_80_4 (by omega) (by omega) ?_
      refine z_aload_n zi_80_7 rfl ?_
      refine z_getfield zi_80_8 rfl ?_
      refine z_cv0i zi_80_9  (zt_c hT) ⟨rfl, Nat.le_of_ble_eq_true rfl, Nat.le_of_ble_eq_true rfl⟩ (s_teethUntilUp hT h hw (fun x hx hy => ?_) (fun hx => ?_))
      · refine z_ireturn zi_80_10 rfl (k _ (by unfold oUp; rw [if_neg c1, if_neg c2]; exact Or.inl ⟨x, rfl, hx, hy⟩))
      · refine z_ireturn zi_80_10 rfl (k _ (by unfold oUp; rw [if_neg c1, if_neg c2]; exact Or.inr ⟨rfl, hx⟩))
theorem s_point {s m : Int} (h : zTB 1 t g) (hw : gWF g) (r1 : -2147483648 ≤ s ∧ s < 2147483648) (r2 : -2147483648 ≤ m ∧ m < 2147483648) (k : K (oPoint g s m) t) : ZX (d + 4) 82 0 [(0, .ref 0), (1, .int (zi s)), (2, .int (zi m))] [] t (zKi K) := by
  have hT := zT1
  have hn := hw.n
  unfold oPoint at k
  refine z_aload_n zi_82_0 rfl ?_
  refine z_getfield zi_82_1 rfl ?_
  refine z_iload_n zi_82_2 rfl ?_
  refine z_cv1i zi_82_3 rfl (zt_c hT) ⟨rfl, Nat.le_of_ble_eq_true rfl, Nat.le_of_ble_eq_true rfl⟩ (s_hasStone hT h hw r1 (fun q1 => ?_) (fun q1 => ?_))
  · rw [if_pos q1] at k
    refine z_if_eq_f zi_82_4 (by omega) (by omega) ?_
    refine z_aload_n zi_82_5 rfl ?_
    refine z_getfield zi_82_6 rfl ?_
    refine z_iload_n zi_82_7 rfl ?_
    refine z_cv1i zi_82_8 rfl (zt_c hT) ⟨rfl, Nat.le_of_ble_eq_true rfl, Nat.le_of_ble_eq_true rfl⟩ (s_isLaid (s := s.toNat) hT h hw (by omega) (by omega) (fun p q => ?_) (fun q => ?_))
    · rw [q] at k
      dsimp only at k
      have hpl := (gP_some q).1
      have hr := hw.r hpl
      have ht := hw.t (s := s.toNat) (w := 1 - gF g p) (by omega) (by omega)
      have eF : 1 - gFi g s.toNat = ((1 - gF g p : Nat) : Int) := by
        unfold gFi
        rw [q]
        show 1 - ((gF g p : Nat) : Int) = _
        omega
      refine z_if_ne_t zi_82_9 (by omega) (by omega) ?_
      refine z_iload_n zi_82_12 rfl ?_
      refine z_iconst zi_82_13 ?_
      refine z_aload_n zi_82_14 rfl ?_
      refine z_getfield zi_82_15 rfl ?_
      refine z_iload_n zi_82_16 rfl ?_
      refine z_aload_n zi_82_17 rfl ?_
      refine z_getfield zi_82_18 rfl ?_
      refine z_iload_n zi_82_19 rfl ?_
      refine z_cv1i zi_82_20 rfl (zt_c hT) ⟨rfl, Nat.le_of_ble_eq_true rfl, Nat.le_of_ble_eq_true rfl⟩ (s_backOf (s := s.toNat) hT h hw (by omega) (by omega) ?_)
      refine z_cv2i zi_82_21 rfl rfl (zt_c hT) ⟨rfl, Nat.le_of_ble_eq_true rfl, Nat.le_of_ble_eq_true rfl⟩ (s_teethOf (s := s.toNat) (w := 1 - gF g p) hT h hw (by omega) (by omega) eF (by omega) ?_)
      refine z_iconst zi_82_22 ?_
      refine z_isub zi_82_23 ?_
      refine z_cs3i zi_82_24 rfl rfl rfl ⟨by decide, rfl, Nat.le_of_ble_eq_true rfl, Nat.le_of_ble_eq_true rfl⟩ (s_within r2 (by omega) (by omega) (fun q3 => ?_) (fun q3 => ?_))
      · rw [if_pos q3] at k
        refine z_if_ne_t zi_82_25 (by omega) (by omega) ?_
        refine z_aload_n zi_82_28 rfl ?_
        refine z_cv0i zi_82_29  rfl ⟨rfl, Nat.le_of_ble_eq_true rfl, Nat.le_of_ble_eq_true rfl⟩ (s_crankRefusal h hw ?_)
        rw [if_neg (by omega)]
        by_cases c2 : gLk g 1 ≠ 0
        · rw [if_pos c2] at k ⊢
          refine z_istore_n zi_82_30 rfl ?_
          refine z_iload_n zi_82_31 rfl ?_
          refine z_if_eq_f zi_82_32 (by omega) (by omega) ?_
          refine z_iload_n zi_82_33 rfl ?_
          refine z_goto zi_82_34 ?_
          refine z_ireturn zi_82_40 rfl k
        · rw [if_neg c2] at k ⊢
          refine z_istore_n zi_82_30 rfl ?_
          refine z_iload_n zi_82_31 rfl ?_
          refine z_if_eq_t zi_82_32 (by omega) (by omega) ?_
          refine z_aload_n zi_82_35 rfl ?_
          refine z_getfield zi_82_36 rfl ?_
          refine z_iload_n zi_82_37 rfl ?_
          refine z_iload_n zi_82_38 rfl ?_
          refine z_cv2i zi_82_39 rfl rfl (zt_c hT) ⟨rfl, Nat.le_of_ble_eq_true rfl, Nat.le_of_ble_eq_true rfl⟩ (s_teethUntilPoint (s := s.toNat) (p := p) hT h hw (by omega) (by omega) q (by omega) ?_)
          refine z_ireturn zi_82_40 rfl k
      · rw [if_neg q3] at k
        refine z_if_ne_f zi_82_25 (by omega) (by omega) ?_
        refine z_iconst zi_82_26 ?_
        refine z_ireturn zi_82_27 rfl k
    · rw [q] at k
      refine z_if_ne_f zi_82_9 (by omega) (by omega) ?_
      refine z_iconst zi_82_10 ?_
      refine z_ireturn zi_82_11 rfl k
  · rw [if_neg q1] at k
    refine z_if_eq_t zi_82_4 (by omega) (by omega) ?_
    refine z_iconst zi_82_10 ?_
    refine z_ireturn zi_82_11 rfl k
theorem s_seed {v : Int} (h : zTB 1 t g) (r1 : -2147483648 ≤ v ∧ v < 2147483648) (k : ∀ t', zTB 1 t' (oSeed g v).2 → zFg t t' → K (oSeed g v).1 t') : ZX (d + 3) 84 0 [(0, .ref 0), (1, .int (zi v))] [] t (zKi K) := by
  have hT := zT1
  unfold oSeed at k
  refine z_iload_n zi_84_0 rfl ?_
  refine z_if_ge zi_84_1 (by omega) (fun c => ?_) (fun c => ?_)
  · rw [if_neg (by omega)] at k
    refine z_aload_n zi_84_4 rfl ?_
    refine z_getfield zi_84_5 rfl ?_
    refine z_cv0i zi_84_6  (zt_c hT) ⟨rfl, Nat.le_of_ble_eq_true rfl, Nat.le_of_ble_eq_true rfl⟩ (s_drawIs hT h ?_)
    refine z_istore_n zi_84_7 rfl ?_
    refine z_aload_n zi_84_8 rfl ?_
    refine z_getfield zi_84_9 rfl ?_
    refine z_iload_n zi_84_10 rfl ?_
    refine z_cv1v zi_84_11 rfl (zt_c hT) ⟨rfl, Nat.le_of_ble_eq_true rfl, Nat.le_of_ble_eq_true rfl⟩ (s_setDraw hT ?_)
    refine z_iload_n zi_84_12 rfl ?_
    refine z_ireturn zi_84_13 rfl (k _ (zTB_D h v) (zFg.up (by omega)))
  · rw [if_pos (by omega)] at k
    refine z_iconst zi_84_2 ?_
    refine z_ireturn zi_84_3 rfl (k t h zFg.rf)
theorem s_match {a : Int} (h : zTB 1 t g) (hw : gWF g) (hh : gWH g) (r1 : -2147483648 ≤ a ∧ a < 2147483648) (k : ∀ v g' t', oMatch g a v g' → zTB 1 t' g' → zFg t t' → K v t') : ZX (d + 6) 83 0 [(0, .ref 0), (1, .int (zi a))] [] t (zKi K) := by
  have hT := zT1
  have ho := hw.o
  refine z_iload_n zi_83_0 rfl ?_
  refine z_iconst zi_83_1 ?_
  refine z_bipush zi_83_2 (by decide) ?_
  refine z_cs3i zi_83_3 rfl rfl rfl ⟨by decide, rfl, Nat.le_of_ble_eq_true rfl, Nat.le_of_ble_eq_true rfl⟩ (s_within r1 (by omega) (by omega) (fun q1 => ?_) (fun q1 => ?_))
  · refine z_if_ne_t zi_83_4 (by omega) (by omega) ?_
    refine z_aload_n zi_83_7 rfl ?_
    refine z_getfield zi_83_8 rfl ?_
    refine z_cv0i zi_83_9  (zt_c hT) ⟨rfl, Nat.le_of_ble_eq_true rfl, Nat.le_of_ble_eq_true rfl⟩ (s_isRing hT h hw ?_)
    refine z_if_eq zi_83_10 (by omega) (fun c => ?_) (fun c => ?_)
    · have loop : ∀ (n i : Nat) (c v0 : Int) (g1 : zG) (t1 : zMI), (i + n : Int) = a → gOK g1 → gO g1 = 0 → zTB 1 t1 g1 → zFg t t1 → 0 ≤ c → c ≤ i → (∀ v g', gMt n i g1 c v g' → gMt a.toNat 0 g 0 v g') → ZX (d + 6) 83 17 [(3, .int (zi i)), (2, .int (zi c)), (0, .ref 0), (1, .int (zi a))] [] t1 (zKi K) := by
        intro n
        induction n with
        | zero =>
          intro i c v0 g1 t1 e h1 ho1 h2 f2 hc hc2 hm
          refine z_iload_n zi_83_17 rfl ?_
          refine z_iload_n zi_83_18 rfl ?_
          refine z_icmp_ge_t zi_83_19 (by omega) (by omega) ?_
          refine z_iload_n zi_83_30 rfl ?_
          refine z_ireturn zi_83_31 rfl (k c g1 t1 (by unfold oMatch; rw [if_pos q1, if_neg (by omega)]; exact hm c g1 ⟨rfl, rfl⟩) h2 f2)
        | succ n ih =>
          intro i c v0 g1 t1 e h1 ho1 h2 f2 hc hc2 hm
          have e3 : (i : Int).tmod 2 = ((i % 2 : Nat) : Int) := (Int.ofNat_tmod i 2).symm
          have hd0 : ((i % 2 : Nat) : Int) = 0 ∨ ((i % 2 : Nat) : Int) = 1 := by omega
          refine z_iload_n zi_83_17 rfl ?_
          refine z_iload_n zi_83_18 rfl ?_
          refine z_icmp_ge_f zi_83_19 (by omega) (by omega) ?_
          refine z_aload_n zi_83_20 rfl ?_
          refine z_getfield zi_83_21 rfl ?_
          refine z_iload_n zi_83_22 rfl ?_
          refine z_iconst zi_83_23 ?_
          refine z_irem zi_83_24 (by omega) ?_
          rw [e3]
          refine z_cv1i zi_83_25 rfl (zt_c hT) ⟨rfl, Nat.le_of_ble_eq_true rfl, Nat.le_of_ble_eq_true rfl⟩ (s_layDrawn hT h2 h1.1 h1.2 ho1 hd0 (fun z0 => ?_) (fun q t2 y1 y2 y3 y4 h3 f3 => ?_))
          · refine z_if_eq_t zi_83_26 (by omega) (by omega) ?_
            refine z_iinc zi_83_28 rfl rfl ?_
            refine z_goto zi_83_29 ?_
            refine z_loc (lv' := [(3, .int (zi ((i + 1 : Nat) : Int))), (2, .int (zi c)), (0, .ref 0), (1, .int (zi a))]) rfl ?_
            exact ih (i + 1) c v0 g1 t1 (by omega) h1 ho1 h2 f2 hc (by omega) (fun v g' z => hm v g' (Or.inl ⟨z0, z⟩))
          · have w1 := gsD_wf h1.1 (gdr_rng g1)
            refine z_if_eq_f zi_83_26 (by omega) (by omega) ?_
            refine z_iinc zi_83_27 rfl rfl ?_
            refine z_iinc zi_83_28 rfl rfl ?_
            refine z_goto zi_83_29 ?_
            refine z_loc (lv' := [(3, .int (zi ((i + 1 : Nat) : Int))), (2, .int (zi (c + 1))), (0, .ref 0), (1, .int (zi a))]) rfl ?_
            exact ih (i + 1) (c + 1) v0 _ t2 (by omega) ⟨glay_wf w1 y3.1 (by omega) (glp_free h1.2 hd0 y3) ho1, glay_wh (g := gsD g1 (gdr g1)) h1.2⟩ (by rw [glay_O]; exact ho1) h3 (fun k z1 z2 z3 => (f3 k (by omega)).trans (f2 k z1 z2 z3)) (by omega) (by omega) (fun v g' z => hm v g' (Or.inr ⟨q, y1, y2, y3, y4, z⟩))
      refine z_iconst zi_83_13 ?_
      refine z_istore_n zi_83_14 rfl ?_
      refine z_iconst zi_83_15 ?_
      refine z_istore_n zi_83_16 rfl ?_
      refine z_loc (lv' := [(3, .int (zi ((0 : Nat) : Int))), (2, .int (zi 0)), (0, .ref 0), (1, .int (zi a))]) rfl ?_
      exact loop a.toNat 0 0 0 g t (by omega) ⟨hw, hh⟩ c h zFg.rf (by omega) (by omega) (fun _ _ z => z)
    · refine z_bipush zi_83_11 (by decide) ?_
      refine z_ireturn zi_83_12 rfl (k (-2) g t (by unfold oMatch; rw [if_pos q1, if_pos (by omega)]; exact ⟨rfl, rfl⟩) h zFg.rf)
  · refine z_if_ne_f zi_83_4 (by omega) (by omega) ?_
    refine z_iconst zi_83_5 ?_
    refine z_ireturn zi_83_6 rfl (k (-1) g t (by unfold oMatch; rw [if_neg q1]; exact ⟨rfl, rfl⟩) h zFg.rf)
end
