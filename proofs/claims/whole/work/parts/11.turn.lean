/-! a table: marks that are up, ways, locks, turns -/
section
variable {d T : Nat} {t : zMI} {g : zG} {K : Int → zMI → Prop} {Kv : zMI → Prop}
theorem s_upMarks (hT : zTa T) (h : zTB T t g) (hw : gWF g) (k : K (gup g (gL g)) t) : ZX (d + 2) 39 0 [(0, .ref T)] [] t (zKi K) := by
  have hn := hw.n
  have loop : ∀ (j n : Nat), n + j = gL g → ZX (d + 2) 39 4 [(2, .int (zi n)), (1, .int (zi (gup g n))), (0, .ref T)] [] t (zKi K) := by
    intro j
    induction j with
    | zero =>
      intro n e
      have e1 : n = gL g := by omega
      subst e1
      refine z_iload_n zi_39_4 rfl ?_
      refine z_aload_n zi_39_5 rfl ?_
      refine z_getfield zi_39_6 (zt_f7 hT) ?_
      rw [h.l]
      refine z_icmp_ge_t zi_39_7 (by omega) (by omega) ?_
      refine z_iload_n zi_39_34 rfl ?_
      refine z_ireturn zi_39_35 rfl k
    | succ j ih =>
      intro n e
      have hr := hw.r (p := n) (by omega)
      have m0 := hw.t hr.1 (show 0 < 2 by omega)
      have m1 := hw.t hr.1 (show 1 < 2 by omega)
      have tl : ∀ x y : Int, x = (if gM g (gR g n) 0 = 0 then 1 else 0) → y = (if gM g (gR g n) 1 = 0 then 1 else 0) → ZX (d + 2) 39 29 [(3, .int (zi (gR g n))), (2, .int (zi n)), (1, .int (zi (gup g n))), (0, .ref T)] [.int (zi y), .int (zi x), .int (zi (gup g n))] t (zKi K) := by
        intro x y ex ey
        refine z_iadd zi_39_29 ?_
        refine z_iadd zi_39_30 ?_
        refine z_istore_n zi_39_31 rfl ?_
        refine z_iinc zi_39_32 rfl rfl ?_
        refine z_goto zi_39_33 ?_
        have e2 : gup g (n + 1) = gup g n + (x + y) := by rw [ex, ey]; rfl
        rw [← e2]
        refine z_loc (lv' := [(2, .int (zi ((n + 1 : Nat) : Int))), (1, .int (zi (gup g (n + 1)))), (0, .ref T)]) rfl ?_
        exact ih (n + 1) (by omega)
      have md : ∀ x : Int, x = (if gM g (gR g n) 0 = 0 then 1 else 0) → ZX (d + 2) 39 21 [(3, .int (zi (gR g n))), (2, .int (zi n)), (1, .int (zi (gup g n))), (0, .ref T)] [.int (zi x), .int (zi (gup g n))] t (zKi K) := by
        intro x ex
        refine z_aload_n zi_39_21 rfl ?_
        refine z_iload_n zi_39_22 rfl ?_
        refine z_iconst zi_39_23 ?_
        refine z_cv2i zi_39_24 rfl rfl (zt_c hT) ⟨rfl, Nat.le_of_ble_eq_true rfl, Nat.le_of_ble_eq_true rfl⟩ (s_markOf (s := gR g n) (w := 1) hT h hw rfl hr.1 rfl (by omega) ?_)
        refine z_if_ne zi_39_25 (by omega) (fun c => ?_) (fun c => ?_)
        · refine z_iconst zi_39_28 ?_
          exact tl x 0 ex (by rw [if_neg c])
        · refine z_iconst zi_39_26 ?_
          refine z_goto zi_39_27 ?_
          exact tl x 1 ex (by rw [if_pos (by omega)])
      refine z_iload_n zi_39_4 rfl ?_
      refine z_aload_n zi_39_5 rfl ?_
      refine z_getfield zi_39_6 (zt_f7 hT) ?_
      rw [h.l]
      refine z_icmp_ge_f zi_39_7 (by omega) (by omega) ?_
      refine z_aload_n zi_39_8 rfl ?_
      refine z_iload_n zi_39_9 rfl ?_
      refine z_cv1i zi_39_10 rfl (zt_c hT) ⟨rfl, Nat.le_of_ble_eq_true rfl, Nat.le_of_ble_eq_true rfl⟩ (s_stoneInTrain (p := n) hT h hw rfl (by omega) ?_)
      refine z_istore_n zi_39_11 rfl ?_
      refine z_iload_n zi_39_12 rfl ?_
      refine z_aload_n zi_39_13 rfl ?_
      refine z_iload_n zi_39_14 rfl ?_
      refine z_iconst zi_39_15 ?_
      refine z_cv2i zi_39_16 rfl rfl (zt_c hT) ⟨rfl, Nat.le_of_ble_eq_true rfl, Nat.le_of_ble_eq_true rfl⟩ (s_markOf (s := gR g n) (w := 0) hT h hw rfl hr.1 rfl (by omega) ?_)
      refine z_if_ne zi_39_17 (by omega) (fun c => ?_) (fun c => ?_)
      · refine z_iconst zi_39_20 ?_
        exact md 0 (by rw [if_neg c])
      · refine z_iconst zi_39_18 ?_
        refine z_goto zi_39_19 ?_
        exact md 1 (by rw [if_pos (by omega)])
  refine z_iconst zi_39_0 ?_
  refine z_istore_n zi_39_1 rfl ?_
  refine z_iconst zi_39_2 ?_
  refine z_istore_n zi_39_3 rfl ?_
  refine z_loc (lv' := [(2, .int (zi ((0 : Nat) : Int))), (1, .int (zi (gup g 0))), (0, .ref T)]) rfl ?_
  exact loop (gL g) 0 (by omega)
theorem s_scoreNow (hT : zTa T) (h : zTB T t g) (hw : gWF g) (k : K (gsc g) t) : ZX (d + 3) 38 0 [(0, .ref T)] [] t (zKi K) := by
  have hn := hw.n
  have hu := gup_rng g (gL g)
  have loop : ∀ (j n : Nat), n + j = gL g → K ((gL g : Int) + ghv g (gL g)) t → ZX (d + 3) 38 18 [(2, .int (zi n)), (1, .int (zi ((gL g : Int) + ghv g n))), (0, .ref T)] [] t (zKi K) := by
    intro j
    induction j with
    | zero =>
      intro n e k
      have e1 : n = gL g := by omega
      subst e1
      refine z_iload_n zi_38_18 rfl ?_
      refine z_aload_n zi_38_19 rfl ?_
      refine z_getfield zi_38_20 (zt_f7 hT) ?_
      rw [h.l]
      refine z_icmp_ge_t zi_38_21 (by omega) (by omega) ?_
      refine z_iload_n zi_38_32 rfl ?_
      refine z_ireturn zi_38_33 rfl k
    | succ j ih =>
      intro n e k
      have hr := hw.r (p := n) (by omega)
      have hk := hw.k hr.1
      have hv := ghv_rng g n
      refine z_iload_n zi_38_18 rfl ?_
      refine z_aload_n zi_38_19 rfl ?_
      refine z_getfield zi_38_20 (zt_f7 hT) ?_
      rw [h.l]
      refine z_icmp_ge_f zi_38_21 (by omega) (by omega) ?_
      refine z_aload_n zi_38_22 rfl ?_
      refine z_aload_n zi_38_23 rfl ?_
      refine z_iload_n zi_38_24 rfl ?_
      refine z_cv1i zi_38_25 rfl (zt_c hT) ⟨rfl, Nat.le_of_ble_eq_true rfl, Nat.le_of_ble_eq_true rfl⟩ (s_stoneInTrain (p := n) hT h hw rfl (by omega) ?_)
      refine z_cv1i zi_38_26 rfl (zt_c hT) ⟨rfl, Nat.le_of_ble_eq_true rfl, Nat.le_of_ble_eq_true rfl⟩ (s_kindOf (s := gR g n) hT h hw rfl hr.1 ?_)
      refine z_iconst zi_38_27 ?_
      refine z_icmp_ne zi_38_28 (by omega) (fun c => ?_) (fun c => ?_)
      · refine z_iinc zi_38_30 rfl rfl ?_
        refine z_goto zi_38_31 ?_
        have e2 : ghv g (n + 1) = ghv g n := by show ghv g n + (if gK g (gR g n) = 3 then 1 else 0) = _; rw [if_neg c]; omega
        refine z_loc (lv' := [(2, .int (zi ((n + 1 : Nat) : Int))), (1, .int (zi ((gL g : Int) + ghv g n))), (0, .ref T)]) rfl ?_
        rw [← e2]
        exact ih (n + 1) (by omega) k
      · refine z_iinc zi_38_29 rfl rfl ?_
        refine z_iinc zi_38_30 rfl rfl ?_
        refine z_goto zi_38_31 ?_
        have e2 : (gL g : Int) + ghv g n + 1 = (gL g : Int) + ghv g (n + 1) := by show _ = (gL g : Int) + (ghv g n + (if gK g (gR g n) = 3 then 1 else 0)); rw [if_pos (by omega)]; omega
        rw [e2]
        refine z_loc (lv' := [(2, .int (zi ((n + 1 : Nat) : Int))), (1, .int (zi ((gL g : Int) + ghv g (n + 1)))), (0, .ref T)]) rfl ?_
        exact ih (n + 1) (by omega) k
  unfold gsc at k
  refine z_aload_n zi_38_0 rfl ?_
  refine z_getfield zi_38_1 (zt_f7 hT) ?_
  refine z_iconst zi_38_2 ?_
  rw [h.l]
  refine z_icmp_lt zi_38_3 (by omega) (fun c => ?_) (fun c => ?_)
  · refine z_iconst zi_38_11 ?_
    rw [if_pos (by omega)] at k
    refine z_ireturn zi_38_12 rfl k
  · refine z_aload_n zi_38_4 rfl ?_
    refine z_cv0i zi_38_5  (zt_c hT) ⟨rfl, Nat.le_of_ble_eq_true rfl, Nat.le_of_ble_eq_true rfl⟩ (s_upMarks hT h hw ?_)
    refine z_iconst zi_38_6 ?_
    refine z_aload_n zi_38_7 rfl ?_
    refine z_getfield zi_38_8 (zt_f7 hT) ?_
    refine z_imul zi_38_9 ?_
    rw [h.l]
    refine z_icmp_ge zi_38_10 (by omega) (fun c2 => ?_) (fun c2 => ?_)
    · rw [if_neg (by omega)] at k
      refine z_aload_n zi_38_13 rfl ?_
      refine z_getfield zi_38_14 (zt_f7 hT) ?_
      rw [h.l]
      refine z_istore_n zi_38_15 rfl ?_
      refine z_iconst zi_38_16 ?_
      refine z_istore_n zi_38_17 rfl ?_
      refine z_loc (lv' := [(2, .int (zi ((0 : Nat) : Int))), (1, .int (zi ((gL g : Int)))), (0, .ref T)]) rfl ?_
      have e0 : (gL g : Int) = (gL g : Int) + ghv g 0 := by show _ = (gL g : Int) + 0; omega
      refine z_lv (lv' := [(2, .int (zi ((0 : Nat) : Int))), (1, .int (zi ((gL g : Int) + ghv g 0))), (0, .ref T)]) (by rw [← e0]) ?_
      exact loop (gL g) 0 (by omega) k
    · refine z_iconst zi_38_11 ?_
      rw [if_pos (by omega)] at k
      refine z_ireturn zi_38_12 rfl k
theorem s_backWayAt {a : Int} {p : Nat} (hT : zTa T) (h : zTB T t g) (hw : gWF g) (ha : a = (p : Int)) (hp : p < gL g) (k : K (gB g p) t) : ZX (d + 2) 42 0 [(0, .ref T), (1, .int (zi a))] [] t (zKi K) := by
  have hn := hw.n
  subst ha
  have loop : ∀ (j n : Nat), n + j = p + 1 → ZX (d + 2) 42 4 [(3, .int (zi n)), (2, .int (zi (-(gA g n)))), (0, .ref T), (1, .int (zi p))] [] t (zKi K) := by
    intro j
    induction j with
    | zero =>
      intro n e
      have e1 : n = p + 1 := by omega
      subst e1
      refine z_iload_n zi_42_4 rfl ?_
      refine z_iload_n zi_42_5 rfl ?_
      refine z_icmp_gt_t zi_42_6 (by omega) (by omega) ?_
      refine z_iload_n zi_42_21 rfl ?_
      refine z_ireturn zi_42_22 rfl k
    | succ j ih =>
      intro n e
      refine z_iload_n zi_42_4 rfl ?_
      refine z_iload_n zi_42_5 rfl ?_
      refine z_icmp_gt_f zi_42_6 (by omega) (by omega) ?_
      refine z_iload_n zi_42_7 rfl ?_
      refine z_aload_n zi_42_8 rfl ?_
      refine z_getfield zi_42_9 (zt_f7 hT) ?_
      rw [h.l]
      refine z_icmp_ge_f zi_42_10 (by omega) (by omega) ?_
      refine z_aload_n zi_42_11 rfl ?_
      refine z_aload_n zi_42_12 rfl ?_
      refine z_iload_n zi_42_13 rfl ?_
      refine z_cv1i zi_42_14 rfl (zt_c hT) ⟨rfl, Nat.le_of_ble_eq_true rfl, Nat.le_of_ble_eq_true rfl⟩ (s_stoneInTrain (p := n) hT h hw rfl (by omega) ?_)
      refine z_iload_n zi_42_15 rfl ?_
      refine z_ineg zi_42_16 ?_
      refine z_cv2i zi_42_17 rfl rfl (zt_c hT) ⟨rfl, Nat.le_of_ble_eq_true rfl, Nat.le_of_ble_eq_true rfl⟩ (s_backWay (p := n) hT h hw (by omega) rfl ?_)
      refine z_istore_n zi_42_18 rfl ?_
      refine z_iinc zi_42_19 rfl rfl ?_
      refine z_goto zi_42_20 ?_
      have e2 : (if gK g (gR g n) = 2 then - -(gA g n) else - - -(gA g n)) = -(gA g (n + 1)) := by
        have e3 := gB_eq g n
        have e4 := gA_s g n
        rw [e4, e3]
        split <;> omega
      rw [e2]
      refine z_loc (lv' := [(3, .int (zi ((n + 1 : Nat) : Int))), (2, .int (zi (-(gA g (n + 1))))), (0, .ref T), (1, .int (zi p))]) rfl ?_
      exact ih (n + 1) (by omega)
  refine z_iconst zi_42_0 ?_
  refine z_istore_n zi_42_1 rfl ?_
  refine z_iconst zi_42_2 ?_
  refine z_istore_n zi_42_3 rfl ?_
  refine z_loc (lv' := [(3, .int (zi ((0 : Nat) : Int))), (2, .int (zi (-(gA g 0)))), (0, .ref T), (1, .int (zi p))]) rfl ?_
  exact loop (p + 1) 0 (by omega)
theorem s_lastBackWay (hT : zTa T) (h : zTB T t g) (hw : gWF g) (hp : 0 < gL g) (k : K (gB g (gL g - 1)) t) : ZX (d + 3) 43 0 [(0, .ref T)] [] t (zKi K) := by
  have hn := hw.n
  refine z_aload_n zi_43_0 rfl ?_
  refine z_aload_n zi_43_1 rfl ?_
  refine z_getfield zi_43_2 (zt_f7 hT) ?_
  rw [h.l]
  refine z_iconst zi_43_3 ?_
  refine z_isub zi_43_4 ?_
  refine z_cv1i zi_43_5 rfl (zt_c hT) ⟨rfl, Nat.le_of_ble_eq_true rfl, Nat.le_of_ble_eq_true rfl⟩ (s_backWayAt (p := gL g - 1) hT h hw (by omega) (by omega) ?_)
  refine z_ireturn zi_43_6 rfl k
theorem s_backWayAt0 (hT : zTa T) (h : zTB T t g) (k : K (-1) t) : ZX (d + 2) 42 0 [(0, .ref T), (1, .int (zi (-1)))] [] t (zKi K) := by
  refine z_iconst zi_42_0 ?_
  refine z_istore_n zi_42_1 rfl ?_
  refine z_iconst zi_42_2 ?_
  refine z_istore_n zi_42_3 rfl ?_
  refine z_iload_n zi_42_4 rfl ?_
  refine z_iload_n zi_42_5 rfl ?_
  refine z_icmp_gt_t zi_42_6 (by omega) (by omega) ?_
  refine z_iload_n zi_42_21 rfl ?_
  refine z_ireturn zi_42_22 rfl k
theorem s_lastBackWay0 (hT : zTa T) (h : zTB T t g) (hp : gL g = 0) (k : K (-1) t) : ZX (d + 3) 43 0 [(0, .ref T)] [] t (zKi K) := by
  refine z_aload_n zi_43_0 rfl ?_
  refine z_aload_n zi_43_1 rfl ?_
  refine z_getfield zi_43_2 (zt_f7 hT) ?_
  rw [h.l, hp]
  refine z_iconst zi_43_3 ?_
  refine z_isub zi_43_4 ?_
  refine z_cv1i zi_43_5 rfl (zt_c hT) ⟨rfl, Nat.le_of_ble_eq_true rfl, Nat.le_of_ble_eq_true rfl⟩ (s_backWayAt0 hT h ?_)
  refine z_ireturn zi_43_6 rfl k
theorem s_lockOf {way : Int} (hT : zTa T) (h : zTB T t g) (hw : gWF g) (hy : way = 1 ∨ way = -1) (k : K (gLk g way) t) : ZX (d + 2) 44 0 [(0, .ref T), (1, .int (zi way))] [] t (zKi K) := by
  have hn := hw.n
  have ho := hw.o
  have loop : ∀ (j n : Nat), n + j = gL g → ∀ b : Int, (0 < n → b = way * gB g (n - 1)) → (n = 0 → b = 0) → ZX (d + 2) 44 8 [(5, .int (zi n)), (4, .int (zi b)), (3, .int (zi (way * gA g n))), (2, .int (zi (match glk g way n with | some p => 2 + (gR g p : Int) | none => 0))), (0, .ref T), (1, .int (zi way))] [] t (zKi K) := by
    intro j
    induction j with
    | zero =>
      intro n e b hb hb0
      have e1 : n = gL g := by omega
      subst e1
      unfold gLk at k
      have hbp := gB_pm g (gL g - 1)
      refine z_iload zi_44_8 rfl ?_
      refine z_aload_n zi_44_9 rfl ?_
      refine z_getfield zi_44_10 (zt_f7 hT) ?_
      rw [h.l]
      refine z_icmp_ge_t zi_44_11 (by omega) (by omega) ?_
      refine z_aload_n zi_44_39 rfl ?_
      refine z_getfield zi_44_40 (zt_f9 hT) ?_
      rw [h.o]
      refine z_if_eq zi_44_41 (by omega) (fun c => ?_) (fun c => ?_)
      · refine z_iload_n zi_44_47 rfl ?_
        rw [if_neg (by omega)] at k
        refine z_ireturn zi_44_48 rfl k
      · have hL := ho.2 (by omega)
        have hb2 := hb (by omega)
        have hb3 : b = 1 ∨ b = -1 := by rcases hy with rfl | rfl <;> omega
        refine z_iload zi_44_42 rfl ?_
        refine z_iload_n zi_44_43 rfl ?_
        refine z_icmp_ne zi_44_44 (by omega) (fun c2 => ?_) (fun c2 => ?_)
        · refine z_iload_n zi_44_47 rfl ?_
          have e3 : ¬ gB g (gL g - 1) = 1 := fun q => by rw [q] at hb2; omega
          rw [if_neg (fun q => e3 q.2)] at k
          refine z_ireturn zi_44_48 rfl k
        · refine z_iconst zi_44_45 ?_
          refine z_goto zi_44_46 ?_
          have e3 : gB g (gL g - 1) = 1 := by
            rcases hbp with q | q
            · exact q
            · rw [q] at hb2; omega
          rw [if_pos ⟨by omega, e3⟩] at k
          refine z_ireturn zi_44_48 rfl k
    | succ j ih =>
      intro n e b hb hb0
      have hr := hw.r (p := n) (by omega)
      have hap := gA_pm g n
      have hbp := gB_pm g n
      have hA : way * gA g n = 1 ∨ way * gA g n = -1 := by rcases hy with rfl | rfl <;> omega
      have hB : way * gB g n = 1 ∨ way * gB g n = -1 := by rcases hy with rfl | rfl <;> omega
      refine z_iload zi_44_8 rfl ?_
      refine z_aload_n zi_44_9 rfl ?_
      refine z_getfield zi_44_10 (zt_f7 hT) ?_
      rw [h.l]
      refine z_icmp_ge_f zi_44_11 (by omega) (by omega) ?_
      refine z_aload_n zi_44_12 rfl ?_
      refine z_getfield zi_44_13 (zt_f8 hT) ?_
      refine z_iload zi_44_14 rfl ?_
      refine z_cs2i zi_44_15 rfl rfl ⟨by decide, rfl, Nat.le_of_ble_eq_true rfl, Nat.le_of_ble_eq_true rfl⟩ (s_at (n := n) (zt_a7 hT) (by omega) rfl (by omega) ?_)
      rw [h.r (show n < gL g by omega)]
      refine z_istore zi_44_16 rfl ?_
      refine z_aload_n zi_44_17 rfl ?_
      refine z_iload zi_44_18 rfl ?_
      refine z_iload_n zi_44_19 rfl ?_
      refine z_cv2i zi_44_20 rfl rfl (zt_c hT) ⟨rfl, Nat.le_of_ble_eq_true rfl, Nat.le_of_ble_eq_true rfl⟩ (s_backWay (p := n) hT h hw (by omega) rfl ?_)
      have e2 : (if gK g (gR g n) = 2 then way * gA g n else -(way * gA g n)) = way * gB g n := by
        rw [gB_eq g n]
        split
        · rfl
        · rw [Int.mul_neg]
      rw [e2]
      refine z_istore zi_44_21 rfl ?_
      refine z_aload_n zi_44_22 rfl ?_
      refine z_iload zi_44_23 rfl ?_
      have e5 : -(way * gB g n) = way * gA g (n + 1) := by rw [gA_s, Int.mul_neg]
      have fin : ∀ x : Int, x = (match glk g way (n + 1) with | some p => 2 + (gR g p : Int) | none => 0) → ZX (d + 2) 44 34 [(4, .int (zi (way * gB g n))), (6, .int (zi (gR g n))), (5, .int (zi n)), (3, .int (zi (way * gA g n))), (2, .int (zi x)), (0, .ref T), (1, .int (zi way))] [] t (zKi K) := by
        intro x ex
        subst ex
        refine z_iload zi_44_34 rfl ?_
        refine z_ineg zi_44_35 ?_
        refine z_istore_n zi_44_36 rfl ?_
        refine z_iinc zi_44_37 rfl rfl ?_
        refine z_goto zi_44_38 ?_
        rw [e5]
        refine z_loc (lv' := [(5, .int (zi ((n + 1 : Nat) : Int))), (4, .int (zi (way * gB g n))), (3, .int (zi (way * gA g (n + 1)))), (2, .int (zi (match glk g way (n + 1) with | some p => 2 + (gR g p : Int) | none => 0))), (0, .ref T), (1, .int (zi way))]) rfl ?_
        exact ih (n + 1) (by omega) _ (fun _ => rfl) (fun q => by omega)
      have yes : (gK g (gR g n) = 1 ∨ gK g (gR g n) = 3) ∧ (way * gA g n < 0 ∨ way * gB g n < 0) → glk g way (n + 1) = some n := fun q => by
        show (if _ then _ else _) = _
        rw [if_pos q]
      have no : ¬ ((gK g (gR g n) = 1 ∨ gK g (gR g n) = 3) ∧ (way * gA g n < 0 ∨ way * gB g n < 0)) → glk g way (n + 1) = glk g way n := fun q => by
        show (if _ then _ else _) = _
        rw [if_neg q]
      refine z_cv1i zi_44_24 rfl (zt_c hT) ⟨rfl, Nat.le_of_ble_eq_true rfl, Nat.le_of_ble_eq_true rfl⟩ (s_hasPawl (s := gR g n) hT h hw rfl hr.1 (fun q => ?_) (fun q => ?_))
      · refine z_if_eq_f zi_44_25 (by omega) (by omega) ?_
        refine z_iload_n zi_44_26 rfl ?_
        refine z_if_lt zi_44_27 (by omega) (fun c => ?_) (fun c => ?_)
        · refine z_iconst zi_44_30 ?_
          refine z_iload zi_44_31 rfl ?_
          refine z_iadd zi_44_32 ?_
          refine z_istore_n zi_44_33 rfl ?_
          refine z_loc (lv' := [(4, .int (zi (way * gB g n))), (6, .int (zi (gR g n))), (5, .int (zi n)), (3, .int (zi (way * gA g n))), (2, .int (zi (2 + (gR g n : Int)))), (0, .ref T), (1, .int (zi way))]) rfl ?_
          exact fin _ (by rw [yes ⟨q, Or.inl c⟩])
        · refine z_iload zi_44_28 rfl ?_
          refine z_if_ge zi_44_29 (by omega) (fun c2 => ?_) (fun c2 => ?_)
          · refine z_loc (lv' := [(4, .int (zi (way * gB g n))), (6, .int (zi (gR g n))), (5, .int (zi n)), (3, .int (zi (way * gA g n))), (2, .int (zi (match glk g way n with | some p => 2 + (gR g p : Int) | none => 0))), (0, .ref T), (1, .int (zi way))]) rfl ?_
            exact fin _ (by rw [no (fun z => by omega)])
          · refine z_iconst zi_44_30 ?_
            refine z_iload zi_44_31 rfl ?_
            refine z_iadd zi_44_32 ?_
            refine z_istore_n zi_44_33 rfl ?_
            refine z_loc (lv' := [(4, .int (zi (way * gB g n))), (6, .int (zi (gR g n))), (5, .int (zi n)), (3, .int (zi (way * gA g n))), (2, .int (zi (2 + (gR g n : Int)))), (0, .ref T), (1, .int (zi way))]) rfl ?_
            exact fin _ (by rw [yes ⟨q, Or.inr (by omega)⟩])
      · refine z_if_eq_t zi_44_25 (by omega) (by omega) ?_
        refine z_loc (lv' := [(4, .int (zi (way * gB g n))), (6, .int (zi (gR g n))), (5, .int (zi n)), (3, .int (zi (way * gA g n))), (2, .int (zi (match glk g way n with | some p => 2 + (gR g p : Int) | none => 0))), (0, .ref T), (1, .int (zi way))]) rfl ?_
        exact fin _ (by rw [no (fun z => q z.1)])
  refine z_iconst zi_44_0 ?_
  refine z_istore_n zi_44_1 rfl ?_
  refine z_iload_n zi_44_2 rfl ?_
  refine z_istore_n zi_44_3 rfl ?_
  refine z_iconst zi_44_4 ?_
  refine z_istore zi_44_5 rfl ?_
  refine z_iconst zi_44_6 ?_
  refine z_istore zi_44_7 rfl ?_
  refine z_loc (lv' := [(5, .int (zi ((0 : Nat) : Int))), (4, .int (zi 0)), (3, .int (zi way)), (2, .int (zi 0)), (0, .ref T), (1, .int (zi way))]) rfl ?_
  refine z_lv (lv' := [(5, .int (zi ((0 : Nat) : Int))), (4, .int (zi 0)), (3, .int (zi (way * gA g 0))), (2, .int (zi (match glk g way 0 with | some p => 2 + (gR g p : Int) | none => 0))), (0, .ref T), (1, .int (zi way))]) (by rw [gA_0, Int.mul_one]; rfl) ?_
  exact loop (gL g) 0 (by omega) 0 (fun q => by omega) (fun _ => rfl)
end
