/-! the model: ways, locks, turns, marks, counts, may -/
def zWy (t : zMI) (way : Int) (g : zG) (n : Nat) : Prop := ∀ i, i < n → t 57 i = way * gA g i ∧ t 58 i = way * gB g i
theorem zpm {a b : Int} (ha : a = 1 ∨ a = -1) (hb : b = 1 ∨ b = -1) : a * b = 1 ∨ a * b = -1 := by
  rcases ha with rfl | rfl <;> rcases hb with rfl | rfl <;> decide
theorem zfm2 {x y : Int} (hy : 0 < y) : (if x.tmod y < 0 then x.tmod y + y else x.tmod y) = x % y := by
  have e := Int.mul_tdiv_add_tmod x y
  have h1 := Int.tmod_lt_of_pos x hy
  have h2 := Int.lt_tmod_of_pos x hy
  have key : ∀ q r : Int, x = y * q + r → 0 ≤ r → r < y → r = x % y := fun q r hx h0 hr => by
    rw [hx, Int.add_comm, Int.add_mul_emod_self_left, Int.emod_eq_of_lt h0 hr]
  split
  · exact key (x.tdiv y - 1) _ (by rw [Int.mul_sub]; omega) (by omega) (by omega)
  · exact key (x.tdiv y) _ (by omega) (by omega) h1
theorem zRS_Mx {t : zMI} {g : zG} {m m' : Nat → Nat → Int} (h : zRS t (gsM g m)) (e : ∀ s w, s < gN g → w < 2 → m' s w = m s w) : zRS t (gsM g m') :=
  ⟨h.1, h.2.1, fun s w hs hw => ⟨(h.2.2.1 s w hs hw).1, ((h.2.2.1 s w hs hw).2).trans (e s w hs hw).symm⟩, h.2.2.2⟩
def glN (g : zG) (way : Int) (n : Nat) : Int := match glk g way n with
  | some p => (p : Int)
  | none => -4
theorem glN_s (g : zG) (way : Int) (n : Nat) : glN g way (n + 1) = if (gK g (gR g n) = 1 ∨ gK g (gR g n) = 3) ∧ (way * gA g n < 0 ∨ way * gB g n < 0) then (n : Int) else glN g way n := by
  unfold glN
  show (match (if _ then some n else glk g way n) with | some p => _ | none => _) = _
  by_cases h : (gK g (gR g n) = 1 ∨ gK g (gR g n) = 3) ∧ (way * gA g n < 0 ∨ way * gB g n < 0)
  · rw [if_pos h, if_pos h]
  · rw [if_neg h, if_neg h]
theorem glN_rng (g : zG) (way : Int) : ∀ n : Nat, -4 ≤ glN g way n ∧ glN g way n < (n : Int) + 1
  | 0 => by unfold glN glk; dsimp only; omega
  | n + 1 => by
    have := glN_rng g way n
    rw [glN_s]
    split <;> omega
section
variable {d : Nat} {t : zMI} {g : zG} {sh : gSh} {K : Int → zMI → Prop} {Kv : zMI → Prop}
theorem m_isPawled {a : Int} {s : Nat} (h : zRS t g) (hw : gWF g) (ha : a = (s : Int)) (hs : s < gN g) (kt : gK g s = 1 ∨ gK g s = 3 → K 1 t) (kf : ¬ (gK g s = 1 ∨ gK g s = 3) → K 0 t) : ZX d 127 0 [(0, .ref 50), (1, .int (zi a))] [] t (zKi K) := by
  have hn := hw.n
  have hk := hw.k hs
  refine z_aload_n zi_127_0 rfl ?_
  refine z_getfield zi_127_1 zm_f0 ?_
  refine z_bipush zi_127_2 (by decide) ?_
  refine z_iload_n zi_127_3 rfl ?_
  refine z_imul zi_127_4 ?_
  refine z_iaload (n := 6 * s) zi_127_5 rfl (by omega) (by omega) (by omega) ?_
  rw [h.k hs]
  refine z_iconst zi_127_6 ?_
  refine z_icmp_eq zi_127_7 (by omega) (fun c => ?_) (fun c => ?_)
  · refine z_iconst zi_127_16 ?_
    refine z_goto zi_127_17 ?_
    refine z_zreturn zi_127_19 rfl (by omega) (kt (by omega))
  · refine z_aload_n zi_127_8 rfl ?_
    refine z_getfield zi_127_9 zm_f0 ?_
    refine z_bipush zi_127_10 (by decide) ?_
    refine z_iload_n zi_127_11 rfl ?_
    refine z_imul zi_127_12 ?_
    refine z_iaload (n := 6 * s) zi_127_13 rfl (by omega) (by omega) (by omega) ?_
    rw [h.k hs]
    refine z_iconst zi_127_14 ?_
    refine z_icmp_ne zi_127_15 (by omega) (fun c2 => ?_) (fun c2 => ?_)
    · refine z_iconst zi_127_18 ?_
      refine z_zreturn zi_127_19 rfl (by omega) (kf (by omega))
    · refine z_iconst zi_127_16 ?_
      refine z_goto zi_127_17 ?_
      refine z_zreturn zi_127_19 rfl (by omega) (kt (by omega))
theorem m_findWays {way : Int} (h : zRS t g) (hw : gWF g) (hy : way = 1 ∨ way = -1) (k : ∀ t', zWy t' way g (gL g) → (∀ q, q ≠ 57 → q ≠ 58 → t' q = t q) → Kv t') : ZX d 128 0 [(0, .ref 50), (1, .int (zi way))] [] t (zKv Kv) := by
  have hn := hw.n
  have loop : ∀ (j n : Nat) (t' : zMI), n + j = gL g → zWy t' way g n → (∀ q, q ≠ 57 → q ≠ 58 → t' q = t q) → ZX d 128 4 [(3, .int (zi n)), (2, .int (zi (way * gA g n))), (0, .ref 50), (1, .int (zi way))] [] t' (zKv Kv) := by
    intro j
    induction j with
    | zero =>
      intro n t' e hy' f'
      have e1 : n = gL g := by omega
      subst e1
      refine z_iload_n zi_128_4 rfl ?_
      refine z_aload_n zi_128_5 rfl ?_
      refine z_getfield zi_128_6 zm_f4 ?_
      rw [f' 50 (by omega) (by omega), h.l]
      refine z_icmp_ge_t zi_128_7 (by omega) (by omega) ?_
      refine z_vreturn zi_128_40 rfl (k t' hy' f')
    | succ j ih =>
      intro n t' e hy' f'
      have hr := hw.r (p := n) (by omega)
      have hk := hw.k hr.1
      have hA := zpm hy (gA_pm g n)
      have eA : way * gA g (n + 1) = -(way * gB g n) := by rw [gA_s, Int.mul_neg]
      have eB := gB_eq g n
      refine z_iload_n zi_128_4 rfl ?_
      refine z_aload_n zi_128_5 rfl ?_
      refine z_getfield zi_128_6 zm_f4 ?_
      rw [f' 50 (by omega) (by omega), h.l]
      refine z_icmp_ge_f zi_128_7 (by omega) (by omega) ?_
      refine z_aload_n zi_128_8 rfl ?_
      refine z_getfield zi_128_9 zm_f13 ?_
      refine z_iload_n zi_128_10 rfl ?_
      refine z_iload_n zi_128_11 rfl ?_
      refine z_iastore (n := n) zi_128_12 rfl (by omega) (by omega) (by omega) ?_
      refine z_aload_n zi_128_13 rfl ?_
      refine z_getfield zi_128_14 zm_f14 ?_
      refine z_iload_n zi_128_15 rfl ?_
      refine z_aload_n zi_128_16 rfl ?_
      refine z_getfield zi_128_17 zm_f0 ?_
      refine z_bipush zi_128_18 (by decide) ?_
      refine z_aload_n zi_128_19 rfl ?_
      refine z_getfield zi_128_20 zm_f2 ?_
      refine z_iload_n zi_128_21 rfl ?_
      refine z_iaload (n := n) zi_128_22 rfl (by omega) (by omega) (by omega) ?_
      rw [zup_o (by omega), f' 52 (by omega) (by omega), h.r (by omega)]
      refine z_imul zi_128_23 ?_
      refine z_iaload (n := 6 * gR g n) zi_128_24 rfl (by omega) (by omega) (by omega) ?_
      rw [zup_o (by omega), f' 51 (by omega) (by omega), h.k hr.1]
      refine z_iconst zi_128_25 ?_
      have fin : ∀ v : Int, way * gB g n = v → ZX d 128 31 [(3, .int (zi n)), (2, .int (zi (way * gA g n))), (0, .ref 50), (1, .int (zi way))] [.int (zi v), .int (zi n), .ref 58] (zup t' 57 n (way * gA g n)) (zKv Kv) := by
        intro v ev
        refine z_iastore (n := n) zi_128_31 rfl (by omega) (by omega) (by omega) ?_
        refine z_aload_n zi_128_32 rfl ?_
        refine z_getfield zi_128_33 zm_f14 ?_
        refine z_iload_n zi_128_34 rfl ?_
        refine z_iaload (n := n) zi_128_35 rfl (by omega) (by omega) (by omega) ?_
        rw [zup_s]
        refine z_ineg zi_128_36 ?_
        refine z_istore_n zi_128_37 rfl ?_
        refine z_iinc zi_128_38 rfl rfl ?_
        refine z_goto zi_128_39 ?_
        refine z_loc (lv' := [(3, .int (zi ((n + 1 : Nat) : Int))), (2, .int (zi (-v))), (0, .ref 50), (1, .int (zi way))]) rfl ?_
        rw [← ev, ← eA]
        refine ih (n + 1) _ (by omega) (fun i hi => ?_) (fun q q1 q2 => by rw [zup_o q2, zup_o q1]; exact f' q q1 q2)
        rw [zup_o (show 57 ≠ 58 by omega), zup_at, zup_at, zup_o (show 58 ≠ 57 by omega)]
        by_cases z : i = n
        · rw [if_pos z, if_pos z, z]
          exact ⟨rfl, rfl⟩
        · rw [if_neg z, if_neg z]
          exact hy' i (by omega)
      refine z_icmp_ne zi_128_26 (by omega) (fun c => ?_) (fun c => ?_)
      · refine z_iload_n zi_128_29 rfl ?_
        refine z_ineg zi_128_30 ?_
        exact fin _ (by rw [eB, if_neg c, Int.mul_neg])
      · refine z_iload_n zi_128_27 rfl ?_
        refine z_goto zi_128_28 ?_
        exact fin _ (by rw [eB, if_pos (by omega)])
  refine z_iload_n zi_128_0 rfl ?_
  refine z_istore_n zi_128_1 rfl ?_
  refine z_iconst zi_128_2 ?_
  refine z_istore_n zi_128_3 rfl ?_
  refine z_loc (lv' := [(3, .int (zi ((0 : Nat) : Int))), (2, .int (zi way)), (0, .ref 50), (1, .int (zi way))]) rfl ?_
  have e0 : way = way * gA g 0 := by rw [gA_0, Int.mul_one]
  refine z_lv (lv' := [(3, .int (zi ((0 : Nat) : Int))), (2, .int (zi (way * gA g 0))), (0, .ref 50), (1, .int (zi way))]) (by rw [← e0]) ?_
  exact loop (gL g) 0 t (by omega) (fun i hi => by omega) (fun _ _ _ => rfl)
theorem m_lockedAt {way : Int} (h : zRS t g) (hw : gWF g) (hy : way = 1 ∨ way = -1) (hy' : zWy t way g (gL g)) (k : K (glN g way (gL g)) t) : ZX (d + 1) 129 0 [(0, .ref 50)] [] t (zKi K) := by
  have hn := hw.n
  have loop : ∀ (j n : Nat), n + j = gL g → ZX (d + 1) 129 4 [(2, .int (zi n)), (1, .int (zi (glN g way n))), (0, .ref 50)] [] t (zKi K) := by
    intro j
    induction j with
    | zero =>
      intro n e
      have e1 : n = gL g := by omega
      subst e1
      refine z_iload_n zi_129_4 rfl ?_
      refine z_aload_n zi_129_5 rfl ?_
      refine z_getfield zi_129_6 zm_f4 ?_
      rw [h.l]
      refine z_icmp_ge_t zi_129_7 (by omega) (by omega) ?_
      refine z_iload_n zi_129_31 rfl ?_
      refine z_ireturn zi_129_32 rfl k
    | succ j ih =>
      intro n e
      have hr := hw.r (p := n) (by omega)
      have hA := zpm hy (gA_pm g n)
      have hB := zpm hy (gB_pm g n)
      have hs2 := glN_s g way n
      have ih := ih (n + 1) (by omega)
      refine z_iload_n zi_129_4 rfl ?_
      refine z_aload_n zi_129_5 rfl ?_
      refine z_getfield zi_129_6 zm_f4 ?_
      rw [h.l]
      refine z_icmp_ge_f zi_129_7 (by omega) (by omega) ?_
      have stay : ¬ ((gK g (gR g n) = 1 ∨ gK g (gR g n) = 3) ∧ (way * gA g n < 0 ∨ way * gB g n < 0)) → ZX (d + 1) 129 27 [(2, .int (zi n)), (1, .int (zi (glN g way n))), (0, .ref 50)] [] t (zKi K) := by
        intro q
        rw [if_neg q] at hs2
        rw [hs2] at ih
        refine z_iload_n zi_129_27 rfl ?_
        refine z_istore_n zi_129_28 rfl ?_
        refine z_iinc zi_129_29 rfl rfl ?_
        refine z_goto zi_129_30 ?_
        refine z_loc (lv' := [(2, .int (zi ((n + 1 : Nat) : Int))), (1, .int (zi (glN g way n))), (0, .ref 50)]) rfl ?_
        exact ih
      have take : ((gK g (gR g n) = 1 ∨ gK g (gR g n) = 3) ∧ (way * gA g n < 0 ∨ way * gB g n < 0)) → ZX (d + 1) 129 25 [(2, .int (zi n)), (1, .int (zi (glN g way n))), (0, .ref 50)] [] t (zKi K) := by
        intro q
        rw [if_pos q] at hs2
        rw [hs2] at ih
        refine z_iload_n zi_129_25 rfl ?_
        refine z_goto zi_129_26 ?_
        refine z_istore_n zi_129_28 rfl ?_
        refine z_iinc zi_129_29 rfl rfl ?_
        refine z_goto zi_129_30 ?_
        refine z_loc (lv' := [(2, .int (zi ((n + 1 : Nat) : Int))), (1, .int (zi n)), (0, .ref 50)]) rfl ?_
        exact ih
      refine z_aload_n zi_129_8 rfl ?_
      refine z_aload_n zi_129_9 rfl ?_
      refine z_getfield zi_129_10 zm_f2 ?_
      refine z_iload_n zi_129_11 rfl ?_
      refine z_iaload (n := n) zi_129_12 rfl (by omega) (by omega) (by omega) ?_
      rw [h.r (by omega)]
      refine z_cv1i zi_129_13 rfl rfl ⟨rfl, Nat.le_of_ble_eq_true rfl, Nat.le_of_ble_eq_true rfl⟩ (m_isPawled (s := gR g n) h hw rfl hr.1 (fun q => ?_) (fun q => ?_))
      · refine z_if_eq_f zi_129_14 (by omega) (by omega) ?_
        refine z_aload_n zi_129_15 rfl ?_
        refine z_getfield zi_129_16 zm_f13 ?_
        refine z_iload_n zi_129_17 rfl ?_
        refine z_iaload (n := n) zi_129_18 rfl (by omega) (by omega) (by omega) ?_
        rw [(hy' n (by omega)).1]
        refine z_if_lt zi_129_19 (by omega) (fun c => ?_) (fun c => ?_)
        · exact take ⟨q, Or.inl c⟩
        · refine z_aload_n zi_129_20 rfl ?_
          refine z_getfield zi_129_21 zm_f14 ?_
          refine z_iload_n zi_129_22 rfl ?_
          refine z_iaload (n := n) zi_129_23 rfl (by omega) (by omega) (by omega) ?_
          rw [(hy' n (by omega)).2]
          refine z_if_ge zi_129_24 (by omega) (fun c2 => ?_) (fun c2 => ?_)
          · exact stay (by omega)
          · exact take ⟨q, Or.inr (by omega)⟩
      · refine z_if_eq_t zi_129_14 (by omega) (by omega) ?_
        exact stay (fun z => q z.1)
  refine z_bipush zi_129_0 (by decide) ?_
  refine z_istore_n zi_129_1 rfl ?_
  refine z_iconst zi_129_2 ?_
  refine z_istore_n zi_129_3 rfl ?_
  refine z_loc (lv' := [(2, .int (zi ((0 : Nat) : Int))), (1, .int (zi (glN g way 0))), (0, .ref 50)]) rfl ?_
  exact loop (gL g) 0 (by omega)
theorem m_isOdd {way : Int} (h : zRS t g) (hw : gWF g) (hy : way = 1 ∨ way = -1) (hy' : zWy t way g (gL g)) (kt : gO g = 1 ∧ gB g (gL g - 1) = 1 → K 1 t) (kf : ¬ (gO g = 1 ∧ gB g (gL g - 1) = 1) → K 0 t) : ZX d 130 0 [(0, .ref 50)] [] t (zKi K) := by
  have hn := hw.n
  have ho := hw.o
  refine z_aload_n zi_130_0 rfl ?_
  refine z_getfield zi_130_1 zm_f6 ?_
  rw [h.o]
  refine z_if_eq zi_130_2 (by omega) (fun c => ?_) (fun c => ?_)
  · refine z_iconst zi_130_17 ?_
    refine z_zreturn zi_130_18 rfl (by omega) (kf (by omega))
  · have ho1 : gO g = 1 := by omega
    have hL := ho.2 ho1
    have hB := gB_pm g (gL g - 1)
    have e0 : way * gA g 0 = way := by rw [gA_0, Int.mul_one]
    have e1 : gB g (gL g - 1) = 1 → way * gB g (gL g - 1) = way := fun z => by rw [z, Int.mul_one]
    have e2 : gB g (gL g - 1) = -1 → way * gB g (gL g - 1) = -way := fun z => by rw [z, Int.mul_neg, Int.mul_one]
    refine z_aload_n zi_130_3 rfl ?_
    refine z_getfield zi_130_4 zm_f13 ?_
    refine z_iconst zi_130_5 ?_
    refine z_iaload (n := 0) zi_130_6 rfl (by omega) (by omega) (by omega) ?_
    rw [(hy' 0 (by omega)).1, e0]
    refine z_aload_n zi_130_7 rfl ?_
    refine z_getfield zi_130_8 zm_f14 ?_
    refine z_aload_n zi_130_9 rfl ?_
    refine z_getfield zi_130_10 zm_f4 ?_
    rw [h.l]
    refine z_iconst zi_130_11 ?_
    refine z_isub zi_130_12 ?_
    refine z_iaload (n := gL g - 1) zi_130_13 rfl (by omega) (by omega) (by omega) ?_
    rw [(hy' (gL g - 1) (by omega)).2]
    refine z_icmp_ne zi_130_14 (by omega) (fun q => ?_) (fun q => ?_)
    · refine z_iconst zi_130_17 ?_
      refine z_zreturn zi_130_18 rfl (by omega) (kf (fun z => by have := e1 z.2; omega))
    · refine z_iconst zi_130_15 ?_
      refine z_goto zi_130_16 ?_
      refine z_zreturn zi_130_18 rfl (by omega) (kt ⟨ho1, by rcases hB with z | z; exact z; (have := e2 z; omega)⟩)
theorem m_isLocked {way : Int} (h : zRS t g) (hw : gWF g) (hy : way = 1 ∨ way = -1) (hy' : zWy t way g (gL g)) (kt : gLk g way ≠ 0 → K 1 t) (kf : gLk g way = 0 → K 0 t) : ZX (d + 2) 131 0 [(0, .ref 50)] [] t (zKi K) := by
  have hn := hw.n
  have hr := glN_rng g way (gL g)
  refine z_aload_n zi_131_0 rfl ?_
  refine z_cv0i zi_131_1  rfl ⟨rfl, Nat.le_of_ble_eq_true rfl, Nat.le_of_ble_eq_true rfl⟩ (m_isOdd h hw hy hy' (fun q => ?_) (fun q => ?_))
  · refine z_if_ne_t zi_131_2 (by omega) (by omega) ?_
    refine z_iconst zi_131_6 ?_
    refine z_goto zi_131_7 ?_
    refine z_zreturn zi_131_9 rfl (by omega) (kt (by unfold gLk; rw [if_pos q]; omega))
  · refine z_if_ne_f zi_131_2 (by omega) (by omega) ?_
    unfold gLk at kt kf
    rw [if_neg q] at kt kf
    refine z_aload_n zi_131_3 rfl ?_
    refine z_cv0i zi_131_4  rfl ⟨rfl, Nat.le_of_ble_eq_true rfl, Nat.le_of_ble_eq_true rfl⟩ (m_lockedAt h hw hy hy' ?_)
    unfold glN at hr ⊢
    cases e : glk g way (gL g) with
    | none =>
      rw [e] at kt kf hr
      dsimp only at kt kf hr ⊢
      refine z_if_lt_t zi_131_5 (by omega) (by omega) ?_
      refine z_iconst zi_131_8 ?_
      refine z_zreturn zi_131_9 rfl (by omega) (kf rfl)
    | some p =>
      rw [e] at kt kf hr
      dsimp only at kt kf hr ⊢
      refine z_if_lt_f zi_131_5 (by omega) (by omega) ?_
      refine z_iconst zi_131_6 ?_
      refine z_goto zi_131_7 ?_
      refine z_zreturn zi_131_9 rfl (by omega) (kt (by omega))
theorem m_wayForBack (h : zRS t g) (hw : gWF g) (hL : 0 < gL g) (k : ∀ t', zWy t' 1 g (gL g) → (∀ q, q ≠ 57 → q ≠ 58 → t' q = t q) → K (gB g (gL g - 1)) t') : ZX (d + 1) 132 0 [(0, .ref 50)] [] t (zKi K) := by
  have hn := hw.n
  refine z_aload_n zi_132_0 rfl ?_
  refine z_iconst zi_132_1 ?_
  refine z_cv1v zi_132_2 rfl rfl ⟨rfl, Nat.le_of_ble_eq_true rfl, Nat.le_of_ble_eq_true rfl⟩ (m_findWays h hw (Or.inl rfl) (fun t' h1 f1 => ?_))
  refine z_aload_n zi_132_3 rfl ?_
  refine z_getfield zi_132_4 zm_f14 ?_
  refine z_aload_n zi_132_5 rfl ?_
  refine z_getfield zi_132_6 zm_f4 ?_
  rw [f1 50 (by omega) (by omega), h.l]
  refine z_iconst zi_132_7 ?_
  refine z_isub zi_132_8 ?_
  refine z_iaload (n := gL g - 1) zi_132_9 rfl (by omega) (by omega) (by omega) ?_
  rw [(h1 (gL g - 1) (by omega)).2, Int.one_mul]
  refine z_ireturn zi_132_10 rfl (k t' h1 f1)
theorem m_round {a b n : Int} (h1 : -1000000 ≤ a + b ∧ a + b ≤ 1000000) (h2 : 0 < n ∧ n < 1000000) (k : K ((a + b) % n) t) : ZX d 133 0 [(0, .int (zi a)), (1, .int (zi b)), (2, .int (zi n))] [] t (zKi K) := by
  rw [← zfm2 h2.1] at k
  have h3 := Int.tmod_lt_of_pos (a + b) h2.1
  have h4 := Int.lt_tmod_of_pos (a + b) h2.1
  refine z_iload_n zi_133_0 rfl ?_
  refine z_iload_n zi_133_1 rfl ?_
  refine z_iadd zi_133_2 ?_
  refine z_iload_n zi_133_3 rfl ?_
  refine z_irem zi_133_4 (by omega) ?_
  refine z_istore_n zi_133_5 rfl ?_
  refine z_iload_n zi_133_6 rfl ?_
  refine z_if_ge zi_133_7 (by omega) (fun c => ?_) (fun c => ?_)
  · refine z_iload_n zi_133_12 rfl ?_
    rw [if_neg (by omega)] at k
    refine z_ireturn zi_133_13 rfl k
  · refine z_iload_n zi_133_8 rfl ?_
    refine z_iload_n zi_133_9 rfl ?_
    refine z_iadd zi_133_10 ?_
    refine z_goto zi_133_11 ?_
    rw [if_pos (by omega)] at k
    refine z_ireturn zi_133_13 rfl k
theorem m_turnAll {way b : Int} (h : zRS t g) (hw : gWF g) (hy : way = 1 ∨ way = -1) (hy' : zWy t way g (gL g)) (hb : -99 ≤ b ∧ b ≤ 99) (k : ∀ t', zRS t' (gturn g (way * b)) → (∀ q, q ≠ 51 → t' q = t q) → Kv t') : ZX (d + 1) 134 0 [(0, .ref 50), (1, .int (zi b))] [] t (zKv Kv) := by
  have hn := hw.n
  have pr : ∀ x : Int, x = 1 ∨ x = -1 → -99 ≤ x * b ∧ x * b ≤ 99 := fun x hx => by
    rcases hx with rfl | rfl
    · rw [Int.one_mul]; exact hb
    · rw [Int.neg_mul, Int.one_mul]; omega
  have loop : ∀ (j n : Nat) (t' : zMI), n + j = gL g → zRS t' (gsM g (gtm g (way * b) n)) → (∀ q, q ≠ 51 → t' q = t q) → ZX (d + 1) 134 2 [(2, .int (zi n)), (0, .ref 50), (1, .int (zi b))] [] t' (zKv Kv) := by
    intro j
    induction j with
    | zero =>
      intro n t' e h' f'
      have e1 : n = gL g := by omega
      subst e1
      refine z_iload_n zi_134_2 rfl ?_
      refine z_aload_n zi_134_3 rfl ?_
      refine z_getfield zi_134_4 zm_f4 ?_
      rw [f' 50 (by omega), h.l]
      refine z_icmp_ge_t zi_134_5 (by omega) (by omega) ?_
      refine z_vreturn zi_134_82 rfl (k t' h' f')
    | succ j ih =>
      intro n t' e h' f'
      have hr := hw.r (p := n) (by omega)
      have hA := pr _ (zpm hy (gA_pm g n))
      have hB := pr _ (zpm hy (gB_pm g n))
      have hw' : gWF (gsM g (gtm g (way * b) n)) := ⟨hw.1, hw.2.1, hw.2.2.1, hw.2.2.2.1, fun s w hs hu => ⟨(hw.t hs hu).1, (hw.t hs hu).2.1, (gtm_wf hw _ _ hs hu).1, (gtm_wf hw _ _ hs hu).2⟩, hw.2.2.2.2.2.1, hw.2.2.2.2.2.2.1, hw.2.2.2.2.2.2.2⟩
      have t0 := hw.t (s := gR g n) (w := gF g n) hr.1 hr.2
      have t1 := hw.t (s := gR g n) (w := 1 - gF g n) hr.1 (by omega)
      have m0 : t' 51 (6 * gR g n + 3 + gF g n) = gM g (gR g n) (gF g n) := (h'.m (s := gR g n) (w := gF g n) hr.1 hr.2).trans (gtm_new hw (by omega))
      have m1 : t' 51 (6 * gR g n + 3 + (1 - gF g n)) = gM g (gR g n) (1 - gF g n) := (h'.m (s := gR g n) (w := 1 - gF g n) hr.1 (by omega)).trans (gtm_new hw (by omega))
      refine z_iload_n zi_134_2 rfl ?_
      refine z_aload_n zi_134_3 rfl ?_
      refine z_getfield zi_134_4 zm_f4 ?_
      rw [f' 50 (by omega), h.l]
      refine z_icmp_ge_f zi_134_5 (by omega) (by omega) ?_
      refine z_aload_n zi_134_6 rfl ?_
      refine z_getfield zi_134_7 zm_f2 ?_
      refine z_iload_n zi_134_8 rfl ?_
      refine z_iaload (n := n) zi_134_9 rfl (by omega) (by omega) (by omega) ?_
      rw [f' 52 (by omega), h.r (by omega)]
      refine z_istore_n zi_134_10 rfl ?_
      refine z_aload_n zi_134_11 rfl ?_
      refine z_getfield zi_134_12 zm_f3 ?_
      refine z_iload_n zi_134_13 rfl ?_
      refine z_iaload (n := n) zi_134_14 rfl (by omega) (by omega) (by omega) ?_
      rw [f' 53 (by omega), h.f (by omega)]
      refine z_istore zi_134_15 rfl ?_
      refine z_aload_n zi_134_16 rfl ?_
      refine z_getfield zi_134_17 zm_f0 ?_
      refine z_bipush zi_134_18 (by decide) ?_
      refine z_iload_n zi_134_19 rfl ?_
      refine z_imul zi_134_20 ?_
      refine z_iconst zi_134_21 ?_
      refine z_iadd zi_134_22 ?_
      refine z_iload zi_134_23 rfl ?_
      refine z_iadd zi_134_24 ?_
      refine z_aload_n zi_134_25 rfl ?_
      refine z_getfield zi_134_26 zm_f0 ?_
      refine z_bipush zi_134_27 (by decide) ?_
      refine z_iload_n zi_134_28 rfl ?_
      refine z_imul zi_134_29 ?_
      refine z_iconst zi_134_30 ?_
      refine z_iadd zi_134_31 ?_
      refine z_iload zi_134_32 rfl ?_
      refine z_iadd zi_134_33 ?_
      refine z_iaload (n := 6 * gR g n + 3 + gF g n) zi_134_34 rfl (by omega) (by omega) (by omega) ?_
      rw [m0]
      refine z_aload_n zi_134_35 rfl ?_
      refine z_getfield zi_134_36 zm_f13 ?_
      refine z_iload_n zi_134_37 rfl ?_
      refine z_iaload (n := n) zi_134_38 rfl (by omega) (by omega) (by omega) ?_
      rw [f' 57 (by omega), (hy' n (by omega)).1]
      refine z_iload_n zi_134_39 rfl ?_
      refine z_imul zi_134_40 ?_
      refine z_aload_n zi_134_41 rfl ?_
      refine z_iload_n zi_134_42 rfl ?_
      refine z_iload zi_134_43 rfl ?_
      refine z_cv2i zi_134_44 rfl rfl rfl ⟨rfl, Nat.le_of_ble_eq_true rfl, Nat.le_of_ble_eq_true rfl⟩ (m_teeth (s := gR g n) (w := gF g n) h' hw' rfl hr.1 rfl hr.2 ?_)
      refine z_cs3i zi_134_45 rfl rfl rfl ⟨by decide, rfl, Nat.le_of_ble_eq_true rfl, Nat.le_of_ble_eq_true rfl⟩ (m_round (by omega) (by show 0 < gT g (gR g n) (gF g n) ∧ gT g (gR g n) (gF g n) < 1000000; omega) ?_)
      refine z_iastore (n := 6 * gR g n + 3 + gF g n) zi_134_46 rfl (by omega) (by omega) (by omega) ?_
      have h2 := zRS_M h' (s := gR g n) (w := gF g n) hr.1 hr.2 ((gM g (gR g n) (gF g n) + way * gA g n * b) % gT (gsM g (gtm g (way * b) n)) (gR g n) (gF g n))
      refine z_aload_n zi_134_47 rfl ?_
      refine z_getfield zi_134_48 zm_f0 ?_
      refine z_bipush zi_134_49 (by decide) ?_
      refine z_iload_n zi_134_50 rfl ?_
      refine z_imul zi_134_51 ?_
      refine z_iconst zi_134_52 ?_
      refine z_iadd zi_134_53 ?_
      refine z_iload zi_134_54 rfl ?_
      refine z_isub zi_134_55 ?_
      refine z_aload_n zi_134_56 rfl ?_
      refine z_getfield zi_134_57 zm_f0 ?_
      refine z_bipush zi_134_58 (by decide) ?_
      refine z_iload_n zi_134_59 rfl ?_
      refine z_imul zi_134_60 ?_
      refine z_iconst zi_134_61 ?_
      refine z_iadd zi_134_62 ?_
      refine z_iload zi_134_63 rfl ?_
      refine z_isub zi_134_64 ?_
      refine z_iaload (n := 6 * gR g n + 3 + (1 - gF g n)) zi_134_65 rfl (by omega) (by omega) (by omega) ?_
      rw [zup_n (by omega), m1]
      refine z_aload_n zi_134_66 rfl ?_
      refine z_getfield zi_134_67 zm_f14 ?_
      refine z_iload_n zi_134_68 rfl ?_
      refine z_iaload (n := n) zi_134_69 rfl (by omega) (by omega) (by omega) ?_
      rw [zup_o (by omega), f' 58 (by omega), (hy' n (by omega)).2]
      refine z_iload_n zi_134_70 rfl ?_
      refine z_imul zi_134_71 ?_
      refine z_aload_n zi_134_72 rfl ?_
      refine z_iload_n zi_134_73 rfl ?_
      refine z_iconst zi_134_74 ?_
      refine z_iload zi_134_75 rfl ?_
      refine z_isub zi_134_76 ?_
      have hw2 : gWF (gsM (gsM g (gtm g (way * b) n)) (fup2 (gM (gsM g (gtm g (way * b) n))) (gR g n) (gF g n) ((gM g (gR g n) (gF g n) + way * gA g n * b) % gT (gsM g (gtm g (way * b) n)) (gR g n) (gF g n)))) := gsM_wf hw' (fun _ _ => ⟨Int.emod_nonneg _ (by show gT g (gR g n) (gF g n) ≠ 0; omega), Int.emod_lt_of_pos _ (by show 0 < gT g (gR g n) (gF g n); omega)⟩)
      refine z_cv2i zi_134_77 rfl rfl rfl ⟨rfl, Nat.le_of_ble_eq_true rfl, Nat.le_of_ble_eq_true rfl⟩ (m_teeth (s := gR g n) (w := 1 - gF g n) h2 hw2 rfl hr.1 (by omega) (by omega) ?_)
      refine z_cs3i zi_134_78 rfl rfl rfl ⟨by decide, rfl, Nat.le_of_ble_eq_true rfl, Nat.le_of_ble_eq_true rfl⟩ (m_round (by omega) (by show 0 < gT g (gR g n) (1 - gF g n) ∧ gT g (gR g n) (1 - gF g n) < 1000000; omega) ?_)
      refine z_iastore (n := 6 * gR g n + 3 + (1 - gF g n)) zi_134_79 rfl (by omega) (by omega) (by omega) ?_
      refine z_iinc zi_134_80 rfl rfl ?_
      refine z_goto zi_134_81 ?_
      refine z_loc (lv' := [(2, .int (zi ((n + 1 : Nat) : Int))), (0, .ref 50), (1, .int (zi b))]) rfl ?_
      have h3 := zRS_M h2 (s := gR g n) (w := 1 - gF g n) hr.1 (by omega) ((gM g (gR g n) (1 - gF g n) + way * gB g n * b) % gT (gsM g (gtm g (way * b) n)) (gR g n) (1 - gF g n))
      refine ih (n + 1) _ (by omega) (zRS_Mx (g := g) h3 (fun s w hs hw2 => ?_)) (fun q hq => by rw [zup_o hq, zup_o hq]; exact f' q hq)
      rw [gtm_step]
      have c1 : way * gA g n * b = way * b * gA g n := by rw [Int.mul_assoc, Int.mul_comm (gA g n) b, ← Int.mul_assoc]
      have c2 : way * gB g n * b = way * b * gB g n := by rw [Int.mul_assoc, Int.mul_comm (gB g n) b, ← Int.mul_assoc]
      show _ = fup2 (fup2 (gtm g (way * b) n) (gR g n) (gF g n) ((gM g (gR g n) (gF g n) + way * gA g n * b) % gT g (gR g n) (gF g n))) (gR g n) (1 - gF g n) ((gM g (gR g n) (1 - gF g n) + way * gB g n * b) % gT g (gR g n) (1 - gF g n)) s w
      unfold fup2
      rw [c1, c2]
      by_cases z : s = gR g n
      · rw [if_pos z]
        by_cases z2 : w = gF g n
        · rw [if_pos z2, if_neg (by omega), if_pos ⟨z, z2⟩, z, z2]
        · have z3 : w = 1 - gF g n := by omega
          rw [if_neg z2, if_pos ⟨z, z3⟩, z, z3]
      · rw [if_neg z, if_neg (fun y => z y.1), if_neg (fun y => z y.1)]
  refine z_iconst zi_134_0 ?_
  refine z_istore_n zi_134_1 rfl ?_
  refine z_loc (lv' := [(2, .int (zi ((0 : Nat) : Int))), (0, .ref 50), (1, .int (zi b))]) rfl ?_
  exact loop (gL g) 0 t (by omega) (zRS_Mx (m := gM g) h (fun s w _ _ => rfl)) (fun _ _ => rfl)
theorem m_upMarks (h : zRS t g) (hw : gWF g) (k : K (gup g (gL g)) t) : ZX d 135 0 [(0, .ref 50)] [] t (zKi K) := by
  have hn := hw.n
  have loop : ∀ (j n : Nat), n + j = gL g → ZX d 135 4 [(2, .int (zi n)), (1, .int (zi (gup g n))), (0, .ref 50)] [] t (zKi K) := by
    intro j
    induction j with
    | zero =>
      intro n e
      have e1 : n = gL g := by omega
      subst e1
      refine z_iload_n zi_135_4 rfl ?_
      refine z_aload_n zi_135_5 rfl ?_
      refine z_getfield zi_135_6 zm_f4 ?_
      rw [h.l]
      refine z_icmp_ge_t zi_135_7 (by omega) (by omega) ?_
      refine z_iload_n zi_135_44 rfl ?_
      refine z_ireturn zi_135_45 rfl k
    | succ j ih =>
      intro n e
      have hr := hw.r (p := n) (by omega)
      have t0 := hw.t (s := gR g n) (w := 0) hr.1 (by omega)
      have t1 := hw.t (s := gR g n) (w := 1) hr.1 (by omega)
      have m0 : t 51 (6 * gR g n + 3) = gM g (gR g n) 0 := h.m (w := 0) hr.1 (by omega)
      have m1 : t 51 (6 * gR g n + 4) = gM g (gR g n) 1 := h.m (w := 1) hr.1 (by omega)
      have hg := gup_rng g n
      have es : gup g (n + 1) = gup g n + ((if gM g (gR g n) 0 = 0 then 1 else 0) + (if gM g (gR g n) 1 = 0 then 1 else 0)) := rfl
      have ih := ih (n + 1) (by omega)
      refine z_iload_n zi_135_4 rfl ?_
      refine z_aload_n zi_135_5 rfl ?_
      refine z_getfield zi_135_6 zm_f4 ?_
      rw [h.l]
      refine z_icmp_ge_f zi_135_7 (by omega) (by omega) ?_
      have second : ∀ x : Int, x = (if gM g (gR g n) 0 = 0 then 1 else 0) → ZX d 135 24 [(2, .int (zi n)), (1, .int (zi (gup g n))), (0, .ref 50)] [.int (zi x), .int (zi (gup g n))] t (zKi K) := by
        intro x hx
        refine z_aload_n zi_135_24 rfl ?_
        refine z_getfield zi_135_25 zm_f0 ?_
        refine z_bipush zi_135_26 (by decide) ?_
        refine z_aload_n zi_135_27 rfl ?_
        refine z_getfield zi_135_28 zm_f2 ?_
        refine z_iload_n zi_135_29 rfl ?_
        refine z_iaload (n := n) zi_135_30 rfl (by omega) (by omega) (by omega) ?_
        rw [h.r (by omega)]
        refine z_imul zi_135_31 ?_
        refine z_iconst zi_135_32 ?_
        refine z_iadd zi_135_33 ?_
        refine z_iaload (n := 6 * gR g n + 4) zi_135_34 rfl (by omega) (by omega) (by omega) ?_
        rw [m1]
        have fin : ∀ y : Int, y = (if gM g (gR g n) 1 = 0 then 1 else 0) → ZX d 135 39 [(2, .int (zi n)), (1, .int (zi (gup g n))), (0, .ref 50)] [.int (zi y), .int (zi x), .int (zi (gup g n))] t (zKi K) := by
          intro y hy
          refine z_iadd zi_135_39 ?_
          refine z_iadd zi_135_40 ?_
          refine z_istore_n zi_135_41 rfl ?_
          refine z_iinc zi_135_42 rfl rfl ?_
          refine z_goto zi_135_43 ?_
          rw [← hx, ← hy] at es
          refine z_loc (lv' := [(2, .int (zi ((n + 1 : Nat) : Int))), (1, .int (zi (gup g n + (x + y)))), (0, .ref 50)]) rfl ?_
          rw [← es]
          exact ih
        refine z_if_ne zi_135_35 (by omega) (fun c => ?_) (fun c => ?_)
        · refine z_iconst zi_135_38 ?_
          exact fin 0 (by rw [if_neg c])
        · refine z_iconst zi_135_36 ?_
          refine z_goto zi_135_37 ?_
          exact fin 1 (by rw [if_pos (by omega)])
      refine z_iload_n zi_135_8 rfl ?_
      refine z_aload_n zi_135_9 rfl ?_
      refine z_getfield zi_135_10 zm_f0 ?_
      refine z_bipush zi_135_11 (by decide) ?_
      refine z_aload_n zi_135_12 rfl ?_
      refine z_getfield zi_135_13 zm_f2 ?_
      refine z_iload_n zi_135_14 rfl ?_
      refine z_iaload (n := n) zi_135_15 rfl (by omega) (by omega) (by omega) ?_
      rw [h.r (by omega)]
      refine z_imul zi_135_16 ?_
      refine z_iconst zi_135_17 ?_
      refine z_iadd zi_135_18 ?_
      refine z_iaload (n := 6 * gR g n + 3) zi_135_19 rfl (by omega) (by omega) (by omega) ?_
      rw [m0]
      refine z_if_ne zi_135_20 (by omega) (fun c => ?_) (fun c => ?_)
      · refine z_iconst zi_135_23 ?_
        exact second 0 (by rw [if_neg c])
      · refine z_iconst zi_135_21 ?_
        refine z_goto zi_135_22 ?_
        exact second 1 (by rw [if_pos (by omega)])
  refine z_iconst zi_135_0 ?_
  refine z_istore_n zi_135_1 rfl ?_
  refine z_iconst zi_135_2 ?_
  refine z_istore_n zi_135_3 rfl ?_
  refine z_loc (lv' := [(2, .int (zi ((0 : Nat) : Int))), (1, .int (zi (gup g 0))), (0, .ref 50)]) rfl ?_
  exact loop (gL g) 0 (by omega)
theorem m_count {w : Int} (h : zRS t g) (hw : gWF g) (r2 : -2147483648 ≤ w ∧ w < 2147483648) (k : K (oCount g w) t) : ZX (d + 1) 136 0 [(0, .ref 50), (1, .int (zi w))] [] t (zKi K) := by
  have hn := hw.n
  have ho := hw.o
  unfold oCount at k
  refine z_iload_n zi_136_0 rfl ?_
  refine z_i2l zi_136_1 (by omega) ?_
  refine z_lconst (v := 0) zi_136_2 (by decide) ?_
  refine z_ldc2_w (v := 7) zi_136_3 rfl ?_
  refine z_in zi_136_4 (by omega) (Nat.le_of_ble_eq_true rfl) (fun q1 => ?_) (fun q1 => ?_)
  · refine z_if_ne_t zi_136_5 (by omega) (by omega) ?_
    rw [if_pos q1] at k
    have loop : ∀ (j n : Nat), n + j = gN g → ZX (d + 1) 136 14 [(4, .int (zi n)), (3, .int (zi (gcnt g 1 n))), (2, .int (zi (gcnt g 0 n))), (0, .ref 50), (1, .int (zi w))] [] t (zKi K) := by
      intro j
      induction j with
      | zero =>
        intro n e
        have e1 : n = gN g := by omega
        subst e1
        refine z_iload zi_136_14 rfl ?_
        refine z_aload_n zi_136_15 rfl ?_
        refine z_getfield zi_136_16 zm_f1 ?_
        rw [h.n]
        refine z_icmp_ge_t zi_136_17 (by omega) (by omega) ?_
        refine z_iload_n zi_136_51 rfl ?_
        refine z_if_ne zi_136_52 (by omega) (fun c => ?_) (fun c => ?_)
        · rw [if_neg c] at k
          refine z_iload_n zi_136_56 rfl ?_
          refine z_iconst zi_136_57 ?_
          refine z_icmp_ne zi_136_58 (by omega) (fun c1 => ?_) (fun c1 => ?_)
          · rw [if_neg c1] at k
            refine z_iload_n zi_136_62 rfl ?_
            refine z_iconst zi_136_63 ?_
            refine z_icmp_ne zi_136_64 (by omega) (fun c2 => ?_) (fun c2 => ?_)
            · refine z_iload_n zi_136_67 rfl ?_
              refine z_iconst zi_136_68 ?_
              refine z_icmp_ne zi_136_69 (by omega) (fun c3 => ?_) (fun c3 => ?_)
              · rw [if_neg (by omega)] at k
                refine z_iload_n zi_136_72 rfl ?_
                refine z_bipush zi_136_73 (by decide) ?_
                refine z_icmp_ge zi_136_74 (by omega) (fun c4 => ?_) (fun c4 => ?_)
                · rw [if_neg (by omega)] at k
                  refine z_iload_n zi_136_82 rfl ?_
                  refine z_bipush zi_136_83 (by decide) ?_
                  refine z_icmp_ne zi_136_84 (by omega) (fun c5 => ?_) (fun c5 => ?_)
                  · rw [if_neg (by omega)] at k
                    refine z_aload_n zi_136_88 rfl ?_
                    refine z_getfield zi_136_89 zm_f6 ?_
                    rw [h.o]
                    refine z_if_eq zi_136_90 (by omega) (fun c6 => ?_) (fun c6 => ?_)
                    · refine z_iconst zi_136_93 ?_
                      rw [c6] at k
                      refine z_ireturn zi_136_94 rfl k
                    · refine z_iconst zi_136_91 ?_
                      refine z_goto zi_136_92 ?_
                      rw [show gO g = 1 by omega] at k
                      refine z_ireturn zi_136_94 rfl k
                  · rw [if_pos (by omega)] at k
                    refine z_aload_n zi_136_85 rfl ?_
                    refine z_cv0i zi_136_86  rfl ⟨rfl, Nat.le_of_ble_eq_true rfl, Nat.le_of_ble_eq_true rfl⟩ (m_upMarks h hw ?_)
                    refine z_goto zi_136_87 ?_
                    refine z_ireturn zi_136_94 rfl k
                · rw [if_pos (by omega)] at k
                  refine z_aload_n zi_136_75 rfl ?_
                  refine z_getfield zi_136_76 zm_f5 ?_
                  refine z_iload_n zi_136_77 rfl ?_
                  refine z_iconst zi_136_78 ?_
                  refine z_isub zi_136_79 ?_
                  refine z_iaload (n := (w - 4).toNat) zi_136_80 rfl (by omega) (by omega) (by omega) ?_
                  rw [h.s (by omega)]
                  refine z_goto zi_136_81 ?_
                  refine z_ireturn zi_136_94 rfl k
              · rw [if_pos (by omega), show w - 2 = 1 by omega] at k
                refine z_iload_n zi_136_70 rfl ?_
                refine z_goto zi_136_71 ?_
                refine z_ireturn zi_136_94 rfl k
            · rw [if_pos (by omega), show w - 2 = 0 by omega] at k
              refine z_iload_n zi_136_65 rfl ?_
              refine z_goto zi_136_66 ?_
              refine z_ireturn zi_136_94 rfl k
          · rw [if_pos (by omega)] at k
            refine z_aload_n zi_136_59 rfl ?_
            refine z_getfield zi_136_60 zm_f4 ?_
            rw [h.l]
            refine z_goto zi_136_61 ?_
            refine z_ireturn zi_136_94 rfl k
        · rw [if_pos (by omega)] at k
          refine z_aload_n zi_136_53 rfl ?_
          refine z_getfield zi_136_54 zm_f1 ?_
          rw [h.n]
          refine z_goto zi_136_55 ?_
          refine z_ireturn zi_136_94 rfl k
      | succ j ih =>
        intro n e
        have hh := hw.h (s := n) (by omega)
        have e0 : gcnt g 0 (n + 1) = gcnt g 0 n + (if gH g n = 0 then 1 else 0) := rfl
        have e1 : gcnt g 1 (n + 1) = gcnt g 1 n + (if gH g n = 1 then 1 else 0) := rfl
        have ih := ih (n + 1) (by omega)
        refine z_iload zi_136_14 rfl ?_
        refine z_aload_n zi_136_15 rfl ?_
        refine z_getfield zi_136_16 zm_f1 ?_
        rw [h.n]
        refine z_icmp_ge_f zi_136_17 (by omega) (by omega) ?_
        have second : ∀ x : Int, x = (if gH g n = 0 then 1 else 0) → ZX (d + 1) 136 31 [(4, .int (zi n)), (3, .int (zi (gcnt g 1 n))), (2, .int (zi (gcnt g 0 n))), (0, .ref 50), (1, .int (zi w))] [.int (zi x), .int (zi (gcnt g 0 n))] t (zKi K) := by
          intro x hx
          rw [← hx] at e0
          refine z_iadd zi_136_31 ?_
          refine z_istore_n zi_136_32 rfl ?_
          refine z_iload_n zi_136_33 rfl ?_
          refine z_aload_n zi_136_34 rfl ?_
          refine z_getfield zi_136_35 zm_f0 ?_
          refine z_bipush zi_136_36 (by decide) ?_
          refine z_iload zi_136_37 rfl ?_
          refine z_imul zi_136_38 ?_
          refine z_iconst zi_136_39 ?_
          refine z_iadd zi_136_40 ?_
          refine z_iaload (n := 6 * n + 5) zi_136_41 rfl (by omega) (by omega) (by omega) ?_
          rw [h.h (by omega)]
          refine z_iconst zi_136_42 ?_
          have fin : ∀ y : Int, y = (if gH g n = 1 then 1 else 0) → ZX (d + 1) 136 47 [(2, .int (zi (gcnt g 0 n + x))), (4, .int (zi n)), (3, .int (zi (gcnt g 1 n))), (0, .ref 50), (1, .int (zi w))] [.int (zi y), .int (zi (gcnt g 1 n))] t (zKi K) := by
            intro y hy
            rw [← hy] at e1
            refine z_iadd zi_136_47 ?_
            refine z_istore_n zi_136_48 rfl ?_
            refine z_iinc zi_136_49 rfl rfl ?_
            refine z_goto zi_136_50 ?_
            refine z_loc (lv' := [(4, .int (zi ((n + 1 : Nat) : Int))), (3, .int (zi (gcnt g 1 n + y))), (2, .int (zi (gcnt g 0 n + x))), (0, .ref 50), (1, .int (zi w))]) rfl ?_
            rw [← e0, ← e1]
            exact ih
          refine z_icmp_ne zi_136_43 (by omega) (fun c => ?_) (fun c => ?_)
          · refine z_iconst zi_136_46 ?_
            refine z_loc (lv' := [(2, .int (zi (gcnt g 0 n + x))), (4, .int (zi n)), (3, .int (zi (gcnt g 1 n))), (0, .ref 50), (1, .int (zi w))]) rfl ?_
            exact fin 0 (by rw [if_neg c])
          · refine z_iconst zi_136_44 ?_
            refine z_goto zi_136_45 ?_
            refine z_loc (lv' := [(2, .int (zi (gcnt g 0 n + x))), (4, .int (zi n)), (3, .int (zi (gcnt g 1 n))), (0, .ref 50), (1, .int (zi w))]) rfl ?_
            exact fin 1 (by rw [if_pos (by omega)])
        refine z_iload_n zi_136_18 rfl ?_
        refine z_aload_n zi_136_19 rfl ?_
        refine z_getfield zi_136_20 zm_f0 ?_
        refine z_bipush zi_136_21 (by decide) ?_
        refine z_iload zi_136_22 rfl ?_
        refine z_imul zi_136_23 ?_
        refine z_iconst zi_136_24 ?_
        refine z_iadd zi_136_25 ?_
        refine z_iaload (n := 6 * n + 5) zi_136_26 rfl (by omega) (by omega) (by omega) ?_
        rw [h.h (by omega)]
        refine z_if_ne zi_136_27 (by omega) (fun c => ?_) (fun c => ?_)
        · refine z_iconst zi_136_30 ?_
          exact second 0 (by rw [if_neg c])
        · refine z_iconst zi_136_28 ?_
          refine z_goto zi_136_29 ?_
          exact second 1 (by rw [if_pos (by omega)])
    refine z_iconst zi_136_8 ?_
    refine z_istore_n zi_136_9 rfl ?_
    refine z_iconst zi_136_10 ?_
    refine z_istore_n zi_136_11 rfl ?_
    refine z_iconst zi_136_12 ?_
    refine z_istore zi_136_13 rfl ?_
    refine z_loc (lv' := [(4, .int (zi ((0 : Nat) : Int))), (3, .int (zi (gcnt g 1 0))), (2, .int (zi (gcnt g 0 0))), (0, .ref 50), (1, .int (zi w))]) rfl ?_
    exact loop (gN g) 0 (by omega)
  · refine z_if_ne_f zi_136_5 (by omega) (by omega) ?_
    rw [if_neg q1] at k
    refine z_iconst zi_136_6 ?_
    refine z_ireturn zi_136_7 rfl k
theorem m_mesh {a b : Int} (h : -1000 ≤ a - b ∧ a - b ≤ 1000) (kt : -1 ≤ a - b ∧ a - b ≤ 1 → K 1 t) (kf : ¬ (-1 ≤ a - b ∧ a - b ≤ 1) → K 0 t) : ZX (d + 1) 137 0 [(0, .int (zi a)), (1, .int (zi b))] [] t (zKi K) := by
  refine z_iload_n zi_137_0 rfl ?_
  refine z_iload_n zi_137_1 rfl ?_
  refine z_isub zi_137_2 ?_
  refine z_i2l zi_137_3 (by omega) ?_
  refine z_ldc2_w (v := -1) zi_137_4 rfl ?_
  refine z_lconst (v := 1) zi_137_5 (by decide) ?_
  refine z_in zi_137_6 (by omega) (Nat.le_of_ble_eq_true rfl) (fun q => ?_) (fun q => ?_)
  · refine z_zreturn zi_137_7 rfl (by omega) (kt q)
  · refine z_zreturn zi_137_7 rfl (by omega) (kf q)
theorem m_mayLay {a b : Int} {s f : Nat} (h : zRS t g) (hw : gWF g) (ha : a = (s : Int)) (hs : s < gN g) (hb : b = (f : Int)) (hf : f < 2) (kt : gfit g s f → K 1 t) (kf : ¬ gfit g s f → K 0 t) : ZX (d + 2) 138 0 [(0, .ref 50), (1, .int (zi a)), (2, .int (zi b))] [] t (zKi K) := by
  have hn := hw.n
  refine z_aload_n zi_138_0 rfl ?_
  refine z_getfield zi_138_1 zm_f4 ?_
  rw [h.l]
  refine z_if_eq zi_138_2 (by omega) (fun c => ?_) (fun c => ?_)
  · refine z_iconst zi_138_27 ?_
    refine z_goto zi_138_28 ?_
    refine z_zreturn zi_138_30 rfl (by omega) (kt (Or.inl (by omega)))
  · have hr := hw.r (p := gL g - 1) (by omega)
    have t0 := hw.t (s := s) (w := f) hs hf
    have t1 := hw.t (s := gR g (gL g - 1)) (w := 1 - gF g (gL g - 1)) hr.1 (by omega)
    refine z_aload_n zi_138_3 rfl ?_
    refine z_iload_n zi_138_4 rfl ?_
    refine z_iload_n zi_138_5 rfl ?_
    refine z_cv2i zi_138_6 rfl rfl rfl ⟨rfl, Nat.le_of_ble_eq_true rfl, Nat.le_of_ble_eq_true rfl⟩ (m_teeth (s := s) (w := f) h hw ha hs hb hf ?_)
    refine z_aload_n zi_138_7 rfl ?_
    refine z_aload_n zi_138_8 rfl ?_
    refine z_getfield zi_138_9 zm_f2 ?_
    refine z_aload_n zi_138_10 rfl ?_
    refine z_getfield zi_138_11 zm_f4 ?_
    rw [h.l]
    refine z_iconst zi_138_12 ?_
    refine z_isub zi_138_13 ?_
    refine z_iaload (n := gL g - 1) zi_138_14 rfl (by omega) (by omega) (by omega) ?_
    rw [h.r (by omega)]
    refine z_iconst zi_138_15 ?_
    refine z_aload_n zi_138_16 rfl ?_
    refine z_getfield zi_138_17 zm_f3 ?_
    refine z_aload_n zi_138_18 rfl ?_
    refine z_getfield zi_138_19 zm_f4 ?_
    rw [h.l]
    refine z_iconst zi_138_20 ?_
    refine z_isub zi_138_21 ?_
    refine z_iaload (n := gL g - 1) zi_138_22 rfl (by omega) (by omega) (by omega) ?_
    rw [h.f (by omega)]
    refine z_isub zi_138_23 ?_
    refine z_cv2i zi_138_24 rfl rfl rfl ⟨rfl, Nat.le_of_ble_eq_true rfl, Nat.le_of_ble_eq_true rfl⟩ (m_teeth (s := gR g (gL g - 1)) (w := 1 - gF g (gL g - 1)) h hw rfl hr.1 (by omega) (by omega) ?_)
    refine z_cs2i zi_138_25 rfl rfl ⟨by decide, rfl, Nat.le_of_ble_eq_true rfl, Nat.le_of_ble_eq_true rfl⟩ (m_mesh (by omega) (fun q => ?_) (fun q => ?_))
    · refine z_if_eq_f zi_138_26 (by omega) (by omega) ?_
      refine z_iconst zi_138_27 ?_
      refine z_goto zi_138_28 ?_
      refine z_zreturn zi_138_30 rfl (by omega) (kt (Or.inr q))
    · refine z_if_eq_t zi_138_26 (by omega) (by omega) ?_
      refine z_iconst zi_138_29 ?_
      refine z_zreturn zi_138_30 rfl (by omega) (kf (fun z => by rcases z with z | z; omega; exact q z))
theorem m_may {s f : Int} (h : zRS t g) (hw : gWF g) (r1 : -2147483648 ≤ s ∧ s < 2147483648) (r2 : -2147483648 ≤ f ∧ f < 2147483648) (k : K (oMay g s f) t) : ZX (d + 3) 139 0 [(0, .ref 50), (1, .int (zi s)), (2, .int (zi f))] [] t (zKi K) := by
  have hn := hw.n
  have ho := hw.o
  unfold oMay at k
  refine z_aload_n zi_139_0 rfl ?_
  refine z_iload_n zi_139_1 rfl ?_
  refine z_cv1i zi_139_2 rfl rfl ⟨rfl, Nat.le_of_ble_eq_true rfl, Nat.le_of_ble_eq_true rfl⟩ (m_isStone h hw r1 (fun q1 => ?_) (fun q1 => ?_))
  · refine z_if_eq_f zi_139_3 (by omega) (by omega) ?_
    refine z_iload_n zi_139_4 rfl ?_
    refine z_i2l zi_139_5 (by omega) ?_
    refine z_lconst (v := 0) zi_139_6 (by decide) ?_
    refine z_lconst (v := 1) zi_139_7 (by decide) ?_
    refine z_in zi_139_8 (by omega) (Nat.le_of_ble_eq_true rfl) (fun q2 => ?_) (fun q2 => ?_)
    · refine z_if_ne_t zi_139_9 (by omega) (by omega) ?_
      rw [if_pos ⟨q1, q2⟩] at k
      obtain ⟨s, rfl⟩ : ∃ s' : Nat, s = s' := ⟨s.toNat, by omega⟩
      obtain ⟨f, rfl⟩ : ∃ f' : Nat, f = f' := ⟨f.toNat, by omega⟩
      rw [Int.toNat_natCast, Int.toNat_natCast] at k
      have hP := gPi_rng hw s
      refine z_aload_n zi_139_12 rfl ?_
      refine z_iload_n zi_139_13 rfl ?_
      refine z_cv1i zi_139_14 rfl rfl ⟨rfl, Nat.le_of_ble_eq_true rfl, Nat.le_of_ble_eq_true rfl⟩ (m_placeOf h hw rfl (by omega) ?_)
      refine z_if_ge zi_139_15 (by omega) (fun c => ?_) (fun c => ?_)
      · rw [if_pos (Or.inl c)] at k
        refine z_bipush zi_139_19 (by decide) ?_
        refine z_goto zi_139_20 ?_
        refine z_ireturn zi_139_29 rfl k
      · refine z_aload_n zi_139_16 rfl ?_
        refine z_getfield zi_139_17 zm_f6 ?_
        rw [h.o]
        refine z_if_eq zi_139_18 (by omega) (fun c2 => ?_) (fun c2 => ?_)
        · rw [if_neg (by omega)] at k
          refine z_aload_n zi_139_21 rfl ?_
          refine z_iload_n zi_139_22 rfl ?_
          refine z_iload_n zi_139_23 rfl ?_
          refine z_cv2i zi_139_24 rfl rfl rfl ⟨rfl, Nat.le_of_ble_eq_true rfl, Nat.le_of_ble_eq_true rfl⟩ (m_mayLay h hw rfl (by omega) rfl (by omega) (fun q => ?_) (fun q => ?_))
          · refine z_if_eq_f zi_139_25 (by omega) (by omega) ?_
            rw [if_pos q] at k
            refine z_iconst zi_139_26 ?_
            refine z_goto zi_139_27 ?_
            refine z_ireturn zi_139_29 rfl k
          · refine z_if_eq_t zi_139_25 (by omega) (by omega) ?_
            rw [if_neg q] at k
            refine z_iconst zi_139_28 ?_
            refine z_ireturn zi_139_29 rfl k
        · rw [if_pos (by omega)] at k
          refine z_bipush zi_139_19 (by decide) ?_
          refine z_goto zi_139_20 ?_
          refine z_ireturn zi_139_29 rfl k
    · refine z_if_ne_f zi_139_9 (by omega) (by omega) ?_
      rw [if_neg (fun z => q2 z.2)] at k
      refine z_iconst zi_139_10 ?_
      refine z_ireturn zi_139_11 rfl k
  · refine z_if_eq_t zi_139_3 (by omega) (by omega) ?_
    rw [if_neg (fun z => q1 z.1)] at k
    refine z_iconst zi_139_10 ?_
    refine z_ireturn zi_139_11 rfl k
end
