/-! a table: lifts, copies, clears, new stones, counts -/
def gcut (g : zG) (n : Nat) : zG := (gN g, gL g - n, gK g, gT g, gM g, gH g, gR g, gF g, gO g, gS g, gD g)
def gclr (g : zG) : zG := (0, 0, gK g, gT g, gM g, gH g, gR g, gF g, 0, (fun _ => 0), gD g)
def gadd (g : zG) (k a b : Int) : zG := (gN g + 1, gL g, fup (gK g) (gN g) k, fup2 (fup2 (gT g) (gN g) 0 a) (gN g) 1 b, fup2 (fup2 (gM g) (gN g) 0 0) (gN g) 1 0, fup (gH g) (gN g) (-4), gR g, gF g, gO g, gS g, gD g)
theorem zTB_cut {T : Nat} {t : zMI} {g : zG} {i : Nat} (h : zTB T t (gcut g i)) (hw : gWF g) (hh : gWH g) (hi : i < gL g) :
    zTB T (zup (zup (zup (zup t T 7 ((gL g : Int) - i - 1)) (T + 4) (gR g (gL g - i - 1)) (-4)) (T + 5) (gR g (gL g - i - 1)) (-4)) (T + 6) (gR g (gL g - i - 1)) (-4)) (gcut g (i + 1)) := by
  obtain ⟨m, hm⟩ : ∃ m, gL g = m + 1 + i := ⟨gL g - 1 - i, by omega⟩
  have e0 : gL g - i - 1 = m := by omega
  have e1 : gL (gcut g i) = m + 1 := by show gL g - i = _; omega
  have e2 : gL (gcut g (i + 1)) = m := by show gL g - (i + 1) = _; omega
  rw [e0]
  have hnone : gpl (gR g) m (gR g m) = none := gpl_of_none (fun p hp e => by
    have := hw.i p m (by omega) (by omega) e
    omega)
  have hH := hh m (by omega)
  have eP : ∀ s', gP (gcut g (i + 1)) s' = if s' = gR g m then none else gP (gcut g i) s' := fun s' => by
    unfold gP
    rw [e1, e2]
    show gpl (gR g) m s' = if s' = gR g m then none else (if gR g m = s' then some m else gpl (gR g) m s')
    by_cases q : s' = gR g m
    · rw [if_pos q, q]; exact hnone
    · rw [if_neg q, if_neg (fun z => q z.symm)]
  refine ⟨⟨?_, ?_, ?_, ?_⟩, fun s' hs' => ⟨?_, ?_, ?_, ?_⟩, fun s' w hs' hw' => ⟨?_, ?_⟩, fun p hp => ?_, ?_, ?_⟩
  · simp (disch := omega) only [zup_o, zup_n, zup_s]; exact h.n
  · simp (disch := omega) only [zup_o, zup_n, zup_s]; rw [e2]; omega
  · simp (disch := omega) only [zup_o, zup_n, zup_s]; exact h.o
  · simp (disch := omega) only [zup_o, zup_n, zup_s]; exact h.d
  · simp (disch := omega) only [zup_o]; exact h.k hs'
  · simp (disch := omega) only [zup_o]
    rw [zup_at]
    show _ = gH g s'
    by_cases q : s' = gR g m
    · rw [if_pos q, q, hH]
    · rw [if_neg q, zup_o (by omega)]; exact h.h hs'
  · rw [zup_o (k := T + 5) (by omega), zup_at]
    unfold gPi
    rw [eP]
    by_cases q : s' = gR g m
    · rw [if_pos q, if_pos q]
    · rw [if_neg q, if_neg q]
      simp (disch := omega) only [zup_o]
      exact h.p hs'
  · rw [zup_at]
    unfold gFi
    rw [eP]
    by_cases q : s' = gR g m
    · rw [if_pos q, if_pos q]
    · rw [if_neg q, if_neg q]
      simp (disch := omega) only [zup_o]
      exact h.f hs'
  · simp (disch := omega) only [zup_o]; exact h.t hs' hw'
  · simp (disch := omega) only [zup_o]; exact h.m hs' hw'
  · rw [e2] at hp
    simp (disch := omega) only [zup_o]
    exact h.r (by omega)
  · simp (disch := omega) only [zup_o]; exact h.s (w := 0) (by omega)
  · simp (disch := omega) only [zup_o]; exact h.s (w := 1) (by omega)
theorem zTB_add {T : Nat} {t : zMI} {g : zG} (h : zTB T t g) (hw : gWF g) (k a b : Int) :
    zTB T (zup (zup (zup (zup (zup (zup (zup (zup (zup t (T + 1) (gN g) k) (T + 2) (2 * gN g) a) (T + 2) (2 * gN g + 1) b) (T + 3) (2 * gN g + 0) 0) (T + 3) (2 * gN g + 1) 0) (T + 4) (gN g) (-4)) (T + 5) (gN g) (-4)) (T + 6) (gN g) (-4)) T 0 ((gN g : Int) + 1)) (gadd g k a b) := by
  have hnew : ∀ s', gP (gadd g k a b) s' = gP g s' := fun s' => rfl
  have hnone : gP g (gN g) = none := gpl_of_none (fun p hp e => by
    have := (hw.r hp).1
    omega)
  refine ⟨⟨?_, ?_, ?_, ?_⟩, fun s' hs' => ?_, fun s' w hs' hw' => ?_, fun p hp => ?_, ?_, ?_⟩
  · simp (disch := omega) only [zup_o, zup_n, zup_s]; show (gN g : Int) + 1 = ((gN g + 1 : Nat) : Int); omega
  · simp (disch := omega) only [zup_o, zup_n, zup_s]; exact h.l
  · simp (disch := omega) only [zup_o, zup_n, zup_s]; exact h.o
  · simp (disch := omega) only [zup_o, zup_n, zup_s]; exact h.d
  · have hs2 : s' < gN g + 1 := hs'
    by_cases q : s' = gN g
    · subst q
      simp (disch := omega) only [zup_o, zup_s]
      refine ⟨?_, ?_, ?_, ?_⟩
      · show k = fup (gK g) (gN g) k (gN g)
        unfold fup; rw [if_pos rfl]
      · show -4 = fup (gH g) (gN g) (-4) (gN g)
        unfold fup; rw [if_pos rfl]
      · unfold gPi; rw [hnew, hnone]
      · unfold gFi; rw [hnew, hnone]
    · simp (disch := omega) only [zup_o, zup_n]
      refine ⟨?_, ?_, ?_, ?_⟩
      · show _ = fup (gK g) (gN g) k s'
        unfold fup; rw [if_neg q]; exact h.k (by omega)
      · show _ = fup (gH g) (gN g) (-4) s'
        unfold fup; rw [if_neg q]; exact h.h (by omega)
      · exact h.p (by omega)
      · exact h.f (by omega)
  · have hs2 : s' < gN g + 1 := hs'
    have e1 : gT (gadd g k a b) s' w = fup2 (fup2 (gT g) (gN g) 0 a) (gN g) 1 b s' w := rfl
    have e2 : gM (gadd g k a b) s' w = fup2 (fup2 (gM g) (gN g) 0 0) (gN g) 1 0 s' w := rfl
    rw [e1, e2]
    unfold fup2
    simp (disch := omega) only [zup_o]
    rw [zup_at, zup_at]
    rw [zup_at, zup_at]
    by_cases q : s' = gN g
    · rcases (by omega : w = 0 ∨ w = 1) with rfl | rfl
      · rw [if_neg (by omega), if_pos (by omega), if_neg (by omega), if_pos (by omega), if_neg (by omega), if_pos (by omega), if_neg (by omega), if_pos (by omega)]
        exact ⟨rfl, rfl⟩
      · rw [if_pos (by omega), if_pos (by omega), if_pos (by omega), if_pos (by omega)]
        exact ⟨rfl, rfl⟩
    · rw [if_neg (by omega), if_neg (by omega), if_neg (by omega), if_neg (by omega), if_neg (by omega), if_neg (by omega), if_neg (by omega), if_neg (by omega)]
      simp (disch := omega) only [zup_o]
      exact ⟨h.t (by omega) hw', h.m (by omega) hw'⟩
  · simp (disch := omega) only [zup_o]; exact h.r hp
  · simp (disch := omega) only [zup_o]; exact h.s (w := 0) (by omega)
  · simp (disch := omega) only [zup_o]; exact h.s (w := 1) (by omega)
def gcnt (g : zG) (hd : Int) : Nat → Int
  | 0 => 0
  | n + 1 => gcnt g hd n + (if gH g n = hd then 1 else 0)
abbrev glp (g : zG) (hd : Int) (k : Nat) : Prop := k / 2 < gN g ∧ gH g (k / 2) = hd ∧ gfit g (k / 2) (k % 2)
def gcl (g : zG) (hd : Int) : Nat → Nat
  | 0 => 0
  | n + 1 => gcl g hd n + (if glp g hd n then 1 else 0)
theorem gcl_le (g : zG) (hd : Int) : ∀ n, gcl g hd n ≤ n
  | 0 => Nat.le_refl _
  | n + 1 => by
    have := gcl_le g hd n
    unfold gcl
    split <;> omega
theorem gcl_mono (g : zG) (hd : Int) (n : Nat) : ∀ k, gcl g hd n ≤ gcl g hd (n + k)
  | 0 => Nat.le_refl _
  | k + 1 => by
    have := gcl_mono g hd n k
    show _ ≤ gcl g hd (n + k) + _
    omega
theorem gcl_lt {g : zG} {hd : Int} {k m : Nat} (h : glp g hd k) (hm : k < m) : gcl g hd k < gcl g hd m := by
  have h1 : gcl g hd (k + 1) = gcl g hd k + 1 := by
    show gcl g hd k + (if glp g hd k then 1 else 0) = _
    rw [if_pos h]
  have h2 := gcl_mono g hd (k + 1) (m - (k + 1))
  rw [show k + 1 + (m - (k + 1)) = m by omega] at h2
  omega
theorem gcl_inj {g : zG} {hd : Int} {k k' : Nat} (h : glp g hd k) (h' : glp g hd k') (e : gcl g hd k = gcl g hd k') : k = k' := by
  rcases Nat.lt_trichotomy k k' with q | q | q
  · have := gcl_lt h q; omega
  · exact q
  · have := gcl_lt h' q; omega
section
variable {d T : Nat} {t : zMI} {g : zG} {K : Int → zMI → Prop} {Kv : zMI → Prop}
theorem s_stoneInTrainR {a : Int} {p : Nat} (hT : zTa T) (ha : a = (p : Int)) (hp : p < 12) (k : K (t (T + 7) p) t) : ZX (d + 1) 27 0 [(0, .ref T), (1, .int (zi a))] [] t (zKi K) := by
  refine z_aload_n zi_27_0 rfl ?_
  refine z_getfield zi_27_1 (zt_f8 hT) ?_
  refine z_iload_n zi_27_2 rfl ?_
  refine z_cs2i zi_27_3 rfl rfl ⟨by decide, rfl, Nat.le_of_ble_eq_true rfl, Nat.le_of_ble_eq_true rfl⟩ (s_at (zt_a7 hT) (by omega) ha (by omega) ?_)
  refine z_ireturn zi_27_4 rfl k
theorem s_liftLast {a : Int} {n : Nat} (hT : zTa T) (h : zTB T t g) (hw : gWF g) (hh : gWH g) (ha : a = (n : Int)) (hn : n ≤ 12) (k : ∀ t', zTB T t' (gtake g n) → zFr T t t' → Kv t') : ZX (d + 2) 40 0 [(0, .ref T), (1, .int (zi a))] [] t (zKv Kv) := by
  have hn12 := hw.n
  subst ha
  have fin : ∀ t' i, zTB T t' (gcut g i) → zFr T t t' → gL g - i = gL g - n → ZX (d + 2) 40 22 [(2, .int (zi i)), (0, .ref T), (1, .int (zi n))] [] t' (zKv Kv) := by
    intro t' i h' f' e
    refine z_aload_n zi_40_22 rfl ?_
    refine z_iconst zi_40_23 ?_
    refine z_putfield zi_40_24 (zt_i9 hT) (Or.inr ⟨rfl, by omega⟩) ?_
    refine z_vreturn zi_40_25 rfl (k _ ?_ (f'.up (by omega)))
    have h2 := zTB_O h' 0
    have e2 : gsO (gcut g i) 0 = gtake g n := by
      show (gN g, gL g - i, gK g, gT g, gM g, gH g, gR g, gF g, (0 : Int), gS g, gD g) = (gN g, gL g - n, gK g, gT g, gM g, gH g, gR g, gF g, (0 : Int), gS g, gD g)
      rw [e]
    rw [e2] at h2
    exact h2
  have loop : ∀ (j i : Nat), i + j = n → ∀ t', zTB T t' (gcut g i) → zFr T t t' → ZX (d + 2) 40 2 [(2, .int (zi i)), (0, .ref T), (1, .int (zi n))] [] t' (zKv Kv) := by
    intro j
    induction j with
    | zero =>
      intro i e t' h' f'
      refine z_iload_n zi_40_2 rfl ?_
      refine z_iload_n zi_40_3 rfl ?_
      refine z_icmp_ge_t zi_40_4 (by omega) (by omega) ?_
      exact fin t' i h' f' (by rw [show i = n by omega])
    | succ j ih =>
      intro i e t' h' f'
      have hl : t' T 7 = ((gL g - i : Nat) : Int) := h'.l
      refine z_iload_n zi_40_2 rfl ?_
      refine z_iload_n zi_40_3 rfl ?_
      refine z_icmp_ge_f zi_40_4 (by omega) (by omega) ?_
      refine z_aload_n zi_40_5 rfl ?_
      refine z_getfield zi_40_6 (zt_f7 hT) ?_
      rw [hl]
      refine z_if_le zi_40_7 (by omega) (fun c => ?_) (fun c => ?_)
      · exact fin t' i h' f' (by omega)
      · refine z_aload_n zi_40_8 rfl ?_
        refine z_dup zi_40_9 rfl ?_
        refine z_getfield zi_40_10 (zt_f7 hT) ?_
        rw [hl]
        refine z_iconst zi_40_11 ?_
        refine z_isub zi_40_12 ?_
        refine z_putfield zi_40_13 (zt_i7 hT) (Or.inl rfl) ?_
        refine z_aload_n zi_40_14 rfl ?_
        refine z_aload_n zi_40_15 rfl ?_
        refine z_aload_n zi_40_16 rfl ?_
        refine z_getfield zi_40_17 (zt_f7 hT) ?_
        rw [zup_s]
        refine z_cv1i zi_40_18 rfl (zt_c hT) ⟨rfl, Nat.le_of_ble_eq_true rfl, Nat.le_of_ble_eq_true rfl⟩ (s_stoneInTrainR (p := gL g - i - 1) hT (by omega) (by omega) ?_)
        have er : t' (T + 7) (gL g - i - 1) = (gR g (gL g - i - 1) : Int) := h'.r (show gL g - i - 1 < gL g - i by omega)
        rw [zup_o (by omega), er]
        have hr := hw.r (p := gL g - i - 1) (by omega)
        refine z_cv1v zi_40_19 rfl (zt_c hT) ⟨rfl, Nat.le_of_ble_eq_true rfl, Nat.le_of_ble_eq_true rfl⟩ (s_setNotLaid (s := gR g (gL g - i - 1)) hT rfl (by omega) ?_)
        refine z_iinc zi_40_20 rfl rfl ?_
        refine z_goto zi_40_21 ?_
        refine z_loc (lv' := [(2, .int (zi ((i + 1 : Nat) : Int))), (0, .ref T), (1, .int (zi n))]) rfl ?_
        have h2 := zTB_cut h' hw hh (by omega)
        have ev : ((gL g - i : Nat) : Int) - 1 = (gL g : Int) - i - 1 := by omega
        rw [ev]
        refine ih (i + 1) (by omega) _ h2 ?_
        refine (((f'.up ?_).up ?_).up ?_).up ?_ <;> omega
  refine z_iconst zi_40_0 ?_
  refine z_istore_n zi_40_1 rfl ?_
  refine z_loc (lv' := [(2, .int (zi ((0 : Nat) : Int))), (0, .ref T), (1, .int (zi n))]) rfl ?_
  exact loop n 0 (by omega) t h zFr.rf
theorem s_clear (hT : zTa T) (h : zTB T t g) (k : ∀ t', zTB T t' (gclr g) → zFr T t t' → Kv t') : ZX (d + 1) 7 0 [(0, .ref T)] [] t (zKv Kv) := by
  refine z_aload_n zi_7_0 rfl ?_
  refine z_iconst zi_7_1 ?_
  refine z_putfield zi_7_2 (zt_i0 hT) (Or.inl rfl) ?_
  refine z_aload_n zi_7_3 rfl ?_
  refine z_iconst zi_7_4 ?_
  refine z_putfield zi_7_5 (zt_i7 hT) (Or.inl rfl) ?_
  refine z_aload_n zi_7_6 rfl ?_
  refine z_iconst zi_7_7 ?_
  refine z_putfield zi_7_8 (zt_i9 hT) (Or.inr ⟨rfl, by omega⟩) ?_
  refine z_aload_n zi_7_9 rfl ?_
  refine z_getfield zi_7_10 (zt_f10 hT) ?_
  refine z_iconst zi_7_11 ?_
  refine z_iconst zi_7_12 ?_
  refine z_cs3v zi_7_13 rfl rfl rfl ⟨by decide, rfl, Nat.le_of_ble_eq_true rfl, Nat.le_of_ble_eq_true rfl⟩ (s_put (n := 0) (zt_a8 hT) (by omega) rfl (by omega) ?_)
  refine z_aload_n zi_7_14 rfl ?_
  refine z_getfield zi_7_15 (zt_f10 hT) ?_
  refine z_iconst zi_7_16 ?_
  refine z_iconst zi_7_17 ?_
  refine z_cs3v zi_7_18 rfl rfl rfl ⟨by decide, rfl, Nat.le_of_ble_eq_true rfl, Nat.le_of_ble_eq_true rfl⟩ (s_put (n := 1) (zt_a8 hT) (by omega) rfl (by omega) ?_)
  refine z_vreturn zi_7_19 rfl (k _ ?_ ?_)
  · refine ⟨⟨?_, ?_, ?_, ?_⟩, fun s' hs' => (by cases hs'), fun s' w hs' hw' => (by cases hs'), fun p hp => (by cases hp), ?_, ?_⟩
    · simp (disch := omega) only [zup_o, zup_n, zup_s]; rfl
    · simp (disch := omega) only [zup_o, zup_n, zup_s]; rfl
    · simp (disch := omega) only [zup_o, zup_n, zup_s]; rfl
    · simp (disch := omega) only [zup_o, zup_n, zup_s]; exact h.d
    · simp (disch := omega) only [zup_o, zup_n, zup_s]; rfl
    · simp (disch := omega) only [zup_o, zup_n, zup_s]; rfl
  · refine zFr.up (zFr.up (zFr.up (zFr.up (zFr.up zFr.rf ?_) ?_) ?_) ?_) ?_ <;> omega
theorem s_addStone {kd a b : Int} (hT : zTa T) (h : zTB T t g) (hw : gWF g) (hN : gN g < 12) (k : ∀ t', zTB T t' (gadd g kd a b) → zFr T t t' → K (gN g) t') : ZX (d + 2) 9 0 [(0, .ref T), (1, .int (zi kd)), (2, .int (zi a)), (3, .int (zi b))] [] t (zKi K) := by
  refine z_aload_n zi_9_0 rfl ?_
  refine z_getfield zi_9_1 (zt_f0 hT) ?_
  rw [h.n]
  refine z_istore zi_9_2 rfl ?_
  refine z_aload_n zi_9_3 rfl ?_
  refine z_getfield zi_9_4 (zt_f1 hT) ?_
  refine z_iload zi_9_5 rfl ?_
  refine z_iload_n zi_9_6 rfl ?_
  refine z_cs3v zi_9_7 rfl rfl rfl ⟨by decide, rfl, Nat.le_of_ble_eq_true rfl, Nat.le_of_ble_eq_true rfl⟩ (s_put (n := gN g) (zt_a1 hT) (by omega) rfl (by omega) ?_)
  refine z_aload_n zi_9_8 rfl ?_
  refine z_getfield zi_9_9 (zt_f2 hT) ?_
  refine z_iconst zi_9_10 ?_
  refine z_iload zi_9_11 rfl ?_
  refine z_imul zi_9_12 ?_
  refine z_iload_n zi_9_13 rfl ?_
  refine z_cs3v zi_9_14 rfl rfl rfl ⟨by decide, rfl, Nat.le_of_ble_eq_true rfl, Nat.le_of_ble_eq_true rfl⟩ (s_put (n := 2 * gN g) (zt_a2 hT) (by omega) (by omega) (by omega) ?_)
  refine z_aload_n zi_9_15 rfl ?_
  refine z_getfield zi_9_16 (zt_f2 hT) ?_
  refine z_iconst zi_9_17 ?_
  refine z_iload zi_9_18 rfl ?_
  refine z_imul zi_9_19 ?_
  refine z_iconst zi_9_20 ?_
  refine z_iadd zi_9_21 ?_
  refine z_iload_n zi_9_22 rfl ?_
  refine z_cs3v zi_9_23 rfl rfl rfl ⟨by decide, rfl, Nat.le_of_ble_eq_true rfl, Nat.le_of_ble_eq_true rfl⟩ (s_put (n := 2 * gN g + 1) (zt_a2 hT) (by omega) (by omega) (by omega) ?_)
  refine z_aload_n zi_9_24 rfl ?_
  refine z_iload zi_9_25 rfl ?_
  refine z_iconst zi_9_26 ?_
  refine z_iconst zi_9_27 ?_
  refine z_cv3v zi_9_28 rfl rfl rfl (zt_c hT) ⟨rfl, Nat.le_of_ble_eq_true rfl, Nat.le_of_ble_eq_true rfl⟩ (s_setMark (s := gN g) (w := 0) hT rfl (by omega) rfl (by omega) ?_)
  refine z_aload_n zi_9_29 rfl ?_
  refine z_iload zi_9_30 rfl ?_
  refine z_iconst zi_9_31 ?_
  refine z_iconst zi_9_32 ?_
  refine z_cv3v zi_9_33 rfl rfl rfl (zt_c hT) ⟨rfl, Nat.le_of_ble_eq_true rfl, Nat.le_of_ble_eq_true rfl⟩ (s_setMark (s := gN g) (w := 1) hT rfl (by omega) rfl (by omega) ?_)
  refine z_aload_n zi_9_34 rfl ?_
  refine z_iload zi_9_35 rfl ?_
  refine z_cv1v zi_9_36 rfl (zt_c hT) ⟨rfl, Nat.le_of_ble_eq_true rfl, Nat.le_of_ble_eq_true rfl⟩ (s_setNotLaid (s := gN g) hT rfl (by omega) ?_)
  refine z_aload_n zi_9_37 rfl ?_
  refine z_dup zi_9_38 rfl ?_
  refine z_getfield zi_9_39 (zt_f0 hT) ?_
  simp (disch := omega) only [zup_o]
  rw [h.n]
  refine z_iconst zi_9_40 ?_
  refine z_iadd zi_9_41 ?_
  refine z_putfield zi_9_42 (zt_i0 hT) (Or.inl rfl) ?_
  refine z_iload zi_9_43 rfl ?_
  refine z_ireturn zi_9_44 rfl (k _ (zTB_add h hw kd a b) ?_)
  refine zFr.up (zFr.up (zFr.up (zFr.up (zFr.up (zFr.up (zFr.up (zFr.up (zFr.up zFr.rf ?_) ?_) ?_) ?_) ?_) ?_) ?_) ?_) ?_ <;> omega
theorem s_copyFrom {U : Nat} (hT : zTa T) (hU : zTa U) (hne : U ≠ T) (h : zTB U t g) (hw : gWF g) (k : ∀ t', zTB T t' g → zFr T t t' → Kv t') : ZX (d + 2) 6 0 [(0, .ref T), (1, .ref U)] [] t (zKv Kv) := by
  have ap : T + 9 ≤ U ∨ U + 9 ≤ T := by unfold zTa at hT hU; omega
  have hn := hw.n
  have ho := hw.o
  refine z_aload_n zi_6_0 rfl ?_
  refine z_aload_n zi_6_1 rfl ?_
  refine z_getfield zi_6_2 (zt_f0 hU) ?_
  refine z_putfield zi_6_3 (zt_i0 hT) (Or.inl rfl) ?_
  refine z_aload_n zi_6_4 rfl ?_
  refine z_getfield zi_6_5 (zt_f1 hU) ?_
  refine z_aload_n zi_6_6 rfl ?_
  refine z_getfield zi_6_7 (zt_f1 hT) ?_
  refine z_cs2v zi_6_8 rfl rfl ⟨by decide, rfl, Nat.le_of_ble_eq_true rfl, Nat.le_of_ble_eq_true rfl⟩ (s_copyRow (zt_a1 hU) (zt_a1 hT) (by omega) ?_)
  refine z_aload_n zi_6_9 rfl ?_
  refine z_getfield zi_6_10 (zt_f2 hU) ?_
  refine z_aload_n zi_6_11 rfl ?_
  refine z_getfield zi_6_12 (zt_f2 hT) ?_
  refine z_cs2v zi_6_13 rfl rfl ⟨by decide, rfl, Nat.le_of_ble_eq_true rfl, Nat.le_of_ble_eq_true rfl⟩ (s_copyRow (zt_a2 hU) (zt_a2 hT) (by omega) ?_)
  refine z_aload_n zi_6_14 rfl ?_
  refine z_getfield zi_6_15 (zt_f3 hU) ?_
  refine z_aload_n zi_6_16 rfl ?_
  refine z_getfield zi_6_17 (zt_f3 hT) ?_
  refine z_cs2v zi_6_18 rfl rfl ⟨by decide, rfl, Nat.le_of_ble_eq_true rfl, Nat.le_of_ble_eq_true rfl⟩ (s_copyRow (zt_a3 hU) (zt_a3 hT) (by omega) ?_)
  refine z_aload_n zi_6_19 rfl ?_
  refine z_getfield zi_6_20 (zt_f4 hU) ?_
  refine z_aload_n zi_6_21 rfl ?_
  refine z_getfield zi_6_22 (zt_f4 hT) ?_
  refine z_cs2v zi_6_23 rfl rfl ⟨by decide, rfl, Nat.le_of_ble_eq_true rfl, Nat.le_of_ble_eq_true rfl⟩ (s_copyRow (zt_a4 hU) (zt_a4 hT) (by omega) ?_)
  refine z_aload_n zi_6_24 rfl ?_
  refine z_getfield zi_6_25 (zt_f5 hU) ?_
  refine z_aload_n zi_6_26 rfl ?_
  refine z_getfield zi_6_27 (zt_f5 hT) ?_
  refine z_cs2v zi_6_28 rfl rfl ⟨by decide, rfl, Nat.le_of_ble_eq_true rfl, Nat.le_of_ble_eq_true rfl⟩ (s_copyRow (zt_a5 hU) (zt_a5 hT) (by omega) ?_)
  refine z_aload_n zi_6_29 rfl ?_
  refine z_getfield zi_6_30 (zt_f6 hU) ?_
  refine z_aload_n zi_6_31 rfl ?_
  refine z_getfield zi_6_32 (zt_f6 hT) ?_
  refine z_cs2v zi_6_33 rfl rfl ⟨by decide, rfl, Nat.le_of_ble_eq_true rfl, Nat.le_of_ble_eq_true rfl⟩ (s_copyRow (zt_a6 hU) (zt_a6 hT) (by omega) ?_)
  refine z_aload_n zi_6_34 rfl ?_
  refine z_aload_n zi_6_35 rfl ?_
  refine z_getfield zi_6_36 (zt_f7 hU) ?_
  simp (disch := omega) only [zup_o, zcpi_o]
  refine z_putfield zi_6_37 (zt_i7 hT) (Or.inl rfl) ?_
  refine z_aload_n zi_6_38 rfl ?_
  refine z_getfield zi_6_39 (zt_f8 hU) ?_
  refine z_aload_n zi_6_40 rfl ?_
  refine z_getfield zi_6_41 (zt_f8 hT) ?_
  refine z_cs2v zi_6_42 rfl rfl ⟨by decide, rfl, Nat.le_of_ble_eq_true rfl, Nat.le_of_ble_eq_true rfl⟩ (s_copyRow (zt_a7 hU) (zt_a7 hT) (by omega) ?_)
  refine z_aload_n zi_6_43 rfl ?_
  refine z_aload_n zi_6_44 rfl ?_
  refine z_getfield zi_6_45 (zt_f9 hU) ?_
  simp (disch := omega) only [zup_o, zcpi_o]
  refine z_putfield zi_6_46 (zt_i9 hT) (Or.inr ⟨rfl, (by rw [h.o]; exact ho.1)⟩) ?_
  refine z_aload_n zi_6_47 rfl ?_
  refine z_getfield zi_6_48 (zt_f10 hU) ?_
  refine z_aload_n zi_6_49 rfl ?_
  refine z_getfield zi_6_50 (zt_f10 hT) ?_
  refine z_cs2v zi_6_51 rfl rfl ⟨by decide, rfl, Nat.le_of_ble_eq_true rfl, Nat.le_of_ble_eq_true rfl⟩ (s_copyRow (zt_a8 hU) (zt_a8 hT) (by omega) ?_)
  refine z_aload_n zi_6_52 rfl ?_
  refine z_aload_n zi_6_53 rfl ?_
  refine z_getfield zi_6_54 (zt_f11 hU) ?_
  simp (disch := omega) only [zup_o, zcpi_o]
  refine z_putfield zi_6_55 (zt_i11 hT) (Or.inl rfl) ?_
  refine z_vreturn zi_6_56 rfl (k _ ?_ ?_)
  · refine ⟨⟨?_, ?_, ?_, ?_⟩, fun s' hs' => ⟨?_, ?_, ?_, ?_⟩, fun s' w hs' hw' => ⟨?_, ?_⟩, fun p hp => ?_, ?_, ?_⟩
    · simp (disch := omega) only [zup_o, zup_n, zup_s, zcpi_o, zcpi_s]; exact h.n
    · simp (disch := omega) only [zup_o, zup_n, zup_s, zcpi_o, zcpi_s]; exact h.l
    · simp (disch := omega) only [zup_o, zup_n, zup_s, zcpi_o, zcpi_s]; exact h.o
    · simp (disch := omega) only [zup_o, zup_n, zup_s, zcpi_o, zcpi_s]; exact h.d
    · simp (disch := omega) only [zup_o, zup_n, zup_s, zcpi_o, zcpi_s]; exact h.k hs'
    · simp (disch := omega) only [zup_o, zup_n, zup_s, zcpi_o, zcpi_s]; exact h.h hs'
    · simp (disch := omega) only [zup_o, zup_n, zup_s, zcpi_o, zcpi_s]; exact h.p hs'
    · simp (disch := omega) only [zup_o, zup_n, zup_s, zcpi_o, zcpi_s]; exact h.f hs'
    · simp (disch := omega) only [zup_o, zup_n, zup_s, zcpi_o, zcpi_s]; exact h.t hs' hw'
    · simp (disch := omega) only [zup_o, zup_n, zup_s, zcpi_o, zcpi_s]; exact h.m hs' hw'
    · simp (disch := omega) only [zup_o, zup_n, zup_s, zcpi_o, zcpi_s]; exact h.r hp
    · simp (disch := omega) only [zup_o, zup_n, zup_s, zcpi_o, zcpi_s]; exact h.s (w := 0) (by omega)
    · simp (disch := omega) only [zup_o, zup_n, zup_s, zcpi_o, zcpi_s]; exact h.s (w := 1) (by omega)
  · intro q hq
    simp (disch := omega) only [zup_o, zcpi_o]
theorem s_handSize {hd : Int} (hT : zTa T) (h : zTB T t g) (hw : gWF g) (hh : hd = 0 ∨ hd = 1) (k : K (gcnt g hd (gN g)) t) : ZX (d + 2) 20 0 [(0, .ref T), (1, .int (zi hd))] [] t (zKi K) := by
  have hn := hw.n
  have loop : ∀ (j n : Nat), n + j = gN g → ZX (d + 2) 20 4 [(3, .int (zi n)), (2, .int (zi (gcnt g hd n))), (0, .ref T), (1, .int (zi hd))] [] t (zKi K) := by
    intro j
    induction j with
    | zero =>
      intro n e
      have e1 : n = gN g := by omega
      subst e1
      refine z_iload_n zi_20_4 rfl ?_
      refine z_aload_n zi_20_5 rfl ?_
      refine z_getfield zi_20_6 (zt_f0 hT) ?_
      rw [h.n]
      refine z_icmp_ge_t zi_20_7 (by omega) (by omega) ?_
      refine z_iload_n zi_20_16 rfl ?_
      refine z_ireturn zi_20_17 rfl k
    | succ j ih =>
      intro n e
      have h1 := hw.h (s := n) (by omega)
      refine z_iload_n zi_20_4 rfl ?_
      refine z_aload_n zi_20_5 rfl ?_
      refine z_getfield zi_20_6 (zt_f0 hT) ?_
      rw [h.n]
      refine z_icmp_ge_f zi_20_7 (by omega) (by omega) ?_
      refine z_aload_n zi_20_8 rfl ?_
      refine z_iload_n zi_20_9 rfl ?_
      refine z_cv1i zi_20_10 rfl (zt_c hT) ⟨rfl, Nat.le_of_ble_eq_true rfl, Nat.le_of_ble_eq_true rfl⟩ (s_handOf (s := n) hT h hw rfl (by omega) ?_)
      refine z_iload_n zi_20_11 rfl ?_
      refine z_icmp_ne zi_20_12 (by omega) (fun c => ?_) (fun c => ?_)
      · refine z_iinc zi_20_14 rfl rfl ?_
        refine z_goto zi_20_15 ?_
        have e2 : gcnt g hd (n + 1) = gcnt g hd n := by show gcnt g hd n + (if gH g n = hd then 1 else 0) = _; rw [if_neg c]; omega
        refine z_loc (lv' := [(3, .int (zi ((n + 1 : Nat) : Int))), (2, .int (zi (gcnt g hd n))), (0, .ref T), (1, .int (zi hd))]) rfl ?_
        rw [← e2]
        exact ih (n + 1) (by omega)
      · refine z_iinc zi_20_13 rfl rfl ?_
        refine z_iinc zi_20_14 rfl rfl ?_
        refine z_goto zi_20_15 ?_
        have e2 : gcnt g hd n + 1 = gcnt g hd (n + 1) := by show _ = gcnt g hd n + (if gH g n = hd then 1 else 0); rw [if_pos (by omega)]
        refine z_loc (lv' := [(3, .int (zi ((n + 1 : Nat) : Int))), (2, .int (zi (gcnt g hd n + 1))), (0, .ref T), (1, .int (zi hd))]) rfl ?_
        rw [e2]
        exact ih (n + 1) (by omega)
  refine z_iconst zi_20_0 ?_
  refine z_istore_n zi_20_1 rfl ?_
  refine z_iconst zi_20_2 ?_
  refine z_istore_n zi_20_3 rfl ?_
  refine z_loc (lv' := [(3, .int (zi ((0 : Nat) : Int))), (2, .int (zi (gcnt g hd 0))), (0, .ref T), (1, .int (zi hd))]) rfl ?_
  exact loop (gN g) 0 (by omega)
theorem s_countLays {hd : Int} (hT : zTa T) (h : zTB T t g) (hw : gWF g) (hh : hd = 0 ∨ hd = 1) (k : K (gcl g hd 24) t) : ZX (d + 4) 55 0 [(0, .ref T), (1, .int (zi hd))] [] t (zKi K) := by
  have loop : ∀ (j n : Nat), n + j = 24 → ZX (d + 4) 55 4 [(3, .int (zi n)), (2, .int (zi (gcl g hd n))), (0, .ref T), (1, .int (zi hd))] [] t (zKi K) := by
    intro j
    induction j with
    | zero =>
      intro n e
      have e1 : n = 24 := by omega
      subst e1
      refine z_iload_n zi_55_4 rfl ?_
      refine z_bipush zi_55_5 (by decide) ?_
      refine z_icmp_ge_t zi_55_6 (by omega) (by omega) ?_
      refine z_iload_n zi_55_15 rfl ?_
      refine z_ireturn zi_55_16 rfl k
    | succ j ih =>
      intro n e
      refine z_iload_n zi_55_4 rfl ?_
      refine z_bipush zi_55_5 (by decide) ?_
      refine z_icmp_ge_f zi_55_6 (by omega) (by omega) ?_
      refine z_aload_n zi_55_7 rfl ?_
      refine z_iload_n zi_55_8 rfl ?_
      refine z_iload_n zi_55_9 rfl ?_
      refine z_cv2i zi_55_10 rfl rfl (zt_c hT) ⟨rfl, Nat.le_of_ble_eq_true rfl, Nat.le_of_ble_eq_true rfl⟩ (s_mayLay (n := n) hT h hw hh rfl (by omega) (fun q1 q2 q3 => ?_) (fun q => ?_))
      · refine z_if_eq_f zi_55_11 (by omega) (by omega) ?_
        refine z_iinc zi_55_12 rfl rfl ?_
        refine z_iinc zi_55_13 rfl rfl ?_
        refine z_goto zi_55_14 ?_
        have e2 : (gcl g hd n : Int) + 1 = ((gcl g hd (n + 1) : Nat) : Int) := by
          have : gcl g hd (n + 1) = gcl g hd n + 1 := by
            show gcl g hd n + (if glp g hd n then 1 else 0) = _
            rw [if_pos ⟨q1, q2, q3⟩]
          omega
        refine z_loc (lv' := [(3, .int (zi ((n + 1 : Nat) : Int))), (2, .int (zi ((gcl g hd n : Int) + 1))), (0, .ref T), (1, .int (zi hd))]) rfl ?_
        rw [e2]
        exact ih (n + 1) (by omega)
      · refine z_if_eq_t zi_55_11 (by omega) (by omega) ?_
        refine z_iinc zi_55_13 rfl rfl ?_
        refine z_goto zi_55_14 ?_
        have e2 : gcl g hd (n + 1) = gcl g hd n := by show gcl g hd n + (if glp g hd n then 1 else 0) = _; rw [if_neg q]; rfl
        refine z_loc (lv' := [(3, .int (zi ((n + 1 : Nat) : Int))), (2, .int (zi (gcl g hd n : Int))), (0, .ref T), (1, .int (zi hd))]) rfl ?_
        rw [← e2]
        exact ih (n + 1) (by omega)
  refine z_iconst zi_55_0 ?_
  refine z_istore_n zi_55_1 rfl ?_
  refine z_iconst zi_55_2 ?_
  refine z_istore_n zi_55_3 rfl ?_
  refine z_loc (lv' := [(3, .int (zi ((0 : Nat) : Int))), (2, .int (zi (gcl g hd 0))), (0, .ref T), (1, .int (zi hd))]) rfl ?_
  exact loop 24 0 (by omega)
end
