/-! a table of the class holds a game -/
def zTB (T : Nat) (t : zMI) (g : zG) : Prop :=
  (t T 0 = (gN g : Int) ∧ t T 7 = (gL g : Int) ∧ t T 9 = gO g ∧ t T 11 = gD g) ∧ (∀ s, s < gN g → t (T + 1) s = gK g s ∧ t (T + 4) s = gH g s ∧ t (T + 5) s = gPi g s ∧ t (T + 6) s = gFi g s) ∧
  (∀ s w, s < gN g → w < 2 → t (T + 2) (2 * s + w) = gT g s w ∧ t (T + 3) (2 * s + w) = gM g s w) ∧ (∀ p, p < gL g → t (T + 7) p = (gR g p : Int)) ∧ (t (T + 8) 0 = gS g 0 ∧ t (T + 8) 1 = gS g 1)
theorem zTB.n {T : Nat} {t : zMI} {g : zG} (h : zTB T t g) : t T 0 = (gN g : Int) := h.1.1
theorem zTB.l {T : Nat} {t : zMI} {g : zG} (h : zTB T t g) : t T 7 = (gL g : Int) := h.1.2.1
theorem zTB.o {T : Nat} {t : zMI} {g : zG} (h : zTB T t g) : t T 9 = gO g := h.1.2.2.1
theorem zTB.d {T : Nat} {t : zMI} {g : zG} (h : zTB T t g) : t T 11 = gD g := h.1.2.2.2
theorem zTB.k {T : Nat} {t : zMI} {g : zG} (h : zTB T t g) {s : Nat} (hs : s < gN g) : t (T + 1) s = gK g s := (h.2.1 s hs).1
theorem zTB.h {T : Nat} {t : zMI} {g : zG} (h : zTB T t g) {s : Nat} (hs : s < gN g) : t (T + 4) s = gH g s := (h.2.1 s hs).2.1
theorem zTB.p {T : Nat} {t : zMI} {g : zG} (h : zTB T t g) {s : Nat} (hs : s < gN g) : t (T + 5) s = gPi g s := (h.2.1 s hs).2.2.1
theorem zTB.f {T : Nat} {t : zMI} {g : zG} (h : zTB T t g) {s : Nat} (hs : s < gN g) : t (T + 6) s = gFi g s := (h.2.1 s hs).2.2.2
theorem zTB.t {T : Nat} {t : zMI} {g : zG} (h : zTB T t g) {s w : Nat} (hs : s < gN g) (hw : w < 2) : t (T + 2) (2 * s + w) = gT g s w := (h.2.2.1 s w hs hw).1
theorem zTB.m {T : Nat} {t : zMI} {g : zG} (h : zTB T t g) {s w : Nat} (hs : s < gN g) (hw : w < 2) : t (T + 3) (2 * s + w) = gM g s w := (h.2.2.1 s w hs hw).2
theorem zTB.r {T : Nat} {t : zMI} {g : zG} (h : zTB T t g) {p : Nat} (hp : p < gL g) : t (T + 7) p = (gR g p : Int) := h.2.2.2.1 p hp
theorem zTB.s {T : Nat} {t : zMI} {g : zG} (h : zTB T t g) {w : Nat} (hw : w < 2) : t (T + 8) w = gS g w := by
  rcases (by omega : w = 0 ∨ w = 1) with rfl | rfl
  · exact h.2.2.2.2.1
  · exact h.2.2.2.2.2
def zFr (T : Nat) (t t' : zMI) : Prop := ∀ k, k < T ∨ T + 9 ≤ k → t' k = t k
theorem zFr.rf {T : Nat} {t : zMI} : zFr T t t := fun _ _ => rfl
theorem zFr.tr {T : Nat} {t t' t'' : zMI} (h : zFr T t t') (h' : zFr T t' t'') : zFr T t t'' := fun k hk => (h' k hk).trans (h k hk)
theorem zFr.up {T : Nat} {t t' : zMI} (h : zFr T t t') {b n : Nat} {v : Int} (hb : T ≤ b ∧ b < T + 9) : zFr T t (zup t' b n v) := fun k hk => (zup_o (by omega)).trans (h k hk)
theorem zTB_congr {T : Nat} {t t' : zMI} {g : zG} (h : zTB T t g) (e : ∀ k, T ≤ k → k < T + 9 → t' k = t k) : zTB T t' g := by
  unfold zTB
  rw [e T (by omega) (by omega), e (T + 1) (by omega) (by omega), e (T + 2) (by omega) (by omega), e (T + 3) (by omega) (by omega), e (T + 4) (by omega) (by omega), e (T + 5) (by omega) (by omega), e (T + 6) (by omega) (by omega), e (T + 7) (by omega) (by omega), e (T + 8) (by omega) (by omega)]
  exact h
theorem zTB_M {T : Nat} {t : zMI} {g : zG} (h : zTB T t g) {s w : Nat} (hw : w < 2) (v : Int) : zTB T (zup t (T + 3) (2 * s + w) v) (gsM g (fup2 (gM g) s w v)) := by
  unfold zTB
  rw [zup_o (by omega), zup_o (k := T + 1) (by omega), zup_o (k := T + 2) (by omega), zup_o (k := T + 4) (by omega), zup_o (k := T + 5) (by omega), zup_o (k := T + 6) (by omega), zup_o (k := T + 7) (by omega), zup_o (k := T + 8) (by omega)]
  refine ⟨h.1, h.2.1, fun s' w' hs' hw' => ⟨h.t hs' hw', ?_⟩, h.2.2.2.1, h.2.2.2.2⟩
  show zup t (T + 3) (2 * s + w) v (T + 3) (2 * s' + w') = fup2 (gM g) s w v s' w'
  rw [zup_at]
  unfold fup2
  by_cases e : s' = s ∧ w' = w
  · rw [if_pos e, if_pos (by omega)]
  · rw [if_neg e, if_neg (by omega)]
    exact h.m hs' hw'
theorem zTB_H {T : Nat} {t : zMI} {g : zG} (h : zTB T t g) (s : Nat) (v : Int) : zTB T (zup t (T + 4) s v) (gsH g (fup (gH g) s v)) := by
  unfold zTB
  rw [zup_o (by omega), zup_o (k := T + 1) (by omega), zup_o (k := T + 2) (by omega), zup_o (k := T + 3) (by omega), zup_o (k := T + 5) (by omega), zup_o (k := T + 6) (by omega), zup_o (k := T + 7) (by omega), zup_o (k := T + 8) (by omega)]
  refine ⟨h.1, fun s' hs' => ⟨h.k hs', ?_, h.p hs', h.f hs'⟩, h.2.2.1, h.2.2.2.1, h.2.2.2.2⟩
  show zup t (T + 4) s v (T + 4) s' = fup (gH g) s v s'
  rw [zup_at]
  unfold fup
  by_cases e : s' = s
  · rw [if_pos e, if_pos e]
  · rw [if_neg e, if_neg e]
    exact h.h hs'
theorem zTB_O {T : Nat} {t : zMI} {g : zG} (h : zTB T t g) (v : Int) : zTB T (zup t T 9 v) (gsO g v) := by
  unfold zTB
  rw [zup_o (k := T + 4) (by omega), zup_o (k := T + 1) (by omega), zup_o (k := T + 2) (by omega), zup_o (k := T + 3) (by omega), zup_o (k := T + 5) (by omega), zup_o (k := T + 6) (by omega), zup_o (k := T + 7) (by omega), zup_o (k := T + 8) (by omega)]
  rw [zup_n (by omega), zup_n (by omega), zup_s, zup_n (by omega)]
  exact ⟨⟨h.n, h.l, rfl, h.d⟩, h.2.1, h.2.2.1, h.2.2.2.1, h.2.2.2.2⟩
theorem zTB_D {T : Nat} {t : zMI} {g : zG} (h : zTB T t g) (v : Int) : zTB T (zup t T 11 v) (gsD g v) := by
  unfold zTB
  rw [zup_o (k := T + 4) (by omega), zup_o (k := T + 1) (by omega), zup_o (k := T + 2) (by omega), zup_o (k := T + 3) (by omega), zup_o (k := T + 5) (by omega), zup_o (k := T + 6) (by omega), zup_o (k := T + 7) (by omega), zup_o (k := T + 8) (by omega)]
  rw [zup_n (by omega), zup_n (by omega), zup_n (by omega), zup_s]
  exact ⟨⟨h.n, h.l, h.o, rfl⟩, h.2.1, h.2.2.1, h.2.2.2.1, h.2.2.2.2⟩
section
variable {d T : Nat} {t : zMI} {g : zG} {K : Int → zMI → Prop} {Kv : zMI → Prop}
theorem s_stoneCount (hT : zTa T) (h : zTB T t g) (k : K (gN g) t) : ZX d 11 0 [(0, .ref T)] [] t (zKi K) := by
  refine z_aload_n zi_11_0 rfl ?_
  refine z_getfield zi_11_1 (zt_f0 hT) ?_
  rw [h.n]
  refine z_ireturn zi_11_2 rfl k
theorem s_trainLength (hT : zTa T) (h : zTB T t g) (k : K (gL g) t) : ZX d 26 0 [(0, .ref T)] [] t (zKi K) := by
  refine z_aload_n zi_26_0 rfl ?_
  refine z_getfield zi_26_1 (zt_f7 hT) ?_
  rw [h.l]
  refine z_ireturn zi_26_2 rfl k
theorem s_isRing (hT : zTa T) (h : zTB T t g) (hw : gWF g) (k : K (gO g) t) : ZX d 28 0 [(0, .ref T)] [] t (zKi K) := by
  have ho := hw.o
  refine z_aload_n zi_28_0 rfl ?_
  refine z_getfield zi_28_1 (zt_f9 hT) ?_
  rw [h.o]
  refine z_zreturn zi_28_2 rfl (by omega) k
theorem s_drawIs (hT : zTa T) (h : zTB T t g) (k : K (gD g) t) : ZX d 30 0 [(0, .ref T)] [] t (zKi K) := by
  refine z_aload_n zi_30_0 rfl ?_
  refine z_getfield zi_30_1 (zt_f11 hT) ?_
  rw [h.d]
  refine z_ireturn zi_30_2 rfl k
theorem s_setRing {v : Int} (hT : zTa T) (hv : v = 0 ∨ v = 1) (k : Kv (zup t T 9 v)) : ZX d 29 0 [(0, .ref T), (1, .int (zi v))] [] t (zKv Kv) := by
  refine z_aload_n zi_29_0 rfl ?_
  refine z_iload_n zi_29_1 rfl ?_
  refine z_putfield zi_29_2 (zt_i9 hT) (Or.inr ⟨rfl, hv⟩) ?_
  refine z_vreturn zi_29_3 rfl k
theorem s_setDraw {v : Int} (hT : zTa T) (k : Kv (zup t T 11 v)) : ZX d 31 0 [(0, .ref T), (1, .int (zi v))] [] t (zKv Kv) := by
  refine z_aload_n zi_31_0 rfl ?_
  refine z_iload_n zi_31_1 rfl ?_
  refine z_putfield zi_31_2 (zt_i11 hT) (Or.inl rfl) ?_
  refine z_vreturn zi_31_3 rfl k
theorem s_hasStone {a : Int} (hT : zTa T) (h : zTB T t g) (hw : gWF g) (ha : -2147483648 ≤ a ∧ a < 2147483648) (kt : 0 ≤ a ∧ a < gN g → K 1 t) (kf : ¬ (0 ≤ a ∧ a < gN g) → K 0 t) : ZX d 12 0 [(0, .ref T), (1, .int (zi a))] [] t (zKi K) := by
  have hn := hw.n
  refine z_iload_n zi_12_0 rfl ?_
  refine z_if_lt zi_12_1 (by omega) (fun c => ?_) (fun c => ?_)
  · refine z_iconst zi_12_8 ?_
    refine z_zreturn zi_12_9 rfl (by omega) (kf (by omega))
  · refine z_iload_n zi_12_2 rfl ?_
    refine z_aload_n zi_12_3 rfl ?_
    refine z_getfield zi_12_4 (zt_f0 hT) ?_
    rw [h.n]
    refine z_icmp_ge zi_12_5 (by omega) (fun c2 => ?_) (fun c2 => ?_)
    · refine z_iconst zi_12_8 ?_
      refine z_zreturn zi_12_9 rfl (by omega) (kf (by omega))
    · refine z_iconst zi_12_6 ?_
      refine z_goto zi_12_7 ?_
      refine z_zreturn zi_12_9 rfl (by omega) (kt (by omega))
theorem s_isFull (hT : zTa T) (h : zTB T t g) (hw : gWF g) (kt : gN g = 12 → K 1 t) (kf : gN g < 12 → K 0 t) : ZX d 8 0 [(0, .ref T)] [] t (zKi K) := by
  have hn := hw.n
  refine z_aload_n zi_8_0 rfl ?_
  refine z_getfield zi_8_1 (zt_f0 hT) ?_
  refine z_bipush zi_8_2 (by decide) ?_
  rw [h.n]
  refine z_icmp_lt zi_8_3 (by omega) (fun c => ?_) (fun c => ?_)
  · refine z_iconst zi_8_6 ?_
    refine z_zreturn zi_8_7 rfl (by omega) (kf (by omega))
  · refine z_iconst zi_8_4 ?_
    refine z_goto zi_8_5 ?_
    refine z_zreturn zi_8_7 rfl (by omega) (kt (by omega))
theorem s_kindOf {a : Int} {s : Nat} (hT : zTa T) (h : zTB T t g) (hw : gWF g) (ha : a = (s : Int)) (hs : s < gN g) (k : K (gK g s) t) : ZX (d + 1) 14 0 [(0, .ref T), (1, .int (zi a))] [] t (zKi K) := by
  have hn := hw.n
  refine z_aload_n zi_14_0 rfl ?_
  refine z_getfield zi_14_1 (zt_f1 hT) ?_
  refine z_iload_n zi_14_2 rfl ?_
  refine z_cs2i zi_14_3 rfl rfl ⟨by decide, rfl, Nat.le_of_ble_eq_true rfl, Nat.le_of_ble_eq_true rfl⟩ (s_at (zt_a1 hT) (by omega) ha (by omega) ?_)
  rw [h.k hs]
  refine z_ireturn zi_14_4 rfl k
theorem s_teethOf {a b : Int} {s w : Nat} (hT : zTa T) (h : zTB T t g) (hw : gWF g) (ha : a = (s : Int)) (hs : s < gN g) (hb : b = (w : Int)) (hw2 : w < 2) (k : K (gT g s w) t) : ZX (d + 1) 15 0 [(0, .ref T), (1, .int (zi a)), (2, .int (zi b))] [] t (zKi K) := by
  have hn := hw.n
  refine z_aload_n zi_15_0 rfl ?_
  refine z_getfield zi_15_1 (zt_f2 hT) ?_
  refine z_iconst zi_15_2 ?_
  refine z_iload_n zi_15_3 rfl ?_
  refine z_imul zi_15_4 ?_
  refine z_iload_n zi_15_5 rfl ?_
  refine z_iadd zi_15_6 ?_
  refine z_cs2i zi_15_7 rfl rfl ⟨by decide, rfl, Nat.le_of_ble_eq_true rfl, Nat.le_of_ble_eq_true rfl⟩ (s_at (n := 2 * s + w) (zt_a2 hT) (by omega) (by omega) (by omega) ?_)
  rw [h.t hs hw2]
  refine z_ireturn zi_15_8 rfl k
theorem s_markOf {a b : Int} {s w : Nat} (hT : zTa T) (h : zTB T t g) (hw : gWF g) (ha : a = (s : Int)) (hs : s < gN g) (hb : b = (w : Int)) (hw2 : w < 2) (k : K (gM g s w) t) : ZX (d + 1) 16 0 [(0, .ref T), (1, .int (zi a)), (2, .int (zi b))] [] t (zKi K) := by
  have hn := hw.n
  refine z_aload_n zi_16_0 rfl ?_
  refine z_getfield zi_16_1 (zt_f3 hT) ?_
  refine z_iconst zi_16_2 ?_
  refine z_iload_n zi_16_3 rfl ?_
  refine z_imul zi_16_4 ?_
  refine z_iload_n zi_16_5 rfl ?_
  refine z_iadd zi_16_6 ?_
  refine z_cs2i zi_16_7 rfl rfl ⟨by decide, rfl, Nat.le_of_ble_eq_true rfl, Nat.le_of_ble_eq_true rfl⟩ (s_at (n := 2 * s + w) (zt_a3 hT) (by omega) (by omega) (by omega) ?_)
  rw [h.m hs hw2]
  refine z_ireturn zi_16_8 rfl k
theorem s_setMark {a b v : Int} {s w : Nat} (hT : zTa T) (ha : a = (s : Int)) (hs : s < 12) (hb : b = (w : Int)) (hw2 : w < 2) (k : Kv (zup t (T + 3) (2 * s + w) v)) : ZX (d + 1) 17 0 [(0, .ref T), (1, .int (zi a)), (2, .int (zi b)), (3, .int (zi v))] [] t (zKv Kv) := by
  refine z_aload_n zi_17_0 rfl ?_
  refine z_getfield zi_17_1 (zt_f3 hT) ?_
  refine z_iconst zi_17_2 ?_
  refine z_iload_n zi_17_3 rfl ?_
  refine z_imul zi_17_4 ?_
  refine z_iload_n zi_17_5 rfl ?_
  refine z_iadd zi_17_6 ?_
  refine z_iload_n zi_17_7 rfl ?_
  refine z_cs3v zi_17_8 rfl rfl rfl ⟨by decide, rfl, Nat.le_of_ble_eq_true rfl, Nat.le_of_ble_eq_true rfl⟩ (s_put (n := 2 * s + w) (zt_a3 hT) (by omega) (by omega) (by omega) ?_)
  refine z_vreturn zi_17_9 rfl k
theorem s_handOf {a : Int} {s : Nat} (hT : zTa T) (h : zTB T t g) (hw : gWF g) (ha : a = (s : Int)) (hs : s < gN g) (k : K (gH g s) t) : ZX (d + 1) 18 0 [(0, .ref T), (1, .int (zi a))] [] t (zKi K) := by
  have hn := hw.n
  refine z_aload_n zi_18_0 rfl ?_
  refine z_getfield zi_18_1 (zt_f4 hT) ?_
  refine z_iload_n zi_18_2 rfl ?_
  refine z_cs2i zi_18_3 rfl rfl ⟨by decide, rfl, Nat.le_of_ble_eq_true rfl, Nat.le_of_ble_eq_true rfl⟩ (s_at (zt_a4 hT) (by omega) ha (by omega) ?_)
  rw [h.h hs]
  refine z_ireturn zi_18_4 rfl k
theorem s_setHand {a v : Int} {s : Nat} (hT : zTa T) (ha : a = (s : Int)) (hs : s < 12) (k : Kv (zup t (T + 4) s v)) : ZX (d + 1) 19 0 [(0, .ref T), (1, .int (zi a)), (2, .int (zi v))] [] t (zKv Kv) := by
  refine z_aload_n zi_19_0 rfl ?_
  refine z_getfield zi_19_1 (zt_f4 hT) ?_
  refine z_iload_n zi_19_2 rfl ?_
  refine z_iload_n zi_19_3 rfl ?_
  refine z_cs3v zi_19_4 rfl rfl rfl ⟨by decide, rfl, Nat.le_of_ble_eq_true rfl, Nat.le_of_ble_eq_true rfl⟩ (s_put (zt_a4 hT) (by omega) ha (by omega) ?_)
  refine z_vreturn zi_19_5 rfl k
theorem s_scoreOf {a : Int} {s : Nat} (hT : zTa T) (h : zTB T t g) (ha : a = (s : Int)) (hs : s < 2) (k : K (gS g s) t) : ZX (d + 1) 21 0 [(0, .ref T), (1, .int (zi a))] [] t (zKi K) := by
  refine z_aload_n zi_21_0 rfl ?_
  refine z_getfield zi_21_1 (zt_f10 hT) ?_
  refine z_iload_n zi_21_2 rfl ?_
  refine z_cs2i zi_21_3 rfl rfl ⟨by decide, rfl, Nat.le_of_ble_eq_true rfl, Nat.le_of_ble_eq_true rfl⟩ (s_at (zt_a8 hT) (by omega) ha (by omega) ?_)
  rw [h.s hs]
  refine z_ireturn zi_21_4 rfl k
theorem s_placeOf {a : Int} {s : Nat} (hT : zTa T) (h : zTB T t g) (hw : gWF g) (ha : a = (s : Int)) (hs : s < gN g) (k : K (gPi g s) t) : ZX (d + 1) 22 0 [(0, .ref T), (1, .int (zi a))] [] t (zKi K) := by
  have hn := hw.n
  refine z_aload_n zi_22_0 rfl ?_
  refine z_getfield zi_22_1 (zt_f5 hT) ?_
  refine z_iload_n zi_22_2 rfl ?_
  refine z_cs2i zi_22_3 rfl rfl ⟨by decide, rfl, Nat.le_of_ble_eq_true rfl, Nat.le_of_ble_eq_true rfl⟩ (s_at (zt_a5 hT) (by omega) ha (by omega) ?_)
  rw [h.p hs]
  refine z_ireturn zi_22_4 rfl k
theorem s_isLaid {a : Int} {s : Nat} (hT : zTa T) (h : zTB T t g) (hw : gWF g) (ha : a = (s : Int)) (hs : s < gN g) (kt : ∀ p, gP g s = some p → K 1 t) (kf : gP g s = none → K 0 t) : ZX (d + 2) 23 0 [(0, .ref T), (1, .int (zi a))] [] t (zKi K) := by
  have hn := hw.n
  have hr := gPi_rng hw s
  refine z_aload_n zi_23_0 rfl ?_
  refine z_iload_n zi_23_1 rfl ?_
  refine z_cv1i zi_23_2 rfl (zt_c hT) ⟨rfl, Nat.le_of_ble_eq_true rfl, Nat.le_of_ble_eq_true rfl⟩ (s_placeOf hT h hw ha hs ?_)
  cases e : gP g s with
  | none =>
    have e2 : gPi g s = -4 := by unfold gPi; rw [e]
    refine z_if_lt_t zi_23_3 (by omega) (by omega) ?_
    refine z_iconst zi_23_6 ?_
    refine z_zreturn zi_23_7 rfl (by omega) (kf e)
  | some p =>
    have e2 : gPi g s = p := by unfold gPi; rw [e]
    refine z_if_lt_f zi_23_3 (by omega) (by omega) ?_
    refine z_iconst zi_23_4 ?_
    refine z_goto zi_23_5 ?_
    refine z_zreturn zi_23_7 rfl (by omega) (kt p e)
theorem s_frontOf {a : Int} {s : Nat} (hT : zTa T) (h : zTB T t g) (hw : gWF g) (ha : a = (s : Int)) (hs : s < gN g) (k : K (gFi g s) t) : ZX (d + 1) 24 0 [(0, .ref T), (1, .int (zi a))] [] t (zKi K) := by
  have hn := hw.n
  refine z_aload_n zi_24_0 rfl ?_
  refine z_getfield zi_24_1 (zt_f6 hT) ?_
  refine z_iload_n zi_24_2 rfl ?_
  refine z_cs2i zi_24_3 rfl rfl ⟨by decide, rfl, Nat.le_of_ble_eq_true rfl, Nat.le_of_ble_eq_true rfl⟩ (s_at (zt_a6 hT) (by omega) ha (by omega) ?_)
  rw [h.f hs]
  refine z_ireturn zi_24_4 rfl k
theorem s_backOf {a : Int} {s : Nat} (hT : zTa T) (h : zTB T t g) (hw : gWF g) (ha : a = (s : Int)) (hs : s < gN g) (k : K (1 - gFi g s) t) : ZX (d + 2) 25 0 [(0, .ref T), (1, .int (zi a))] [] t (zKi K) := by
  have hn := hw.n
  have hr := gFi_rng hw s
  refine z_iconst zi_25_0 ?_
  refine z_aload_n zi_25_1 rfl ?_
  refine z_iload_n zi_25_2 rfl ?_
  refine z_cv1i zi_25_3 rfl (zt_c hT) ⟨rfl, Nat.le_of_ble_eq_true rfl, Nat.le_of_ble_eq_true rfl⟩ (s_frontOf hT h hw ha hs ?_)
  refine z_isub zi_25_4 ?_
  refine z_ireturn zi_25_5 rfl k
theorem s_stoneInTrain {a : Int} {p : Nat} (hT : zTa T) (h : zTB T t g) (hw : gWF g) (ha : a = (p : Int)) (hp : p < gL g) (k : K (gR g p) t) : ZX (d + 1) 27 0 [(0, .ref T), (1, .int (zi a))] [] t (zKi K) := by
  have hn := hw.n
  refine z_aload_n zi_27_0 rfl ?_
  refine z_getfield zi_27_1 (zt_f8 hT) ?_
  refine z_iload_n zi_27_2 rfl ?_
  refine z_cs2i zi_27_3 rfl rfl ⟨by decide, rfl, Nat.le_of_ble_eq_true rfl, Nat.le_of_ble_eq_true rfl⟩ (s_at (zt_a7 hT) (by omega) ha (by omega) ?_)
  rw [h.r hp]
  refine z_ireturn zi_27_4 rfl k
theorem s_backWay {a v : Int} {p : Nat} (hT : zTa T) (h : zTB T t g) (hw : gWF g) (hp : p < gL g) (ha : a = (gR g p : Int)) (k : K (if gK g (gR g p) = 2 then v else -v) t) : ZX (d + 1) 41 0 [(0, .ref T), (1, .int (zi a)), (2, .int (zi v))] [] t (zKi K) := by
  have hn := hw.n
  have hr := hw.r hp
  have hk := hw.k hr.1
  refine z_aload_n zi_41_0 rfl ?_
  refine z_getfield zi_41_1 (zt_f1 hT) ?_
  refine z_iload_n zi_41_2 rfl ?_
  refine z_cs2i zi_41_3 rfl rfl ⟨by decide, rfl, Nat.le_of_ble_eq_true rfl, Nat.le_of_ble_eq_true rfl⟩ (s_at (zt_a1 hT) (by omega) ha (by omega) ?_)
  rw [h.k hr.1]
  refine z_iconst zi_41_4 ?_
  refine z_icmp_ne zi_41_5 (by omega) (fun c => ?_) (fun c => ?_)
  · refine z_iload_n zi_41_8 rfl ?_
    refine z_ineg zi_41_9 ?_
    rw [if_neg c] at k
    refine z_ireturn zi_41_10 rfl k
  · refine z_iload_n zi_41_6 rfl ?_
    refine z_goto zi_41_7 ?_
    rw [if_pos (by omega)] at k
    refine z_ireturn zi_41_10 rfl k
theorem s_hasPawl {a : Int} {s : Nat} (hT : zTa T) (h : zTB T t g) (hw : gWF g) (ha : a = (s : Int)) (hs : s < gN g) (kt : gK g s = 1 ∨ gK g s = 3 → K 1 t) (kf : ¬ (gK g s = 1 ∨ gK g s = 3) → K 0 t) : ZX (d + 1) 45 0 [(0, .ref T), (1, .int (zi a))] [] t (zKi K) := by
  have hn := hw.n
  have hk := hw.k hs
  refine z_aload_n zi_45_0 rfl ?_
  refine z_getfield zi_45_1 (zt_f1 hT) ?_
  refine z_iload_n zi_45_2 rfl ?_
  refine z_cs2i zi_45_3 rfl rfl ⟨by decide, rfl, Nat.le_of_ble_eq_true rfl, Nat.le_of_ble_eq_true rfl⟩ (s_at (zt_a1 hT) (by omega) ha (by omega) ?_)
  rw [h.k hs]
  refine z_istore_n zi_45_4 rfl ?_
  refine z_iload_n zi_45_5 rfl ?_
  refine z_iconst zi_45_6 ?_
  refine z_icmp_eq zi_45_7 (by omega) (fun c => ?_) (fun c => ?_)
  · refine z_iconst zi_45_11 ?_
    refine z_goto zi_45_12 ?_
    refine z_zreturn zi_45_14 rfl (by omega) (kt (by omega))
  · refine z_iload_n zi_45_8 rfl ?_
    refine z_iconst zi_45_9 ?_
    refine z_icmp_ne zi_45_10 (by omega) (fun c2 => ?_) (fun c2 => ?_)
    · refine z_iconst zi_45_13 ?_
      refine z_zreturn zi_45_14 rfl (by omega) (kf (by omega))
    · refine z_iconst zi_45_11 ?_
      refine z_goto zi_45_12 ?_
      refine z_zreturn zi_45_14 rfl (by omega) (kt (by omega))
theorem s_setNotLaid {a : Int} {s : Nat} (hT : zTa T) (ha : a = (s : Int)) (hs : s < 12) (k : Kv (zup (zup (zup t (T + 4) s (-4)) (T + 5) s (-4)) (T + 6) s (-4))) : ZX (d + 1) 10 0 [(0, .ref T), (1, .int (zi a))] [] t (zKv Kv) := by
  refine z_aload_n zi_10_0 rfl ?_
  refine z_getfield zi_10_1 (zt_f4 hT) ?_
  refine z_iload_n zi_10_2 rfl ?_
  refine z_bipush zi_10_3 (by decide) ?_
  refine z_cs3v zi_10_4 rfl rfl rfl ⟨by decide, rfl, Nat.le_of_ble_eq_true rfl, Nat.le_of_ble_eq_true rfl⟩ (s_put (zt_a4 hT) (by omega) ha (by omega) ?_)
  refine z_aload_n zi_10_5 rfl ?_
  refine z_getfield zi_10_6 (zt_f5 hT) ?_
  refine z_iload_n zi_10_7 rfl ?_
  refine z_bipush zi_10_8 (by decide) ?_
  refine z_cs3v zi_10_9 rfl rfl rfl ⟨by decide, rfl, Nat.le_of_ble_eq_true rfl, Nat.le_of_ble_eq_true rfl⟩ (s_put (zt_a5 hT) (by omega) ha (by omega) ?_)
  refine z_aload_n zi_10_10 rfl ?_
  refine z_getfield zi_10_11 (zt_f6 hT) ?_
  refine z_iload_n zi_10_12 rfl ?_
  refine z_bipush zi_10_13 (by decide) ?_
  refine z_cs3v zi_10_14 rfl rfl rfl ⟨by decide, rfl, Nat.le_of_ble_eq_true rfl, Nat.le_of_ble_eq_true rfl⟩ (s_put (zt_a6 hT) (by omega) ha (by omega) ?_)
  refine z_vreturn zi_10_15 rfl k
end
