/-! the model: its game; in, isStone, teeth, add, stone, mark, placeOf, told, deal -/
theorem zm_f0 {t : zMI} : zf (zlf t) 50 4 0 = some (.ref 51) := rfl
theorem zm_f1 {t : zMI} : zf (zlf t) 50 4 1 = some (.int (zi (t 50 1))) := rfl
theorem zm_f2 {t : zMI} : zf (zlf t) 50 4 2 = some (.ref 52) := rfl
theorem zm_f3 {t : zMI} : zf (zlf t) 50 4 3 = some (.ref 53) := rfl
theorem zm_f4 {t : zMI} : zf (zlf t) 50 4 4 = some (.int (zi (t 50 4))) := rfl
theorem zm_f5 {t : zMI} : zf (zlf t) 50 4 5 = some (.ref 54) := rfl
theorem zm_f6 {t : zMI} : zf (zlf t) 50 4 6 = some (.int (zi (t 50 6))) := rfl
theorem zm_f7 {t : zMI} : zf (zlf t) 50 4 7 = some (.int (zi (t 50 7))) := rfl
theorem zm_f8 {t : zMI} : zf (zlf t) 50 4 8 = some (.ref 55) := rfl
theorem zm_f9 {t : zMI} : zf (zlf t) 50 4 9 = some (.int (zi (t 50 9))) := rfl
theorem zm_f10 {t : zMI} : zf (zlf t) 50 4 10 = some (.int (zi (t 50 10))) := rfl
theorem zm_f11 {t : zMI} : zf (zlf t) 50 4 11 = some (.int (zi (t 50 11))) := rfl
theorem zm_f12 {t : zMI} : zf (zlf t) 50 4 12 = some (.ref 56) := rfl
theorem zm_f13 {t : zMI} : zf (zlf t) 50 4 13 = some (.ref 57) := rfl
theorem zm_f14 {t : zMI} : zf (zlf t) 50 4 14 = some (.ref 58) := rfl
theorem zm_f15 {t : zMI} : zf (zlf t) 50 4 15 = some (.ref 59) := rfl
theorem zm_f16 {t : zMI} : zf (zlf t) 50 4 16 = some (.ref 60) := rfl
theorem zm_f17 {t : zMI} : zf (zlf t) 50 4 17 = some (.int (zi (t 50 17))) := rfl
theorem zm_f18 {t : zMI} : zf (zlf t) 50 4 18 = some (.ref 61) := rfl
theorem zm_f19 {t : zMI} : zf (zlf t) 50 4 19 = some (.ref 62) := rfl
theorem zm_f20 {t : zMI} : zf (zlf t) 50 4 20 = some (.ref 63) := rfl
theorem zm_f21 {t : zMI} : zf (zlf t) 50 4 21 = some (.ref 64) := rfl
theorem zm_f22 {t : zMI} : zf (zlf t) 50 4 22 = some (.ref 65) := rfl
theorem zm_f23 {t : zMI} : zf (zlf t) 50 4 23 = some (.ref 66) := rfl
theorem zm_f24 {t : zMI} : zf (zlf t) 50 4 24 = some (.ref 67) := rfl
theorem zm_f25 {t : zMI} : zf (zlf t) 50 4 25 = some (.ref 68) := rfl
theorem zm_f26 {t : zMI} : zf (zlf t) 50 4 26 = some (.ref 69) := rfl
theorem zm_f27 {t : zMI} : zf (zlf t) 50 4 27 = some (.int (zi (t 50 27))) := rfl
def zRS (t : zMI) (g : zG) : Prop :=
  (t 50 1 = (gN g : Int) ∧ t 50 4 = (gL g : Int) ∧ t 50 6 = gO g ∧ t 50 7 = gD g) ∧ (∀ s, s < gN g → t 51 (6 * s) = gK g s ∧ t 51 (6 * s + 5) = gH g s) ∧
  (∀ s w, s < gN g → w < 2 → t 51 (6 * s + 1 + w) = gT g s w ∧ t 51 (6 * s + 3 + w) = gM g s w) ∧ (∀ p, p < gL g → t 52 p = (gR g p : Int) ∧ t 53 p = (gF g p : Int)) ∧ (t 54 0 = gS g 0 ∧ t 54 1 = gS g 1)
theorem zRS.n {t : zMI} {g : zG} (h : zRS t g) : t 50 1 = (gN g : Int) := h.1.1
theorem zRS.l {t : zMI} {g : zG} (h : zRS t g) : t 50 4 = (gL g : Int) := h.1.2.1
theorem zRS.o {t : zMI} {g : zG} (h : zRS t g) : t 50 6 = gO g := h.1.2.2.1
theorem zRS.d {t : zMI} {g : zG} (h : zRS t g) : t 50 7 = gD g := h.1.2.2.2
theorem zRS.k {t : zMI} {g : zG} (h : zRS t g) {s : Nat} (hs : s < gN g) : t 51 (6 * s) = gK g s := (h.2.1 s hs).1
theorem zRS.h {t : zMI} {g : zG} (h : zRS t g) {s : Nat} (hs : s < gN g) : t 51 (6 * s + 5) = gH g s := (h.2.1 s hs).2
theorem zRS.t {t : zMI} {g : zG} (h : zRS t g) {s w : Nat} (hs : s < gN g) (hw : w < 2) : t 51 (6 * s + 1 + w) = gT g s w := (h.2.2.1 s w hs hw).1
theorem zRS.m {t : zMI} {g : zG} (h : zRS t g) {s w : Nat} (hs : s < gN g) (hw : w < 2) : t 51 (6 * s + 3 + w) = gM g s w := (h.2.2.1 s w hs hw).2
theorem zRS.r {t : zMI} {g : zG} (h : zRS t g) {p : Nat} (hp : p < gL g) : t 52 p = (gR g p : Int) := (h.2.2.2.1 p hp).1
theorem zRS.f {t : zMI} {g : zG} (h : zRS t g) {p : Nat} (hp : p < gL g) : t 53 p = (gF g p : Int) := (h.2.2.2.1 p hp).2
theorem zRS.s {t : zMI} {g : zG} (h : zRS t g) {w : Nat} (hw : w < 2) : t 54 w = gS g w := by
  rcases (by omega : w = 0 ∨ w = 1) with rfl | rfl
  · exact h.2.2.2.2.1
  · exact h.2.2.2.2.2
/-- what no game call of the model touches -/
def zFA (t t' : zMI) : Prop := (∀ k, k < 50 ∨ k = 55 ∨ (61 ≤ k ∧ k ≤ 66) → t' k = t k) ∧ t' 50 9 = t 50 9 ∧ t' 50 17 = t 50 17
theorem zFA.rf {t : zMI} : zFA t t := ⟨fun _ _ => rfl, rfl, rfl⟩
theorem zFA.tr {t t' t'' : zMI} (h : zFA t t') (h' : zFA t' t'') : zFA t t'' := ⟨fun k hk => (h'.1 k hk).trans (h.1 k hk), h'.2.1.trans h.2.1, h'.2.2.trans h.2.2⟩
theorem zFA.up {t t' : zMI} (h : zFA t t') {b n : Nat} {v : Int} (hb : (51 ≤ b ∧ b < 55) ∨ (56 ≤ b ∧ b < 61) ∨ 67 ≤ b ∨ (b = 50 ∧ n ≠ 9 ∧ n ≠ 17)) : zFA t (zup t' b n v) := by
  refine ⟨fun k hk => (zup_o (by omega)).trans (h.1 k hk), ?_, ?_⟩
  · by_cases z : b = 50
    · subst z; rw [zup_n (by omega)]; exact h.2.1
    · rw [zup_o (by omega)]; exact h.2.1
  · by_cases z : b = 50
    · subst z; rw [zup_n (by omega)]; exact h.2.2
    · rw [zup_o (by omega)]; exact h.2.2
theorem zRS_congr {t t' : zMI} {g : zG} (h : zRS t g) (e : ∀ k, 51 ≤ k → k < 55 → t' k = t k) (e1 : t' 50 1 = t 50 1) (e2 : t' 50 4 = t 50 4) (e3 : t' 50 6 = t 50 6) (e4 : t' 50 7 = t 50 7) : zRS t' g := by
  unfold zRS
  rw [e1, e2, e3, e4, e 51 (by omega) (by omega), e 52 (by omega) (by omega), e 53 (by omega) (by omega), e 54 (by omega) (by omega)]
  exact h
theorem zRS_up {t : zMI} {g : zG} (h : zRS t g) {b n : Nat} {v : Int} (hb : b < 50 ∨ 55 ≤ b ∨ (b = 50 ∧ 8 ≤ n)) : zRS (zup t b n v) g := by
  refine zRS_congr h (fun k h1 h2 => zup_o (by omega)) ?_ ?_ ?_ ?_ <;>
  · by_cases z : b = 50
    · subst z; exact zup_n (by omega)
    · rw [zup_o (by omega)]
theorem zlcmp {a b : Int} (ha : -9223372036854775808 ≤ a ∧ a < 9223372036854775808) (hb : -9223372036854775808 ≤ b ∧ b < 9223372036854775808) : lg_cmp (zj a) (zj b) = zi (if b < a then 1 else if a = b then 0 else -1) := by
  have h1 : zj a > zj b ↔ b < a := by
    show zj b < zj a ↔ _
    rw [Int64.lt_iff_toInt_lt, zj_toInt ha, zj_toInt hb]
  have h2 : zj a = zj b ↔ a = b := by
    rw [← Int64.toInt_inj, zj_toInt ha, zj_toInt hb]
  unfold lg_cmp
  by_cases z : b < a
  · rw [if_pos z, if_pos (h1.mpr z)]; rfl
  · rw [if_neg z, if_neg (fun y => z (h1.mp y))]
    by_cases z2 : a = b
    · rw [if_pos z2, if_pos (h2.mpr z2)]; rfl
    · rw [if_neg z2, if_neg (fun y => z2 (h2.mp y))]; rfl
section
variable {d : Nat} {t : zMI} {g : zG} {sh : gSh} {K : Int → zMI → Prop} {Kv : zMI → Prop}
theorem s_in {a b c : Int} (h : (-9223372036854775808 ≤ a ∧ a < 9223372036854775808) ∧ (-9223372036854775808 ≤ b ∧ b < 9223372036854775808) ∧ (-9223372036854775808 ≤ c ∧ c < 9223372036854775808)) (kt : b ≤ a ∧ a ≤ c → K 1 t) (kf : ¬ (b ≤ a ∧ a ≤ c) → K 0 t) : ZX d 112 0 [(0, .long (zj a)), (2, .long (zj b)), (4, .long (zj c))] [] t (zKi K) := by
  have r1 : -2147483648 ≤ (if b < a then (1 : Int) else if a = b then 0 else -1) ∧ (if b < a then (1 : Int) else if a = b then 0 else -1) < 2147483648 := by
    split
    · omega
    · split <;> omega
  have r2 : -2147483648 ≤ (if c < a then (1 : Int) else if a = c then 0 else -1) ∧ (if c < a then (1 : Int) else if a = c then 0 else -1) < 2147483648 := by
    split
    · omega
    · split <;> omega
  refine z_lload_n zi_112_0 rfl ?_
  refine z_lload_n zi_112_1 rfl ?_
  refine z_lcmp zi_112_2 (zlcmp h.1 h.2.1) ?_
  refine z_if_lt zi_112_3 r1 (fun q => ?_) (fun q => ?_)
  · have : a < b := by
      by_cases z : b < a
      · rw [if_pos z] at q; omega
      · rw [if_neg z] at q
        by_cases z2 : a = b
        · rw [if_pos z2] at q; omega
        · omega
    refine z_iconst zi_112_10 ?_
    refine z_zreturn zi_112_11 rfl (by omega) (kf (by omega))
  · have hab : b ≤ a := by
      by_cases z : b ≤ a
      · exact z
      · rw [if_neg (by omega), if_neg (by omega)] at q; omega
    refine z_lload_n zi_112_4 rfl ?_
    refine z_lload zi_112_5 rfl ?_
    refine z_lcmp zi_112_6 (zlcmp h.1 h.2.2) ?_
    refine z_if_gt zi_112_7 r2 (fun q2 => ?_) (fun q2 => ?_)
    · have : c < a := by
        by_cases z : c < a
        · exact z
        · rw [if_neg z] at q2
          by_cases z2 : a = c
          · rw [if_pos z2] at q2; omega
          · rw [if_neg z2] at q2; omega
      refine z_iconst zi_112_10 ?_
      refine z_zreturn zi_112_11 rfl (by omega) (kf (by omega))
    · have : a ≤ c := by
        by_cases z : c < a
        · rw [if_pos z] at q2; omega
        · omega
      refine z_iconst zi_112_8 ?_
      refine z_goto zi_112_9 ?_
      refine z_zreturn zi_112_11 rfl (by omega) (kt (by omega))
end
theorem z_in {d m i j : Nat} {lv : List (Nat × Value)} {st : List Value} {t : zMI} {Q : Option Value → zMI → Prop} {x p1 p2 : Nat} {a b c : Int} (hc : zat m i j (.invokestatic x) [112, p1, p2]) (h : (-9223372036854775808 ≤ a ∧ a < 9223372036854775808) ∧ (-9223372036854775808 ≤ b ∧ b < 9223372036854775808) ∧ (-9223372036854775808 ≤ c ∧ c < 9223372036854775808)) (hcat : zcat st ≤ 8)
    (kt : b ≤ a ∧ a ≤ c → ZX (d + 1) m j lv (.int (zi 1) :: st) t Q) (kf : ¬ (b ≤ a ∧ a ≤ c) → ZX (d + 1) m j lv (.int (zi 0) :: st) t Q) : ZX (d + 1) m i lv (.long (zj c) :: .long (zj b) :: .long (zj a) :: st) t Q := by
  refine z_cs [.long (zj a), .long (zj b), .long (zj c)] st hc rfl (by decide) rfl (Nat.le_of_ble_eq_true rfl) hcat (s_in (K := fun v t2 => ZX (d + 1) m j lv (.int (zi v) :: st) t2 Q) h kt kf) ?_
  rintro r t2 ⟨v, rfl, hq⟩
  exact hq
def gPn (g : zG) (n s : Nat) : Int := match gpl (gR g) n s with
  | some p => (p : Int)
  | none => -4
theorem gPn_s (g : zG) (n s : Nat) : gPn g (n + 1) s = if gR g n = s then (n : Int) else gPn g n s := by
  unfold gPn
  show (match (if gR g n = s then some n else gpl (gR g) n s) with | some p => _ | none => _) = _
  by_cases h : gR g n = s
  · rw [if_pos h, if_pos h]
  · rw [if_neg h, if_neg h]
theorem gPn_rng (g : zG) (s : Nat) : ∀ n : Nat, -4 ≤ gPn g n s ∧ gPn g n s < (n : Int) + 1
  | 0 => by unfold gPn gpl; dsimp only; omega
  | n + 1 => by
    have := gPn_rng g s n
    rw [gPn_s]
    split <;> omega
section
variable {d : Nat} {t : zMI} {g : zG} {sh : gSh} {K : Int → zMI → Prop} {Kv : zMI → Prop}
theorem m_isStone {a : Int} (h : zRS t g) (hw : gWF g) (r1 : -2147483648 ≤ a ∧ a < 2147483648) (kt : 0 ≤ a ∧ a < gN g → K 1 t) (kf : ¬ (0 ≤ a ∧ a < gN g) → K 0 t) : ZX (d + 1) 113 0 [(0, .ref 50), (1, .int (zi a))] [] t (zKi K) := by
  have hn := hw.n
  refine z_iload_n zi_113_0 rfl ?_
  refine z_i2l zi_113_1 (by omega) ?_
  refine z_lconst (v := 0) zi_113_2 (by decide) ?_
  refine z_aload_n zi_113_3 rfl ?_
  refine z_getfield zi_113_4 zm_f1 ?_
  rw [h.n]
  refine z_iconst zi_113_5 ?_
  refine z_isub zi_113_6 ?_
  refine z_i2l zi_113_7 (by omega) ?_
  refine z_in zi_113_8 (by omega) (Nat.le_of_ble_eq_true rfl) (fun q => ?_) (fun q => ?_)
  · refine z_zreturn zi_113_9 rfl (by omega) (kt (by omega))
  · refine z_zreturn zi_113_9 rfl (by omega) (kf (by omega))
theorem m_teeth {a b : Int} {s w : Nat} (h : zRS t g) (hw : gWF g) (ha : a = (s : Int)) (hs : s < gN g) (hb : b = (w : Int)) (hw2 : w < 2) (k : K (gT g s w) t) : ZX d 114 0 [(0, .ref 50), (1, .int (zi a)), (2, .int (zi b))] [] t (zKi K) := by
  have hn := hw.n
  refine z_aload_n zi_114_0 rfl ?_
  refine z_getfield zi_114_1 zm_f0 ?_
  refine z_bipush zi_114_2 (by decide) ?_
  refine z_iload_n zi_114_3 rfl ?_
  refine z_imul zi_114_4 ?_
  refine z_iconst zi_114_5 ?_
  refine z_iadd zi_114_6 ?_
  refine z_iload_n zi_114_7 rfl ?_
  refine z_iadd zi_114_8 ?_
  refine z_iaload (n := 6 * s + 1 + w) zi_114_9 rfl (by omega) (by omega) (by omega) ?_
  rw [h.t hs hw2]
  refine z_ireturn zi_114_10 rfl k
theorem zRS_add (h : zRS t g) (hw : gWF g) (kd a b m0 m1 : Int) : zRS (zup (zup (zup (zup (zup (zup (zup t 51 (6 * gN g) kd) 51 (6 * gN g + 1) a) 51 (6 * gN g + 2) b) 51 (6 * gN g + 3) m0) 51 (6 * gN g + 4) m1) 51 (6 * gN g + 5) (-4)) 50 1 ((gN g : Int) + 1)) (gad5 g (kd, a, b, m0, m1)) := by
  refine ⟨⟨?_, ?_, ?_, ?_⟩, fun s' hs' => ?_, fun s' w hs' hw' => ?_, fun p hp => ?_, ?_, ?_⟩
  · rw [zup_s]; show (gN g : Int) + 1 = ((gN g + 1 : Nat) : Int); omega
  · simp (disch := omega) only [zup_o, zup_n]; exact h.l
  · simp (disch := omega) only [zup_o, zup_n]; exact h.o
  · simp (disch := omega) only [zup_o, zup_n]; exact h.d
  · have hs2 : s' < gN g + 1 := hs'
    show _ = fup (gK g) (gN g) kd s' ∧ _ = fup (gH g) (gN g) (-4) s'
    unfold fup
    by_cases q : s' = gN g
    · subst q
      rw [if_pos rfl, if_pos rfl]
      simp (disch := omega) only [zup_o, zup_n, zup_s]
      exact ⟨trivial, trivial⟩
    · rw [if_neg q, if_neg q]
      simp (disch := omega) only [zup_o, zup_n]
      exact ⟨h.k (by omega), h.h (by omega)⟩
  · have hs2 : s' < gN g + 1 := hs'
    show _ = fup2 (fup2 (gT g) (gN g) 0 a) (gN g) 1 b s' w ∧ _ = fup2 (fup2 _ (gN g) 0 m0) (gN g) 1 m1 s' w
    unfold fup2
    by_cases q : s' = gN g
    · subst q
      rcases (by omega : w = 0 ∨ w = 1) with rfl | rfl
      · rw [if_neg (by omega), if_pos (by omega), if_neg (by omega), if_pos (by omega)]
        simp (disch := omega) only [zup_o, zup_n, zup_s]
        exact ⟨trivial, trivial⟩
      · rw [if_pos (by omega), if_pos (by omega)]
        simp (disch := omega) only [zup_o, zup_n, zup_s]
        exact ⟨trivial, trivial⟩
    · rw [if_neg (by omega), if_neg (by omega), if_neg (by omega), if_neg (by omega)]
      simp (disch := omega) only [zup_o, zup_n]
      exact ⟨h.t (by omega) hw', h.m (by omega) hw'⟩
  · simp (disch := omega) only [zup_o]; exact ⟨h.r hp, h.f hp⟩
  · simp (disch := omega) only [zup_o]; exact h.s (w := 0) (by omega)
  · simp (disch := omega) only [zup_o]; exact h.s (w := 1) (by omega)
theorem m_add {kd a b m0 m1 : Int} (h : zRS t g) (hw : gWF g) (hN : gN g < 12) (k : ∀ t', zRS t' (gad5 g (kd, a, b, m0, m1)) → zFA t t' → (∀ n, n ≠ 1 → t' 50 n = t 50 n) → (∀ q, 55 ≤ q → t' q = t q) → Kv t') : ZX d 115 0 [(0, .ref 50), (1, .int (zi kd)), (2, .int (zi a)), (3, .int (zi b)), (4, .int (zi m0)), (5, .int (zi m1))] [] t (zKv Kv) := by
  refine z_bipush zi_115_0 (by decide) ?_
  refine z_aload_n zi_115_1 rfl ?_
  refine z_getfield zi_115_2 zm_f1 ?_
  rw [h.n]
  refine z_imul zi_115_3 ?_
  refine z_istore zi_115_4 rfl ?_
  refine z_aload_n zi_115_5 rfl ?_
  refine z_getfield zi_115_6 zm_f0 ?_
  refine z_iload zi_115_7 rfl ?_
  refine z_iload_n zi_115_8 rfl ?_
  refine z_iastore (n := 6 * gN g) zi_115_9 rfl (by omega) (by omega) (by omega) ?_
  refine z_aload_n zi_115_10 rfl ?_
  refine z_getfield zi_115_11 zm_f0 ?_
  refine z_iload zi_115_12 rfl ?_
  refine z_iconst zi_115_13 ?_
  refine z_iadd zi_115_14 ?_
  refine z_iload_n zi_115_15 rfl ?_
  refine z_iastore (n := 6 * gN g + 1) zi_115_16 rfl (by omega) (by omega) (by omega) ?_
  refine z_aload_n zi_115_17 rfl ?_
  refine z_getfield zi_115_18 zm_f0 ?_
  refine z_iload zi_115_19 rfl ?_
  refine z_iconst zi_115_20 ?_
  refine z_iadd zi_115_21 ?_
  refine z_iload_n zi_115_22 rfl ?_
  refine z_iastore (n := 6 * gN g + 2) zi_115_23 rfl (by omega) (by omega) (by omega) ?_
  refine z_aload_n zi_115_24 rfl ?_
  refine z_getfield zi_115_25 zm_f0 ?_
  refine z_iload zi_115_26 rfl ?_
  refine z_iconst zi_115_27 ?_
  refine z_iadd zi_115_28 ?_
  refine z_iload zi_115_29 rfl ?_
  refine z_iastore (n := 6 * gN g + 3) zi_115_30 rfl (by omega) (by omega) (by omega) ?_
  refine z_aload_n zi_115_31 rfl ?_
  refine z_getfield zi_115_32 zm_f0 ?_
  refine z_iload zi_115_33 rfl ?_
  refine z_iconst zi_115_34 ?_
  refine z_iadd zi_115_35 ?_
  refine z_iload zi_115_36 rfl ?_
  refine z_iastore (n := 6 * gN g + 4) zi_115_37 rfl (by omega) (by omega) (by omega) ?_
  refine z_aload_n zi_115_38 rfl ?_
  refine z_getfield zi_115_39 zm_f0 ?_
  refine z_iload zi_115_40 rfl ?_
  refine z_iconst zi_115_41 ?_
  refine z_iadd zi_115_42 ?_
  refine z_bipush zi_115_43 (by decide) ?_
  refine z_iastore (n := 6 * gN g + 5) zi_115_44 rfl (by omega) (by omega) (by omega) ?_
  refine z_aload_n zi_115_45 rfl ?_
  refine z_dup zi_115_46 rfl ?_
  refine z_getfield zi_115_47 zm_f1 ?_
  simp (disch := omega) only [zup_o]
  rw [h.n]
  refine z_iconst zi_115_48 ?_
  refine z_iadd zi_115_49 ?_
  refine z_putfield zi_115_50 rfl (Or.inl rfl) ?_
  refine z_vreturn zi_115_51 rfl (k _ (zRS_add h hw kd a b m0 m1) ?_ (fun n hn => ?_) (fun q hq => ?_))
  · refine ((((((zFA.rf.up ?_).up ?_).up ?_).up ?_).up ?_).up ?_).up ?_ <;> omega
  · simp (disch := omega) only [zup_o, zup_n]
  · simp (disch := omega) only [zup_o]
theorem m_stone {kd a b : Int} (h : zRS t g) (hw : gWF g) (r1 : -2147483648 ≤ kd ∧ kd < 2147483648) (r2 : -2147483648 ≤ a ∧ a < 2147483648) (r3 : -2147483648 ≤ b ∧ b < 2147483648) (k : ∀ t', zRS t' (oStone g kd a b).2 → zFA t t' → K (oStone g kd a b).1 t') : ZX (d + 1) 116 0 [(0, .ref 50), (1, .int (zi kd)), (2, .int (zi a)), (3, .int (zi b))] [] t (zKi K) := by
  have hn := hw.n
  have bad : ¬ ((0 ≤ kd ∧ kd ≤ 3) ∧ (3 ≤ a ∧ a ≤ 9) ∧ (3 ≤ b ∧ b ≤ 9)) → K (-1) t := fun q => by
    have := k t
    unfold oStone at this
    rw [if_neg q] at this
    exact this h zFA.rf
  refine z_iload_n zi_116_0 rfl ?_
  refine z_i2l zi_116_1 (by omega) ?_
  refine z_lconst (v := 0) zi_116_2 (by decide) ?_
  refine z_ldc2_w (v := 3) zi_116_3 rfl ?_
  refine z_in zi_116_4 (by omega) (Nat.le_of_ble_eq_true rfl) (fun q1 => ?_) (fun q1 => ?_)
  · refine z_if_eq_f zi_116_5 (by omega) (by omega) ?_
    refine z_iload_n zi_116_6 rfl ?_
    refine z_i2l zi_116_7 (by omega) ?_
    refine z_ldc2_w (v := 3) zi_116_8 rfl ?_
    refine z_ldc2_w (v := 9) zi_116_9 rfl ?_
    refine z_in zi_116_10 (by omega) (Nat.le_of_ble_eq_true rfl) (fun q2 => ?_) (fun q2 => ?_)
    · refine z_if_eq_f zi_116_11 (by omega) (by omega) ?_
      refine z_iload_n zi_116_12 rfl ?_
      refine z_i2l zi_116_13 (by omega) ?_
      refine z_ldc2_w (v := 3) zi_116_14 rfl ?_
      refine z_ldc2_w (v := 9) zi_116_15 rfl ?_
      refine z_in zi_116_16 (by omega) (Nat.le_of_ble_eq_true rfl) (fun q3 => ?_) (fun q3 => ?_)
      · refine z_if_ne_t zi_116_17 (by omega) (by omega) ?_
        unfold oStone at k
        rw [if_pos ⟨q1, q2, q3⟩] at k
        refine z_aload_n zi_116_20 rfl ?_
        refine z_getfield zi_116_21 zm_f1 ?_
        rw [h.n]
        refine z_bipush zi_116_22 (by decide) ?_
        refine z_icmp_ne zi_116_23 (by omega) (fun c => ?_) (fun c => ?_)
        · rw [if_neg (by omega)] at k
          refine z_aload_n zi_116_26 rfl ?_
          refine z_iload_n zi_116_27 rfl ?_
          refine z_iload_n zi_116_28 rfl ?_
          refine z_iload_n zi_116_29 rfl ?_
          refine z_iconst zi_116_30 ?_
          refine z_iconst zi_116_31 ?_
          refine z_cv [.int (zi kd), .int (zi a), .int (zi b), .int (zi 0), .int (zi 0)] [] zi_116_32 rfl rfl (Nat.le_of_ble_eq_true rfl) rfl (Nat.le_of_ble_eq_true rfl) (m_add (Kv := fun t' => zRS t' (gad5 g (kd, a, b, 0, 0)) ∧ zFA t t') h hw (by omega) (fun t' h1 h2 _ _ => ⟨h1, h2⟩)) ?_
          rintro r t2 ⟨rfl, h2, f2⟩
          show ZX (d + 1) 116 33 _ [] t2 _
          refine z_aload_n zi_116_33 rfl ?_
          refine z_getfield zi_116_34 zm_f1 ?_
          rw [h2.n]
          refine z_iconst zi_116_35 ?_
          refine z_isub zi_116_36 ?_
          have e : ((gN (gad5 g (kd, a, b, 0, 0)) : Nat) : Int) - 1 = (gN g : Int) := by show ((gN g + 1 : Nat) : Int) - 1 = _; omega
          rw [e]
          refine z_ireturn zi_116_37 rfl (k t2 h2 f2)
        · rw [if_pos (by omega)] at k
          refine z_bipush zi_116_24 (by decide) ?_
          refine z_ireturn zi_116_25 rfl (k t h zFA.rf)
      · refine z_if_ne_f zi_116_17 (by omega) (by omega) ?_
        refine z_iconst zi_116_18 ?_
        refine z_ireturn zi_116_19 rfl (bad (fun z => q3 z.2.2))
    · refine z_if_eq_t zi_116_11 (by omega) (by omega) ?_
      refine z_iconst zi_116_18 ?_
      refine z_ireturn zi_116_19 rfl (bad (fun z => q2 z.2.1))
  · refine z_if_eq_t zi_116_5 (by omega) (by omega) ?_
    refine z_iconst zi_116_18 ?_
    refine z_ireturn zi_116_19 rfl (bad (fun z => q1 z.1))
theorem zRS_M (h : zRS t g) {s w : Nat} (hs : s < gN g) (hw : w < 2) (v : Int) : zRS (zup t 51 (6 * s + 3 + w) v) (gsM g (fup2 (gM g) s w v)) := by
  refine ⟨⟨?_, ?_, ?_, ?_⟩, fun s' hs' => ?_, fun s' w' hs' hw' => ?_, fun p hp => ?_, ?_, ?_⟩
  · rw [zup_o (by omega)]; exact h.n
  · rw [zup_o (by omega)]; exact h.l
  · rw [zup_o (by omega)]; exact h.o
  · rw [zup_o (by omega)]; exact h.d
  · rw [zup_n (by omega), zup_n (by omega)]; exact ⟨h.k hs', h.h hs'⟩
  · rw [zup_n (by omega)]
    refine ⟨h.t hs' hw', ?_⟩
    show zup t 51 (6 * s + 3 + w) v 51 (6 * s' + 3 + w') = fup2 (gM g) s w v s' w'
    rw [zup_at]
    unfold fup2
    by_cases e : s' = s ∧ w' = w
    · rw [if_pos e, if_pos (by omega)]
    · rw [if_neg e, if_neg (by omega)]
      exact h.m hs' hw'
  · rw [zup_o (by omega), zup_o (by omega)]; exact ⟨h.r hp, h.f hp⟩
  · rw [zup_o (by omega)]; exact h.s (w := 0) (by omega)
  · rw [zup_o (by omega)]; exact h.s (w := 1) (by omega)
theorem zRS_H (h : zRS t g) {s : Nat} (v : Int) : zRS (zup t 51 (6 * s + 5) v) (gsH g (fup (gH g) s v)) := by
  refine ⟨⟨?_, ?_, ?_, ?_⟩, fun s' hs' => ?_, fun s' w' hs' hw' => ?_, fun p hp => ?_, ?_, ?_⟩
  · rw [zup_o (by omega)]; exact h.n
  · rw [zup_o (by omega)]; exact h.l
  · rw [zup_o (by omega)]; exact h.o
  · rw [zup_o (by omega)]; exact h.d
  · rw [zup_n (by omega)]
    refine ⟨h.k hs', ?_⟩
    show _ = fup (gH g) s v s'
    rw [zup_at]
    unfold fup
    by_cases e : s' = s
    · rw [if_pos e, if_pos (by omega)]
    · rw [if_neg e, if_neg (by omega)]
      exact h.h hs'
  · rw [zup_n (by omega), zup_n (by omega)]; exact ⟨h.t hs' hw', h.m hs' hw'⟩
  · rw [zup_o (by omega), zup_o (by omega)]; exact ⟨h.r hp, h.f hp⟩
  · rw [zup_o (by omega)]; exact h.s (w := 0) (by omega)
  · rw [zup_o (by omega)]; exact h.s (w := 1) (by omega)
theorem m_mark {s w v : Int} (h : zRS t g) (hw : gWF g) (r1 : -2147483648 ≤ s ∧ s < 2147483648) (r2 : -2147483648 ≤ w ∧ w < 2147483648) (r3 : -2147483648 ≤ v ∧ v < 2147483648) (k : ∀ t', zRS t' (oMark g s w v).2 → zFA t t' → K (oMark g s w v).1 t') : ZX (d + 2) 117 0 [(0, .ref 50), (1, .int (zi s)), (2, .int (zi w)), (3, .int (zi v))] [] t (zKi K) := by
  have hn := hw.n
  have bad : ¬ ((0 ≤ s ∧ s < gN g) ∧ (0 ≤ w ∧ w ≤ 1) ∧ (0 ≤ v ∧ v ≤ gT g s.toNat w.toNat - 1)) → K (-1) t := fun q => by
    have := k t
    unfold oMark at this
    rw [if_neg q] at this
    exact this h zFA.rf
  refine z_aload_n zi_117_0 rfl ?_
  refine z_iload_n zi_117_1 rfl ?_
  refine z_cv1i zi_117_2 rfl rfl ⟨rfl, Nat.le_of_ble_eq_true rfl, Nat.le_of_ble_eq_true rfl⟩ (m_isStone h hw r1 (fun q1 => ?_) (fun q1 => ?_))
  · refine z_if_eq_f zi_117_3 (by omega) (by omega) ?_
    refine z_iload_n zi_117_4 rfl ?_
    refine z_i2l zi_117_5 (by omega) ?_
    refine z_lconst (v := 0) zi_117_6 (by decide) ?_
    refine z_lconst (v := 1) zi_117_7 (by decide) ?_
    refine z_in zi_117_8 (by omega) (Nat.le_of_ble_eq_true rfl) (fun q2 => ?_) (fun q2 => ?_)
    · refine z_if_eq_f zi_117_9 (by omega) (by omega) ?_
      obtain ⟨s, rfl⟩ : ∃ s' : Nat, s = s' := ⟨s.toNat, by omega⟩
      obtain ⟨w, rfl⟩ : ∃ w' : Nat, w = w' := ⟨w.toNat, by omega⟩
      have ht := hw.t (s := s) (w := w) (by omega) (by omega)
      unfold oMark at k
      rw [Int.toNat_natCast, Int.toNat_natCast] at k bad
      refine z_iload_n zi_117_10 rfl ?_
      refine z_i2l zi_117_11 (by omega) ?_
      refine z_lconst (v := 0) zi_117_12 (by decide) ?_
      refine z_aload_n zi_117_13 rfl ?_
      refine z_iload_n zi_117_14 rfl ?_
      refine z_iload_n zi_117_15 rfl ?_
      refine z_cv2i zi_117_16 rfl rfl rfl ⟨rfl, Nat.le_of_ble_eq_true rfl, Nat.le_of_ble_eq_true rfl⟩ (m_teeth (s := s) (w := w) h hw rfl (by omega) rfl (by omega) ?_)
      refine z_iconst zi_117_17 ?_
      refine z_isub zi_117_18 ?_
      refine z_i2l zi_117_19 (by omega) ?_
      refine z_in zi_117_20 (by omega) (Nat.le_of_ble_eq_true rfl) (fun q3 => ?_) (fun q3 => ?_)
      · rw [if_pos ⟨q1, q2, q3⟩] at k
        refine z_if_ne_t zi_117_21 (by omega) (by omega) ?_
        refine z_aload_n zi_117_24 rfl ?_
        refine z_getfield zi_117_25 zm_f0 ?_
        refine z_bipush zi_117_26 (by decide) ?_
        refine z_iload_n zi_117_27 rfl ?_
        refine z_imul zi_117_28 ?_
        refine z_iconst zi_117_29 ?_
        refine z_iadd zi_117_30 ?_
        refine z_iload_n zi_117_31 rfl ?_
        refine z_iadd zi_117_32 ?_
        refine z_iaload (n := 6 * s + 3 + w) zi_117_33 rfl (by omega) (by omega) (by omega) ?_
        rw [h.m (by omega) (by omega)]
        refine z_istore zi_117_34 rfl ?_
        refine z_aload_n zi_117_35 rfl ?_
        refine z_getfield zi_117_36 zm_f0 ?_
        refine z_bipush zi_117_37 (by decide) ?_
        refine z_iload_n zi_117_38 rfl ?_
        refine z_imul zi_117_39 ?_
        refine z_iconst zi_117_40 ?_
        refine z_iadd zi_117_41 ?_
        refine z_iload_n zi_117_42 rfl ?_
        refine z_iadd zi_117_43 ?_
        refine z_iload_n zi_117_44 rfl ?_
        refine z_iastore (n := 6 * s + 3 + w) zi_117_45 rfl (by omega) (by omega) (by omega) ?_
        refine z_iload zi_117_46 rfl ?_
        refine z_ireturn zi_117_47 rfl (k _ (zRS_M h (by omega) (by omega) v) (zFA.rf.up (by omega)))
      · refine z_if_ne_f zi_117_21 (by omega) (by omega) ?_
        refine z_iconst zi_117_22 ?_
        refine z_ireturn zi_117_23 rfl (bad (fun z => q3 z.2.2))
    · refine z_if_eq_t zi_117_9 (by omega) (by omega) ?_
      refine z_iconst zi_117_22 ?_
      refine z_ireturn zi_117_23 rfl (bad (fun z => q2 z.2.1))
  · refine z_if_eq_t zi_117_3 (by omega) (by omega) ?_
    refine z_iconst zi_117_22 ?_
    refine z_ireturn zi_117_23 rfl (bad (fun z => q1 z.1))
theorem m_placeOf {a : Int} {s : Nat} (h : zRS t g) (hw : gWF g) (ha : a = (s : Int)) (hs : s < 12) (k : K (gPi g s) t) : ZX d 118 0 [(0, .ref 50), (1, .int (zi a))] [] t (zKi K) := by
  subst ha
  have hn := hw.n
  have loop : ∀ (j n : Nat), n + j = gL g → ZX d 118 4 [(3, .int (zi n)), (2, .int (zi (gPn g n s))), (0, .ref 50), (1, .int (zi s))] [] t (zKi K) := by
    intro j
    induction j with
    | zero =>
      intro n e
      have e1 : n = gL g := by omega
      subst e1
      refine z_iload_n zi_118_4 rfl ?_
      refine z_aload_n zi_118_5 rfl ?_
      refine z_getfield zi_118_6 zm_f4 ?_
      rw [h.l]
      refine z_icmp_ge_t zi_118_7 (by omega) (by omega) ?_
      refine z_iload_n zi_118_20 rfl ?_
      refine z_ireturn zi_118_21 rfl k
    | succ j ih =>
      intro n e
      have hr := hw.r (p := n) (by omega)
      have hs2 := gPn_s g n s
      have ih := ih (n + 1) (by omega)
      refine z_iload_n zi_118_4 rfl ?_
      refine z_aload_n zi_118_5 rfl ?_
      refine z_getfield zi_118_6 zm_f4 ?_
      rw [h.l]
      refine z_icmp_ge_f zi_118_7 (by omega) (by omega) ?_
      refine z_aload_n zi_118_8 rfl ?_
      refine z_getfield zi_118_9 zm_f2 ?_
      refine z_iload_n zi_118_10 rfl ?_
      refine z_iaload (n := n) zi_118_11 rfl (by omega) (by omega) (by omega) ?_
      rw [h.r (by omega)]
      refine z_iload_n zi_118_12 rfl ?_
      refine z_icmp_ne zi_118_13 (by omega) (fun c => ?_) (fun c => ?_)
      · rw [if_neg (by omega)] at hs2
        rw [hs2] at ih
        refine z_iload_n zi_118_16 rfl ?_
        refine z_istore_n zi_118_17 rfl ?_
        refine z_iinc zi_118_18 rfl rfl ?_
        refine z_goto zi_118_19 ?_
        refine z_loc (lv' := [(3, .int (zi ((n + 1 : Nat) : Int))), (2, .int (zi (gPn g n s))), (0, .ref 50), (1, .int (zi s))]) rfl ?_
        exact ih
      · rw [if_pos (by omega)] at hs2
        rw [hs2] at ih
        refine z_iload_n zi_118_14 rfl ?_
        refine z_goto zi_118_15 ?_
        refine z_istore_n zi_118_17 rfl ?_
        refine z_iinc zi_118_18 rfl rfl ?_
        refine z_goto zi_118_19 ?_
        refine z_loc (lv' := [(3, .int (zi ((n + 1 : Nat) : Int))), (2, .int (zi (n : Int))), (0, .ref 50), (1, .int (zi s))]) rfl ?_
        exact ih
  refine z_bipush zi_118_0 (by decide) ?_
  refine z_istore_n zi_118_1 rfl ?_
  refine z_iconst zi_118_2 ?_
  refine z_istore_n zi_118_3 rfl ?_
  refine z_loc (lv' := [(3, .int (zi ((0 : Nat) : Int))), (2, .int (zi (gPn g 0 s))), (0, .ref 50), (1, .int (zi s))]) rfl ?_
  exact loop (gL g) 0 (by omega)
theorem m_told {s w : Int} (h : zRS t g) (hw : gWF g) (r1 : -2147483648 ≤ s ∧ s < 2147483648) (r2 : -2147483648 ≤ w ∧ w < 2147483648) (k : K (oTold g s w) t) : ZX (d + 2) 119 0 [(0, .ref 50), (1, .int (zi s)), (2, .int (zi w))] [] t (zKi K) := by
  have hn := hw.n
  unfold oTold at k
  refine z_aload_n zi_119_0 rfl ?_
  refine z_iload_n zi_119_1 rfl ?_
  refine z_cv1i zi_119_2 rfl rfl ⟨rfl, Nat.le_of_ble_eq_true rfl, Nat.le_of_ble_eq_true rfl⟩ (m_isStone h hw r1 (fun q1 => ?_) (fun q1 => ?_))
  · refine z_if_eq_f zi_119_3 (by omega) (by omega) ?_
    refine z_iload_n zi_119_4 rfl ?_
    refine z_i2l zi_119_5 (by omega) ?_
    refine z_lconst (v := 0) zi_119_6 (by decide) ?_
    refine z_ldc2_w (v := 7) zi_119_7 rfl ?_
    refine z_in zi_119_8 (by omega) (Nat.le_of_ble_eq_true rfl) (fun q2 => ?_) (fun q2 => ?_)
    · refine z_if_ne_t zi_119_9 (by omega) (by omega) ?_
      rw [if_pos ⟨q1, q2⟩] at k
      obtain ⟨s, rfl⟩ : ∃ s' : Nat, s = s' := ⟨s.toNat, by omega⟩
      obtain ⟨w, rfl⟩ : ∃ w' : Nat, w = w' := ⟨w.toNat, by omega⟩
      rw [Int.toNat_natCast] at k
      have hs : s < gN g := by omega
      have hP := gPi_rng hw s
      refine z_aload_n zi_119_12 rfl ?_
      refine z_iload_n zi_119_13 rfl ?_
      refine z_cv1i zi_119_14 rfl rfl ⟨rfl, Nat.le_of_ble_eq_true rfl, Nat.le_of_ble_eq_true rfl⟩ (m_placeOf h hw rfl (by omega) ?_)
      refine z_istore_n zi_119_15 rfl ?_
      refine z_iload_n zi_119_16 rfl ?_
      refine z_iconst zi_119_17 ?_
      refine z_icmp_ge zi_119_18 (by omega) (fun c => ?_) (fun c => ?_)
      · rw [if_neg (by omega), if_neg (by omega), if_neg (by omega)] at k
        refine z_iload_n zi_119_28 rfl ?_
        refine z_iconst zi_119_29 ?_
        refine z_icmp_ne zi_119_30 (by omega) (fun c2 => ?_) (fun c2 => ?_)
        · rw [if_neg (by omega)] at k
          refine z_iload_n zi_119_33 rfl ?_
          refine z_bipush zi_119_34 (by decide) ?_
          refine z_icmp_ne zi_119_35 (by omega) (fun c3 => ?_) (fun c3 => ?_)
          · rw [if_neg (by omega)] at k
            refine z_aload_n zi_119_45 rfl ?_
            refine z_getfield zi_119_46 zm_f0 ?_
            refine z_bipush zi_119_47 (by decide) ?_
            refine z_iload_n zi_119_48 rfl ?_
            refine z_imul zi_119_49 ?_
            refine z_iconst zi_119_50 ?_
            refine z_iadd zi_119_51 ?_
            refine z_iaload (n := 6 * s + 5) zi_119_52 rfl (by omega) (by omega) (by omega) ?_
            rw [h.h hs]
            refine z_ireturn zi_119_53 rfl k
          · rw [if_pos (by omega)] at k
            refine z_iload_n zi_119_36 rfl ?_
            unfold gFi at k
            unfold gPi at hP ⊢
            cases e : gP g s with
            | none =>
              rw [e] at k hP
              dsimp only at k hP ⊢
              refine z_if_ge_f zi_119_37 (by omega) (by omega) ?_
              refine z_bipush zi_119_38 (by decide) ?_
              refine z_goto zi_119_39 ?_
              refine z_ireturn zi_119_53 rfl k
            | some p =>
              rw [e] at k hP
              dsimp only at k hP ⊢
              have hp := (gP_some e).1
              refine z_if_ge_t zi_119_37 (by omega) (by omega) ?_
              refine z_aload_n zi_119_40 rfl ?_
              refine z_getfield zi_119_41 zm_f3 ?_
              refine z_iload_n zi_119_42 rfl ?_
              refine z_iaload (n := p) zi_119_43 rfl (by omega) (by omega) (by omega) ?_
              rw [h.f hp]
              refine z_goto zi_119_44 ?_
              refine z_ireturn zi_119_53 rfl k
        · rw [if_pos (by omega)] at k
          refine z_iload_n zi_119_31 rfl ?_
          refine z_goto zi_119_32 ?_
          refine z_ireturn zi_119_53 rfl k
      · refine z_aload_n zi_119_19 rfl ?_
        refine z_getfield zi_119_20 zm_f0 ?_
        refine z_bipush zi_119_21 (by decide) ?_
        refine z_iload_n zi_119_22 rfl ?_
        refine z_imul zi_119_23 ?_
        refine z_iload_n zi_119_24 rfl ?_
        refine z_iadd zi_119_25 ?_
        refine z_iaload (n := 6 * s + w) zi_119_26 rfl (by omega) (by omega) (by omega) ?_
        refine z_goto zi_119_27 ?_
        refine z_ireturn zi_119_53 rfl ?_
        rcases (by omega : w = 0 ∨ w = 1 ∨ w = 2 ∨ w = 3 ∨ w = 4) with rfl | rfl | rfl | rfl | rfl
        · rw [Nat.add_zero, h.k hs]; exact k
        · rw [h.t (w := 0) hs (by omega)]; exact k
        · rw [h.t (w := 1) hs (by omega)]; exact k
        · rw [h.m (w := 0) hs (by omega)]; exact k
        · rw [h.m (w := 1) hs (by omega)]; exact k
    · refine z_if_ne_f zi_119_9 (by omega) (by omega) ?_
      rw [if_neg (fun z => q2 z.2)] at k
      refine z_iconst zi_119_10 ?_
      refine z_ireturn zi_119_11 rfl k
  · refine z_if_eq_t zi_119_3 (by omega) (by omega) ?_
    rw [if_neg (fun z => q1 z.1)] at k
    refine z_iconst zi_119_10 ?_
    refine z_ireturn zi_119_11 rfl k
theorem m_deal {s a : Int} (h : zRS t g) (hw : gWF g) (r1 : -2147483648 ≤ s ∧ s < 2147483648) (r2 : -2147483648 ≤ a ∧ a < 2147483648) (k : ∀ t', zRS t' (oDeal g s a).2 → zFA t t' → K (oDeal g s a).1 t') : ZX (d + 2) 120 0 [(0, .ref 50), (1, .int (zi s)), (2, .int (zi a))] [] t (zKi K) := by
  have hn := hw.n
  unfold oDeal at k
  refine z_aload_n zi_120_0 rfl ?_
  refine z_iload_n zi_120_1 rfl ?_
  refine z_cv1i zi_120_2 rfl rfl ⟨rfl, Nat.le_of_ble_eq_true rfl, Nat.le_of_ble_eq_true rfl⟩ (m_isStone h hw r1 (fun q1 => ?_) (fun q1 => ?_))
  · refine z_if_eq_f zi_120_3 (by omega) (by omega) ?_
    refine z_iload_n zi_120_4 rfl ?_
    refine z_i2l zi_120_5 (by omega) ?_
    refine z_ldc2_w (v := -1) zi_120_6 rfl ?_
    refine z_lconst (v := 1) zi_120_7 (by decide) ?_
    refine z_in zi_120_8 (by omega) (Nat.le_of_ble_eq_true rfl) (fun q2 => ?_) (fun q2 => ?_)
    · refine z_if_ne_t zi_120_9 (by omega) (by omega) ?_
      rw [if_pos ⟨q1, q2⟩] at k
      obtain ⟨s, rfl⟩ : ∃ s' : Nat, s = s' := ⟨s.toNat, by omega⟩
      rw [Int.toNat_natCast] at k
      have hs : s < gN g := by omega
      have hP := gPi_rng hw s
      refine z_aload_n zi_120_12 rfl ?_
      refine z_iload_n zi_120_13 rfl ?_
      refine z_cv1i zi_120_14 rfl rfl ⟨rfl, Nat.le_of_ble_eq_true rfl, Nat.le_of_ble_eq_true rfl⟩ (m_placeOf h hw rfl (by omega) ?_)
      refine z_if_lt zi_120_15 (by omega) (fun c => ?_) (fun c => ?_)
      · rw [if_neg (by omega)] at k
        refine z_aload_n zi_120_18 rfl ?_
        refine z_getfield zi_120_19 zm_f0 ?_
        refine z_bipush zi_120_20 (by decide) ?_
        refine z_iload_n zi_120_21 rfl ?_
        refine z_imul zi_120_22 ?_
        refine z_iconst zi_120_23 ?_
        refine z_iadd zi_120_24 ?_
        refine z_iaload (n := 6 * s + 5) zi_120_25 rfl (by omega) (by omega) (by omega) ?_
        rw [h.h hs]
        refine z_istore_n zi_120_26 rfl ?_
        refine z_aload_n zi_120_27 rfl ?_
        refine z_getfield zi_120_28 zm_f0 ?_
        refine z_bipush zi_120_29 (by decide) ?_
        refine z_iload_n zi_120_30 rfl ?_
        refine z_imul zi_120_31 ?_
        refine z_iconst zi_120_32 ?_
        refine z_iadd zi_120_33 ?_
        refine z_iload_n zi_120_34 rfl ?_
        refine z_if_ge zi_120_35 (by omega) (fun c2 => ?_) (fun c2 => ?_)
        · rw [if_neg (by omega)] at k
          refine z_iload_n zi_120_38 rfl ?_
          refine z_iastore (n := 6 * s + 5) zi_120_39 rfl (by omega) (by omega) (by omega) ?_
          refine z_iload_n zi_120_40 rfl ?_
          refine z_ireturn zi_120_41 rfl (k _ (zRS_H h a) (zFA.rf.up (by omega)))
        · rw [if_pos (by omega)] at k
          refine z_bipush zi_120_36 (by decide) ?_
          refine z_goto zi_120_37 ?_
          refine z_iastore (n := 6 * s + 5) zi_120_39 rfl (by omega) (by omega) (by omega) ?_
          refine z_iload_n zi_120_40 rfl ?_
          refine z_ireturn zi_120_41 rfl (k _ (zRS_H h (-4)) (zFA.rf.up (by omega)))
      · rw [if_pos (by omega)] at k
        refine z_bipush zi_120_16 (by decide) ?_
        refine z_ireturn zi_120_17 rfl (k t h zFA.rf)
    · refine z_if_ne_f zi_120_9 (by omega) (by omega) ?_
      rw [if_neg (fun z => q2 z.2)] at k
      refine z_iconst zi_120_10 ?_
      refine z_ireturn zi_120_11 rfl (k t h zFA.rf)
  · refine z_if_eq_t zi_120_3 (by omega) (by omega) ?_
    rw [if_neg (fun z => q1 z.1)] at k
    refine z_iconst zi_120_10 ?_
    refine z_ireturn zi_120_11 rfl (k t h zFA.rf)
end
