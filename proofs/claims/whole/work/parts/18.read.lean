/-! texts: stones, one behind the other -/
theorem zTP_fr {t t' : zMI} {x : gTx} (h : zTP t x) (e1 : t' 37 1 = t 37 1) (e2 : t' 38 = t 38) : zTP t' x := ⟨e1.trans h.1, fun i hi => by rw [e2]; exact h.2.1 i hi, h.2.2.1, h.2.2.2⟩
/-- what a reader may change: the table T, and the place on the tape -/
def zFp (T : Nat) (t t' : zMI) : Prop := ∀ k j, (k < T ∨ T + 9 ≤ k) → ¬ (k = 37 ∧ j = 2) → t' k j = t k j
theorem zFp.rf {T : Nat} {t : zMI} : zFp T t t := fun _ _ _ _ => rfl
theorem zFp.tr {T : Nat} {t t' t'' : zMI} (h : zFp T t t') (h' : zFp T t' t'') : zFp T t t'' := fun k j hk hj => (h' k j hk hj).trans (h k j hk hj)
theorem zFp.up {T : Nat} {t : zMI} {v : Int} : zFp T t (zup t 37 2 v) := fun k j _ hj => by
  by_cases h : k = 37
  · rw [h, zup_n (fun q => hj ⟨h, q⟩)]
  · rw [zup_o h]
theorem zFp.fr {T : Nat} {t t' : zMI} (h : zFr T t t') : zFp T t t' := fun k j hk _ => by rw [h k hk]
theorem zTa_lt {T : Nat} (h : zTa T) : T + 9 ≤ 37 := by unfold zTa at h; omega
theorem zTP_fp {T : Nat} {t t' : zMI} {x : gTx} (hT : zTa T) (h : zTP t x) (f : zFp T t t') : zTP t' x := by
  have := zTa_lt hT
  exact zTP_fr h (f 37 1 (by omega) (by omega)) (funext fun j => f 38 j (by omega) (by omega))
theorem zTB_tape {T : Nat} {t : zMI} {g : zG} {v : Int} (hT : zTa T) (h : zTB T t g) : zTB T (zup t 37 2 v) g := by
  have := zTa_lt hT
  exact zTB_congr h (fun k _ hk => zup_o (by omega))
section
variable {d T : Nat} {t : zMI} {g : zG} {x : gTx} {K : Int → zMI → Prop} {Kv : zMI → Prop}
theorem s_readMark {a b : Int} {s w p : Nat} (hT : zTa T) (h : zTB T t g) (hw : gWF g) (hx : zTP t x) (hp : t 37 2 = (p : Int)) (hl : p ≤ x.1) (ha : a = (s : Int)) (hs : s < gN g) (hb : b = (w : Int)) (hw2 : w < 2)
    (kt : 0 ≤ gby x p - 48 ∧ gby x p - 48 ≤ gT g s w - 1 → K 1 (zup (zup t 37 2 (gsk x (p + 1))) (T + 3) (2 * s + w) (gby x p - 48))) (kf : ¬ (0 ≤ gby x p - 48 ∧ gby x p - 48 ≤ gT g s w - 1) → K 0 t) : ZX (d + 3) 62 0 [(0, .ref 37), (1, .ref T), (2, .int (zi a)), (3, .int (zi b))] [] t (zKi K) := by
  have ht := hw.t hs hw2
  have hn := hw.n
  have hg := gby_rng hx p
  refine z_aload_n zi_62_0 rfl ?_
  refine z_iconst zi_62_1 ?_
  refine z_aload_n zi_62_2 rfl ?_
  refine z_iload_n zi_62_3 rfl ?_
  refine z_iload_n zi_62_4 rfl ?_
  refine z_cv2i zi_62_5 rfl rfl (zt_c hT) ⟨rfl, Nat.le_of_ble_eq_true rfl, Nat.le_of_ble_eq_true rfl⟩ (s_teethOf hT h hw ha hs hb hw2 ?_)
  refine z_iconst zi_62_6 ?_
  refine z_isub zi_62_7 ?_
  refine z_cv2i zi_62_8 rfl rfl rfl ⟨rfl, Nat.le_of_ble_eq_true rfl, Nat.le_of_ble_eq_true rfl⟩ (s_readDigit hx hp hl (by omega) (by omega) (fun q => ?_) (fun q => ?_))
  · refine z_istore zi_62_9 rfl ?_
    refine z_iload zi_62_10 rfl ?_
    refine z_if_ge_t zi_62_11 (by omega) (by omega) ?_
    refine z_aload_n zi_62_14 rfl ?_
    refine z_iload_n zi_62_15 rfl ?_
    refine z_iload_n zi_62_16 rfl ?_
    refine z_iload zi_62_17 rfl ?_
    refine z_cv3v zi_62_18 rfl rfl rfl (zt_c hT) ⟨rfl, Nat.le_of_ble_eq_true rfl, Nat.le_of_ble_eq_true rfl⟩ (s_setMark (s := s) (w := w) hT ha (by omega) hb hw2 ?_)
    refine z_iconst zi_62_19 ?_
    refine z_zreturn zi_62_20 rfl (by omega) (kt q)
  · refine z_istore zi_62_9 rfl ?_
    refine z_iload zi_62_10 rfl ?_
    refine z_if_ge_f zi_62_11 (by omega) (by omega) ?_
    refine z_iconst zi_62_12 ?_
    refine z_zreturn zi_62_13 rfl (by omega) (kf q)
theorem s_readStone {p : Nat} (hT : zTa T) (h : zTB T t g) (hw : gWF g) (hN : gN g < 12) (hx : zTP t x) (hp : t 37 2 = (p : Int)) (hl : p ≤ x.1)
    (kt : ∀ y p' t', gRs x p = .inr (y, p') → p' ≤ x.1 → zTB T t' (gad5 g y) → zFp T t t' → t' 37 2 = (p' : Int) → K 1 t') (kf : ∀ q t', gRs x p = .inl q → q ≤ x.1 → zFp T t t' → t' 37 2 = (q : Int) → K 0 t') : ZX (d + 4) 61 0 [(0, .ref 37), (1, .ref T)] [] t (zKi K) := by
  have hT37 := zTa_lt hT
  have hby : ∀ q, gby x q ≠ -1 → q < x.1 := fun q hq => by
    unfold gby at hq
    by_cases z : q < x.1
    · exact z
    · rw [if_neg z] at hq; exact absurd rfl hq
  unfold gRs at kt kf
  have hg := gby_rng hx p
  refine z_aload_n zi_61_0 rfl ?_
  refine z_iconst zi_61_1 ?_
  refine z_bipush zi_61_2 (by decide) ?_
  refine z_cv2i zi_61_3 rfl rfl rfl ⟨rfl, Nat.le_of_ble_eq_true rfl, Nat.le_of_ble_eq_true rfl⟩ (s_readDigit hx hp hl (by omega) (by omega) (fun q1 => ?_) (fun q1 => ?_))
  rotate_left
  · refine z_istore_n zi_61_4 rfl ?_
    refine z_iload_n zi_61_5 rfl ?_
    refine z_if_ge_f zi_61_6 (by omega) (by omega) ?_
    refine z_bipush zi_61_7 (by decide) ?_
    refine z_goto zi_61_8 ?_
    refine z_istore_n zi_61_13 rfl ?_
    refine z_iload_n zi_61_14 rfl ?_
    refine z_if_ge_f zi_61_15 (by omega) (by omega) ?_
    refine z_iconst zi_61_16 ?_
    refine z_zreturn zi_61_17 rfl (by omega) (kf p t (by rw [if_neg q1]) hl zFp.rf hp)
  have hl0 := hby p (by omega)
  have hs1 := gsk_le (x := x) (p := p + 1) (by omega)
  rw [if_pos q1] at kt kf
  generalize hd1 : gsk x (p + 1) = p1 at hs1 kt kf ⊢
  have hx1 := zTP_up (v := (p1 : Int)) hx
  have h1 := zTB_tape (v := (p1 : Int)) hT h
  have f1 : zFp T t (zup t 37 2 (p1 : Int)) := zFp.up
  have hp1 : zup t 37 2 (p1 : Int) 37 2 = (p1 : Int) := zup_s
  generalize zup t 37 2 (p1 : Int) = t1 at hx1 h1 f1 hp1 ⊢
  have hg1 := gby_rng hx1 p1
  refine z_istore_n zi_61_4 rfl ?_
  refine z_iload_n zi_61_5 rfl ?_
  refine z_if_ge_t zi_61_6 (by omega) (by omega) ?_
  refine z_aload_n zi_61_9 rfl ?_
  refine z_iconst zi_61_10 ?_
  refine z_bipush zi_61_11 (by decide) ?_
  refine z_cv2i zi_61_12 rfl rfl rfl ⟨rfl, Nat.le_of_ble_eq_true rfl, Nat.le_of_ble_eq_true rfl⟩ (s_readDigit hx1 hp1 hs1.2 (by omega) (by omega) (fun q2 => ?_) (fun q2 => ?_))
  rotate_left
  · refine z_istore_n zi_61_13 rfl ?_
    refine z_iload_n zi_61_14 rfl ?_
    refine z_if_ge_f zi_61_15 (by omega) (by omega) ?_
    refine z_iconst zi_61_16 ?_
    refine z_zreturn zi_61_17 rfl (by omega) (kf p1 t1 (by rw [if_neg q2]) hs1.2 f1 hp1)
  have hl1 := hby p1 (by omega)
  have hs2 := gsk_le (x := x) (p := p1 + 1) (by omega)
  rw [if_pos q2] at kt kf
  generalize hd2 : gsk x (p1 + 1) = p2 at hs2 kt kf ⊢
  have hx2 := zTP_up (v := (p2 : Int)) hx1
  have h2 := zTB_tape (v := (p2 : Int)) hT h1
  have f2 : zFp T t (zup t1 37 2 (p2 : Int)) := f1.tr zFp.up
  have hp2 : zup t1 37 2 (p2 : Int) 37 2 = (p2 : Int) := zup_s
  generalize zup t1 37 2 (p2 : Int) = t2 at hx2 h2 f2 hp2 ⊢
  refine z_istore_n zi_61_13 rfl ?_
  refine z_iload_n zi_61_14 rfl ?_
  refine z_if_ge_t zi_61_15 (by omega) (by omega) ?_
  refine z_aload_n zi_61_18 rfl ?_
  refine z_aload_n zi_61_19 rfl ?_
  refine z_cv0i zi_61_20  rfl ⟨rfl, Nat.le_of_ble_eq_true rfl, Nat.le_of_ble_eq_true rfl⟩ (s_readKind hx2 hp2 hs2.2 ?_)
  have hs3 : gkp x p2 ≤ x.1 := by
    unfold gkp
    split
    · rename_i z
      exact (gsk_le (hby p2 (by omega))).2
    · exact hs2.2
  generalize hd3 : gkp x p2 = p3 at hs3 kt kf ⊢
  have hkd := gkd_rng x p2
  have hx3 := zTP_up (v := (p3 : Int)) hx2
  have h3 := zTB_tape (v := (p3 : Int)) hT h2
  have f3 : zFp T t (zup t2 37 2 (p3 : Int)) := f2.tr zFp.up
  have hp3 : zup t2 37 2 (p3 : Int) 37 2 = (p3 : Int) := zup_s
  generalize zup t2 37 2 (p3 : Int) = t3 at hx3 h3 f3 hp3 ⊢
  refine z_iload_n zi_61_21 rfl ?_
  refine z_iload_n zi_61_22 rfl ?_
  refine z_cv3i zi_61_23 rfl rfl rfl (zt_c hT) ⟨rfl, Nat.le_of_ble_eq_true rfl, Nat.le_of_ble_eq_true rfl⟩ (s_addStone hT h3 hw hN (fun t4 h4 f4 => ?_))
  have f34 := f3.tr (zFp.fr f4)
  have hx4 : zTP t4 x := zTP_fp hT hx3 (zFp.fr f4)
  have hp4 : t4 37 2 = (p3 : Int) := by rw [f4 37 (by omega)]; exact hp3
  have w4 : gWF (gadd g (gkd x p2) (gby x p - 48) (gby x p1 - 48)) := gad5_wf (y := (gkd x p2, gby x p - 48, gby x p1 - 48, 0, 0)) hw hN ⟨hkd, q1, q2, by dsimp only; omega, by dsimp only; omega⟩
  have eT0 : gT (gadd g (gkd x p2) (gby x p - 48) (gby x p1 - 48)) (gN g) 0 = gby x p - 48 := by
    show fup2 (fup2 (gT g) (gN g) 0 _) (gN g) 1 _ (gN g) 0 = _
    unfold fup2
    rw [if_neg (fun z => absurd z.2 (by omega)), if_pos ⟨rfl, rfl⟩]
  have eT1 : gT (gadd g (gkd x p2) (gby x p - 48) (gby x p1 - 48)) (gN g) 1 = gby x p1 - 48 := by
    show fup2 (fup2 (gT g) (gN g) 0 _) (gN g) 1 _ (gN g) 1 = _
    unfold fup2
    rw [if_pos ⟨rfl, rfl⟩]
  refine z_istore zi_61_24 rfl ?_
  refine z_aload_n zi_61_25 rfl ?_
  refine z_bipush zi_61_26 (by decide) ?_
  refine z_cv1i zi_61_27 rfl rfl ⟨rfl, Nat.le_of_ble_eq_true rfl, Nat.le_of_ble_eq_true rfl⟩ (s_readSign hx4 hp4 hs3 (by omega) (fun q4 => ?_) (fun q4 => ?_))
  rotate_left
  · rw [if_neg q4] at kt
    refine z_if_eq_t zi_61_28 (by omega) (by omega) ?_
    refine z_iconst zi_61_41 ?_
    refine z_goto zi_61_42 ?_
    refine z_zreturn zi_61_44 rfl (by omega) (kt _ p3 t4 rfl hs3 h4 f34 hp4)
  have hl3 := hby p3 (by omega)
  have hs5 := gsk_le (x := x) (p := p3 + 1) (by omega)
  rw [if_pos q4] at kt kf
  generalize hd5 : gsk x (p3 + 1) = p5 at hs5 kt kf ⊢
  have hx5 := zTP_up (v := (p5 : Int)) hx4
  have h5 := zTB_tape (v := (p5 : Int)) hT h4
  have f5 : zFp T t (zup t4 37 2 (p5 : Int)) := f34.tr zFp.up
  have hp5 : zup t4 37 2 (p5 : Int) 37 2 = (p5 : Int) := zup_s
  generalize zup t4 37 2 (p5 : Int) = t5 at hx5 h5 f5 hp5 ⊢
  have hg5 := gby_rng hx5 p5
  refine z_if_eq_f zi_61_28 (by omega) (by omega) ?_
  refine z_aload_n zi_61_29 rfl ?_
  refine z_aload_n zi_61_30 rfl ?_
  refine z_iload zi_61_31 rfl ?_
  refine z_iconst zi_61_32 ?_
  refine z_cv3i zi_61_33 rfl rfl rfl rfl ⟨rfl, Nat.le_of_ble_eq_true rfl, Nat.le_of_ble_eq_true rfl⟩ (s_readMark (s := gN g) (w := 0) hT h5 w4 hx5 hp5 hs5.2 rfl (Nat.lt_succ_self _) rfl (by omega) (fun q5 => ?_) (fun q5 => ?_))
  rotate_left
  · rw [eT0] at q5
    refine z_if_eq_t zi_61_34 (by omega) (by omega) ?_
    refine z_iconst zi_61_43 ?_
    refine z_zreturn zi_61_44 rfl (by omega) (kf p5 t5 (by rw [if_neg q5]) hs5.2 f5 hp5)
  rw [eT0] at q5
  have hl5 := hby p5 (by omega)
  have hs6 := gsk_le (x := x) (p := p5 + 1) (by omega)
  rw [if_pos q5] at kt kf
  generalize hd6 : gsk x (p5 + 1) = p6 at hs6 kt kf ⊢
  have hx6 := zTP_up (v := (p6 : Int)) hx5
  have h6 := zTB_tape (v := (p6 : Int)) hT h5
  have f6 : zFp T t (zup t5 37 2 (p6 : Int)) := f5.tr zFp.up
  have hp6 : zup t5 37 2 (p6 : Int) 37 2 = (p6 : Int) := zup_s
  generalize zup t5 37 2 (p6 : Int) = t6 at hx6 h6 f6 hp6 ⊢
  have h7 := zTB_M h6 (s := gN g) (w := 0) (by omega) (gby x p5 - 48)
  have fr7 : zFr T t6 (zup t6 (T + 3) (2 * gN g + 0) (gby x p5 - 48)) := zFr.rf.up (by omega)
  have f7 := f6.tr (zFp.fr fr7)
  have hx7 := zTP_fp hT hx6 (zFp.fr fr7)
  have hp7 : zup t6 (T + 3) (2 * gN g + 0) (gby x p5 - 48) 37 2 = (p6 : Int) := by rw [zup_o (by omega)]; exact hp6
  generalize zup t6 (T + 3) (2 * gN g + 0) (gby x p5 - 48) = t7 at h7 f7 hx7 hp7 ⊢
  have w7 : gWF (gsM (gadd g (gkd x p2) (gby x p - 48) (gby x p1 - 48)) (fup2 (gM (gadd g (gkd x p2) (gby x p - 48) (gby x p1 - 48))) (gN g) 0 (gby x p5 - 48))) := by
    refine ⟨w4.1, w4.2.1, w4.2.2.1, w4.2.2.2.1, fun s w hs hw2 => ⟨(w4.t hs hw2).1, (w4.t hs hw2).2.1, ?_⟩, w4.2.2.2.2.2.1, w4.2.2.2.2.2.2.1, w4.2.2.2.2.2.2.2⟩
    have h9 := w4.t hs hw2
    show 0 ≤ fup2 (gM (gadd g (gkd x p2) (gby x p - 48) (gby x p1 - 48))) (gN g) 0 (gby x p5 - 48) s w ∧ fup2 (gM (gadd g (gkd x p2) (gby x p - 48) (gby x p1 - 48))) (gN g) 0 (gby x p5 - 48) s w < gT (gadd g (gkd x p2) (gby x p - 48) (gby x p1 - 48)) s w
    unfold fup2
    split
    · rename_i z
      rw [z.1, z.2, eT0]
      omega
    · exact ⟨h9.2.2.1, h9.2.2.2⟩
  have hg6 := gby_rng hx7 p6
  refine z_if_eq_f zi_61_34 (by omega) (by omega) ?_
  refine z_aload_n zi_61_35 rfl ?_
  refine z_aload_n zi_61_36 rfl ?_
  refine z_iload zi_61_37 rfl ?_
  refine z_iconst zi_61_38 ?_
  refine z_cv3i zi_61_39 rfl rfl rfl rfl ⟨rfl, Nat.le_of_ble_eq_true rfl, Nat.le_of_ble_eq_true rfl⟩ (s_readMark (s := gN g) (w := 1) hT h7 w7 hx7 hp7 hs6.2 rfl (Nat.lt_succ_self _) rfl (by omega) (fun q6 => ?_) (fun q6 => ?_))
  rotate_left
  · have q6' : ¬ (0 ≤ gby x p6 - 48 ∧ gby x p6 - 48 ≤ gT (gadd g (gkd x p2) (gby x p - 48) (gby x p1 - 48)) (gN g) 1 - 1) := q6
    rw [eT1] at q6'
    refine z_if_eq_t zi_61_40 (by omega) (by omega) ?_
    refine z_iconst zi_61_43 ?_
    refine z_zreturn zi_61_44 rfl (by omega) (kf p6 t7 (by rw [if_neg q6']) hs6.2 f7 hp7)
  have q6' : 0 ≤ gby x p6 - 48 ∧ gby x p6 - 48 ≤ gT (gadd g (gkd x p2) (gby x p - 48) (gby x p1 - 48)) (gN g) 1 - 1 := q6
  rw [eT1] at q6'
  have hl6 := hby p6 (by omega)
  have hs8 := gsk_le (x := x) (p := p6 + 1) (by omega)
  rw [if_pos q6'] at kt
  refine z_if_eq_f zi_61_40 (by omega) (by omega) ?_
  refine z_iconst zi_61_41 ?_
  refine z_goto zi_61_42 ?_
  have h8 := zTB_M (zTB_tape (v := ((gsk x (p6 + 1) : Nat) : Int)) hT h7) (s := gN g) (w := 1) (by omega) (gby x p6 - 48)
  have fr8 : zFr T (zup t7 37 2 ((gsk x (p6 + 1) : Nat) : Int)) (zup (zup t7 37 2 ((gsk x (p6 + 1) : Nat) : Int)) (T + 3) (2 * gN g + 1) (gby x p6 - 48)) := zFr.rf.up (by omega)
  refine z_zreturn zi_61_44 rfl (by omega) (kt _ _ _ rfl hs8.2 ?_ ((f7.tr zFp.up).tr (zFp.fr fr8)) (by rw [zup_o (by omega), zup_s]))
  have h9 := zTB_Mx (g := gadd g (gkd x p2) (gby x p - 48) (gby x p1 - 48)) (m' := fup2 (fup2 (gM g) (gN g) 0 (gby x p5 - 48)) (gN g) 1 (gby x p6 - 48)) h8 (fun s w hs hw2 => by
    show fup2 (fup2 (gM g) (gN g) 0 (gby x p5 - 48)) (gN g) 1 (gby x p6 - 48) s w = fup2 (fup2 (fup2 (fup2 (gM g) (gN g) 0 0) (gN g) 1 0) (gN g) 0 (gby x p5 - 48)) (gN g) 1 (gby x p6 - 48) s w
    unfold fup2
    by_cases z : s = gN g
    · rcases (by omega : w = 0 ∨ w = 1) with rfl | rfl
      · rw [if_neg (fun y => absurd y.2 (by omega)), if_pos ⟨z, rfl⟩, if_neg (fun y => absurd y.2 (by omega)), if_pos ⟨z, rfl⟩]
      · rw [if_pos ⟨z, rfl⟩, if_pos ⟨z, rfl⟩]
    · rw [if_neg (fun y => z y.1), if_neg (fun y => z y.1), if_neg (fun y => z y.1), if_neg (fun y => z y.1), if_neg (fun y => z y.1), if_neg (fun y => z y.1)])
  exact h9
theorem gads_N : ∀ (l : List gSt) (g : zG), gN (gads g l) = gN g + l.length
  | [], g => rfl
  | y :: l, g => by
    show gN (gads (gad5 g y) l) = _
    rw [gads_N l (gad5 g y)]
    show gN g + 1 + l.length = gN g + (l.length + 1)
    omega
theorem s_readTo (hT : zTa T) (h : zTB T t g) (hw : gWF g) (hN : gN g = 0) (hx : zTP t x)
    (kt : ∀ l t', gRx x = .inr l → zTB T t' (gads g l) → zFp T t t' → K (l.length : Nat) t') (kf : ∀ q t', gRx x = .inl q → q ≤ x.1 → zFp T t t' → K (-20 - (q : Int)) t') : ZX (d + 5) 59 0 [(0, .ref 37), (1, .ref T)] [] t (zKi K) := by
  have h80 := hx.2.2.1
  have hT37 := zTa_lt hT
  have bad : ∀ (i q : Nat) t', q ≤ x.1 → zFp T t t' → t' 37 2 = (q : Int) → gRx x = .inl q → ZX (d + 5) 59 35 [(3, .int (zi i)), (2, .int (zi 0)), (0, .ref 37), (1, .ref T)] [] t' (zKi K) := by
    intro i q t' hq f' hp' e
    refine z_iload_n zi_59_35 rfl ?_
    refine z_if_eq_t zi_59_36 (by omega) (by omega) ?_
    refine z_bipush zi_59_45 (by decide) ?_
    refine z_aload_n zi_59_46 rfl ?_
    refine z_getfield zi_59_47 rfl ?_
    refine z_top hp' ?_
    refine z_isub zi_59_48 ?_
    refine z_ireturn zi_59_49 rfl (kf q t' e hq f')
  have bad2 : ∀ (i q : Nat) t', i ≤ 8 → q ≤ x.1 → zFp T t t' → t' 37 2 = (q : Int) → gRx x = .inl q → ZX (d + 5) 59 11 [(3, .int (zi i)), (2, .int (zi 0)), (0, .ref 37), (1, .ref T)] [] t' (zKi K) := by
    intro i q t' hi hq f' hp' e
    refine z_iload_n zi_59_11 rfl ?_
    refine z_bipush zi_59_12 (by decide) ?_
    refine z_icmp_ge zi_59_13 (by omega) (fun c => ?_) (fun c => ?_)
    · exact bad i q t' hq f' hp' e
    · refine z_iload_n zi_59_14 rfl ?_
      refine z_if_eq_t zi_59_15 (by omega) (by omega) ?_
      exact bad i q t' hq f' hp' e
  -- n more may follow, i lie on the table
  have loop : ∀ (n i p : Nat) (g' : zG) (t' : zMI), i + n = 8 → gN g' = i → 0 < i → gWF g' → zTB T t' g' → zFp T t t' → p ≤ x.1 → t' 37 2 = (p : Int) →
      (∀ q, gRr x n p = .inl q → gRx x = .inl q) → (∀ l, gRr x n p = .inr l → ∃ l', gRx x = .inr l' ∧ gads g l' = gads g' l ∧ l'.length = i + l.length) → ZX (d + 5) 59 11 [(3, .int (zi i)), (2, .int (zi 1)), (0, .ref 37), (1, .ref T)] [] t' (zKi K) := by
    have good : ∀ (i p : Nat) (g' : zG) (t' : zMI), i ≤ 8 → gN g' = i → zTB T t' g' → zFp T t t' → p ≤ x.1 → t' 37 2 = (p : Int) → (¬ p = x.1 → gRx x = .inl p) → (p = x.1 → ∃ l', gRx x = .inr l' ∧ gads g l' = g' ∧ l'.length = i) → ZX (d + 5) 59 35 [(3, .int (zi i)), (2, .int (zi 1)), (0, .ref 37), (1, .ref T)] [] t' (zKi K) := by
      intro i p g' t' hi hg h' f' hp hp' k1 k2
      have hx' := zTP_fp hT hx f'
      refine z_iload_n zi_59_35 rfl ?_
      refine z_if_eq_f zi_59_36 (by omega) (by omega) ?_
      refine z_aload_n zi_59_37 rfl ?_
      refine z_getfield zi_59_38 rfl ?_
      refine z_top hp' ?_
      refine z_aload_n zi_59_39 rfl ?_
      refine z_getfield zi_59_40 rfl ?_
      refine z_top hx'.1 ?_
      refine z_icmp_ne zi_59_41 (by omega) (fun c => ?_) (fun c => ?_)
      · refine z_bipush zi_59_45 (by decide) ?_
        refine z_aload_n zi_59_46 rfl ?_
        refine z_getfield zi_59_47 rfl ?_
        refine z_top hp' ?_
        refine z_isub zi_59_48 ?_
        refine z_ireturn zi_59_49 rfl (kf p t' (k1 (by omega)) hp f')
      · obtain ⟨l', e1, e2, e3⟩ := k2 (by omega)
        refine z_aload_n zi_59_42 rfl ?_
        refine z_cv0i zi_59_43  (zt_c hT) ⟨rfl, Nat.le_of_ble_eq_true rfl, Nat.le_of_ble_eq_true rfl⟩ (s_stoneCount hT h' ?_)
        refine z_goto zi_59_44 ?_
        rw [hg, ← e3]
        refine z_ireturn zi_59_49 rfl (kt l' t' e1 (by rw [e2]; exact h') f')
    intro n
    induction n with
    | zero =>
      intro i p g' t' hi hg hi0 hw' h' f' hp hp' k1 k2
      refine z_iload_n zi_59_11 rfl ?_
      refine z_bipush zi_59_12 (by decide) ?_
      refine z_icmp_ge_t zi_59_13 (by omega) (by omega) ?_
      refine good i p g' t' (by omega) hg h' f' hp hp' (fun z => k1 p ?_) (fun z => ?_)
      · unfold gRr; rw [if_neg z]
      · obtain ⟨l', e1, e2, e3⟩ := k2 [] (by unfold gRr; rw [if_pos z])
        exact ⟨l', e1, e2, e3⟩
    | succ n ih =>
      intro i p g' t' hi hg hi0 hw' h' f' hp hp' k1 k2
      have hx' := zTP_fp hT hx f'
      refine z_iload_n zi_59_11 rfl ?_
      refine z_bipush zi_59_12 (by decide) ?_
      refine z_icmp_ge_f zi_59_13 (by omega) (by omega) ?_
      refine z_iload_n zi_59_14 rfl ?_
      refine z_if_eq_f zi_59_15 (by omega) (by omega) ?_
      refine z_aload_n zi_59_16 rfl ?_
      refine z_getfield zi_59_17 rfl ?_
      refine z_top hp' ?_
      refine z_aload_n zi_59_18 rfl ?_
      refine z_getfield zi_59_19 rfl ?_
      refine z_top hx'.1 ?_
      refine z_icmp_ge zi_59_20 (by omega) (fun c => ?_) (fun c => ?_)
      · refine good i p g' t' (by omega) hg h' f' hp hp' (fun z => by omega) (fun z => ?_)
        obtain ⟨l', e1, e2, e3⟩ := k2 [] (by unfold gRr; rw [if_pos z])
        exact ⟨l', e1, e2, e3⟩
      · have hpl : p < x.1 := by omega
        refine z_aload_n zi_59_21 rfl ?_
        refine z_bipush zi_59_22 (by decide) ?_
        refine z_cv1i zi_59_23 rfl rfl ⟨rfl, Nat.le_of_ble_eq_true rfl, Nat.le_of_ble_eq_true rfl⟩ (s_readSign hx' hp' hp (by omega) (fun q => ?_) (fun q => ?_))
        · have hsk := gsk_le (x := x) (p := p + 1) (by omega)
          refine z_if_eq_f zi_59_24 (by omega) (by omega) ?_
          refine z_aload_n zi_59_25 rfl ?_
          refine z_aload_n zi_59_26 rfl ?_
          refine z_cv1i zi_59_27 rfl rfl ⟨rfl, Nat.le_of_ble_eq_true rfl, Nat.le_of_ble_eq_true rfl⟩ (s_readStone (p := gsk x (p + 1)) hT (zTB_tape hT h') hw' (by omega) (zTP_up hx') zup_s hsk.2 (fun y p' t2 e hp2 h2 f2 hpl2 => ?_) (fun q2 t2 e hp2 f2 hpl2 => ?_))
          · have hy := gRs_ok e
            refine z_if_eq_f zi_59_28 (by omega) (by omega) ?_
            refine z_iconst zi_59_29 ?_
            refine z_goto zi_59_30 ?_
            refine z_istore_n zi_59_32 rfl ?_
            refine z_iinc zi_59_33 rfl rfl ?_
            refine z_goto zi_59_34 ?_
            refine z_loc (lv' := [(3, .int (zi ((i + 1 : Nat) : Int))), (2, .int (zi 1)), (0, .ref 37), (1, .ref T)]) rfl ?_
            refine ih (i + 1) p' (gad5 g' y) t2 (by omega) (by show gN g' + 1 = _; omega) (by omega) (gad5_wf hw' (by omega) hy) h2 ((f'.tr zFp.up).tr f2) hp2 hpl2 (fun q3 e3 => k1 q3 ?_) (fun l e3 => ?_)
            · unfold gRr
              rw [if_neg (by omega), if_pos q, e]
              dsimp only
              rw [e3]
            · obtain ⟨l', g1, g2, g3⟩ := k2 (y :: l) (by
                unfold gRr
                rw [if_neg (by omega), if_pos q, e]
                dsimp only
                rw [e3])
              refine ⟨l', g1, g2, ?_⟩
              rw [g3]
              show i + (l.length + 1) = i + 1 + l.length
              omega
          · refine z_if_eq_t zi_59_28 (by omega) (by omega) ?_
            refine z_iconst zi_59_31 ?_
            refine z_istore_n zi_59_32 rfl ?_
            refine z_iinc zi_59_33 rfl rfl ?_
            refine z_goto zi_59_34 ?_
            refine z_loc (lv' := [(3, .int (zi ((i + 1 : Nat) : Int))), (2, .int (zi 0)), (0, .ref 37), (1, .ref T)]) rfl ?_
            refine bad2 (i + 1) q2 t2 (by omega) hp2 ((f'.tr zFp.up).tr f2) hpl2 (k1 q2 ?_)
            unfold gRr
            rw [if_neg (by omega), if_pos q, e]
        · refine z_if_eq_t zi_59_24 (by omega) (by omega) ?_
          refine z_iconst zi_59_31 ?_
          refine z_istore_n zi_59_32 rfl ?_
          refine z_iinc zi_59_33 rfl rfl ?_
          refine z_goto zi_59_34 ?_
          refine z_loc (lv' := [(3, .int (zi ((i + 1 : Nat) : Int))), (2, .int (zi 0)), (0, .ref 37), (1, .ref T)]) rfl ?_
          refine bad2 (i + 1) p t' (by omega) hp f' hp' (k1 p ?_)
          unfold gRr
          rw [if_neg (by omega), if_neg q]
  have hs0 := gsk_le (x := x) (p := 0) (by omega)
  have hx1 : zTP (zup t 37 2 (-1)) x := zTP_up hx
  refine z_aload_n zi_59_0 rfl ?_
  refine z_iconst zi_59_1 ?_
  refine z_putfield zi_59_2 rfl (Or.inl rfl) ?_
  refine z_aload_n zi_59_3 rfl ?_
  refine z_cv0v zi_59_4  rfl ⟨rfl, Nat.le_of_ble_eq_true rfl, Nat.le_of_ble_eq_true rfl⟩ (s_stepOn (p := 0) hx1 zup_s (by omega) ?_)
  rw [zup2]
  refine z_aload_n zi_59_5 rfl ?_
  refine z_aload_n zi_59_6 rfl ?_
  refine z_cv1i zi_59_7 rfl rfl ⟨rfl, Nat.le_of_ble_eq_true rfl, Nat.le_of_ble_eq_true rfl⟩ (s_readStone (p := gsk x 0) hT (zTB_tape hT h) hw (by omega) (zTP_up hx) zup_s hs0.2 (fun y p' t2 e hp2 h2 f2 hpl2 => ?_) (fun q2 t2 e hp2 f2 hpl2 => ?_))
  · have hy := gRs_ok e
    refine z_istore_n zi_59_8 rfl ?_
    refine z_iconst zi_59_9 ?_
    refine z_istore_n zi_59_10 rfl ?_
    refine z_loc (lv' := [(3, .int (zi ((1 : Nat) : Int))), (2, .int (zi 1)), (0, .ref 37), (1, .ref T)]) rfl ?_
    refine loop 7 1 p' (gad5 g y) t2 (by omega) (by show gN g + 1 = _; omega) (by omega) (gad5_wf hw (by omega) hy) h2 (zFp.up.tr f2) hp2 hpl2 (fun q3 e3 => ?_) (fun l e3 => ?_)
    · unfold gRx
      rw [e]
      dsimp only
      rw [e3]
    · refine ⟨y :: l, ?_, rfl, ?_⟩
      · unfold gRx
        rw [e]
        dsimp only
        rw [e3]
      · show l.length + 1 = 1 + l.length
        omega
  · refine z_istore_n zi_59_8 rfl ?_
    refine z_iconst zi_59_9 ?_
    refine z_istore_n zi_59_10 rfl ?_
    refine z_loc (lv' := [(3, .int (zi ((1 : Nat) : Int))), (2, .int (zi 0)), (0, .ref 37), (1, .ref T)]) rfl ?_
    refine bad2 1 q2 t2 (by omega) hp2 (zFp.up.tr f2) hpl2 ?_
    unfold gRx
    rw [e]
end
