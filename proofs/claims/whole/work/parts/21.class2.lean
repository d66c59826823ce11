/-! the class's calls: images, texts, sheets -/
theorem zT10 : zTa 10 := Or.inr (Or.inl rfl)
theorem zT19 : zTa 19 := Or.inr (Or.inr (Or.inl rfl))
theorem zT28 : zTa 28 := Or.inr (Or.inr (Or.inr rfl))
def oStones (g : zG) (x : gTx) : Int × zG := match gRx x with
  | .inl q => (-20 - (q : Int), g)
  | .inr l => ((l.length : Int), gads (gclr g) l)
theorem oStones_ok {g : zG} (h : gOK g) (x : gTx) : gOK (oStones g x).2 := by
  unfold oStones
  split
  · exact h
  · rename_i l e
    obtain ⟨⟨h1, h2⟩, h3⟩ := gRx_ok e
    refine ⟨gads_wf l _ (gclr_wf h.1) (by show 0 + l.length ≤ 12; omega) h3, fun p hp => ?_⟩
    rw [gads_L] at hp
    exact absurd hp (Nat.not_lt_zero p)
/-- the byte at a place of a long -/
def gbW (w : Int) (i : Nat) : Int := w / 2 ^ (8 * i) % 256
theorem gbW_rng (w : Int) (i : Nat) : 0 ≤ gbW w i ∧ gbW w i < 256 := by unfold gbW; omega
theorem zbyte (u : UInt64) (w : Int) (i : Nat) (h : (u.toNat % 256 : Nat) = (gbW w i).toNat) : u.toInt64.toInt32 &&& zi 255 = zi (gbW w i) := by
  rw [pk_and _ (m := zi 255) 8 (by decide)]
  have e : u.toInt64.toInt32.toBitVec.toNat = u.toNat % 2 ^ 32 := by
    show (BitVec.signExtend 32 u.toBitVec).toNat = _
    rw [BitVec.signExtend_eq_setWidth_of_le _ (by omega), BitVec.toNat_setWidth]
    rfl
  rw [e]
  have hr := gbW_rng w i
  have e2 : u.toNat % 2 ^ 32 % 2 ^ 8 = (gbW w i).toNat := by omega
  rw [e2]
  have e3 : gbW w i = ((gbW w i).toNat : Int) := by omega
  generalize (gbW w i).toNat = n at e3
  rw [e3]
  rfl
theorem zW_nat (W : Int64) : ((W.toUInt64).toNat : Int) = W.toInt % 18446744073709551616 := by
  have h := W.toBitVec.toInt_eq_toNat_bmod
  have h2 : W.toUInt64.toNat = W.toBitVec.toNat := rfl
  have h3 : W.toInt = W.toBitVec.toInt := rfl
  have h4 := W.toBitVec.isLt
  rw [h3, h2]
  rw [BitVec.toInt_eq_toNat_cond]
  split <;> omega
theorem zlow (W : Int64) {i : Nat} (hi : i < 8) : (W.toUInt64 >>> ((zi (8 * (i : Int))).toInt64.toUInt64 &&& Int64.toUInt64 63)).toInt64.toInt32 &&& zi 255 = zi (gbW W.toInt i) := by
  apply zbyte
  have hW := zW_nat W
  have hr := gbW_rng W.toInt i
  rw [UInt64.toNat_shiftRight]
  rcases (by omega : i = 0 ∨ i = 1 ∨ i = 2 ∨ i = 3 ∨ i = 4 ∨ i = 5 ∨ i = 6 ∨ i = 7) with rfl | rfl | rfl | rfl | rfl | rfl | rfl | rfl
  · have e : ((zi (8 * ((0 : Nat) : Int))).toInt64.toUInt64 &&& Int64.toUInt64 63).toNat % 64 = 0 := by decide
    rw [e, Nat.shiftRight_eq_div_pow]; unfold gbW at hr ⊢; omega
  · have e : ((zi (8 * ((1 : Nat) : Int))).toInt64.toUInt64 &&& Int64.toUInt64 63).toNat % 64 = 8 := by decide
    rw [e, Nat.shiftRight_eq_div_pow]; unfold gbW at hr ⊢; omega
  · have e : ((zi (8 * ((2 : Nat) : Int))).toInt64.toUInt64 &&& Int64.toUInt64 63).toNat % 64 = 16 := by decide
    rw [e, Nat.shiftRight_eq_div_pow]; unfold gbW at hr ⊢; omega
  · have e : ((zi (8 * ((3 : Nat) : Int))).toInt64.toUInt64 &&& Int64.toUInt64 63).toNat % 64 = 24 := by decide
    rw [e, Nat.shiftRight_eq_div_pow]; unfold gbW at hr ⊢; omega
  · have e : ((zi (8 * ((4 : Nat) : Int))).toInt64.toUInt64 &&& Int64.toUInt64 63).toNat % 64 = 32 := by decide
    rw [e, Nat.shiftRight_eq_div_pow]; unfold gbW at hr ⊢; omega
  · have e : ((zi (8 * ((5 : Nat) : Int))).toInt64.toUInt64 &&& Int64.toUInt64 63).toNat % 64 = 40 := by decide
    rw [e, Nat.shiftRight_eq_div_pow]; unfold gbW at hr ⊢; omega
  · have e : ((zi (8 * ((6 : Nat) : Int))).toInt64.toUInt64 &&& Int64.toUInt64 63).toNat % 64 = 48 := by decide
    rw [e, Nat.shiftRight_eq_div_pow]; unfold gbW at hr ⊢; omega
  · have e : ((zi (8 * ((7 : Nat) : Int))).toInt64.toUInt64 &&& Int64.toUInt64 63).toNat % 64 = 56 := by decide
    rw [e, Nat.shiftRight_eq_div_pow]; unfold gbW at hr ⊢; omega
/-- the n lowest bytes, the highest first, behind a text -/
def gtyp (x : gTx) (w : Int) : Nat → gTx
  | 0 => x
  | n + 1 => gtyp (x.1 + 1, fup x.2 x.1 (gbW w n)) w n
def oType (x : gTx) (w n : Int) : Int × gTx := if 1 ≤ n ∧ n ≤ 8 then (if ∀ i, i < n.toNat → 32 ≤ gbW w i ∧ gbW w i ≤ 126 then (if (x.1 : Int) + n > 80 then (-3, x) else ((x.1 : Int) + n, gtyp x w n.toNat)) else (-1, x)) else (-1, x)
theorem gtyp_1 : ∀ (n : Nat) (x : gTx) (w : Int), (gtyp x w n).1 = x.1 + n
  | 0, _, _ => rfl
  | n + 1, x, w => by
    show (gtyp (x.1 + 1, fup x.2 x.1 (gbW w n)) w n).1 = _
    rw [gtyp_1 n]
    show x.1 + 1 + n = x.1 + (n + 1)
    omega
section
variable {d : Nat} {t : zMI} {g : zG} {x : gTx} {K : Int → zMI → Prop} {Kv : zMI → Prop}
theorem s_image (h : zTB 1 t g) (hw : gWF g) (k : ∀ t', zTB 10 t' g → (∀ q, q ≠ 0 → ¬ (10 ≤ q ∧ q < 19) → t' q = t q) → t' 0 2 = 1 → K 1 t') : ZX (d + 3) 85 0 [(0, .ref 0)] [] t (zKi K) := by
  have hT := zT10
  refine z_aload_n zi_85_0 rfl ?_
  refine z_getfield zi_85_1 rfl ?_
  refine z_aload_n zi_85_2 rfl ?_
  refine z_getfield zi_85_3 rfl ?_
  refine z_cv1v zi_85_4 rfl (zt_c hT) ⟨rfl, Nat.le_of_ble_eq_true rfl, Nat.le_of_ble_eq_true rfl⟩ (s_copyFrom zT10 zT1 (by omega) h hw (fun t1 h1 f1 => ?_))
  refine z_aload_n zi_85_5 rfl ?_
  refine z_iconst zi_85_6 ?_
  refine z_putfield zi_85_7 rfl (Or.inr ⟨rfl, by omega⟩) ?_
  refine z_iconst zi_85_8 ?_
  refine z_ireturn zi_85_9 rfl (k _ ?_ (fun q q1 q2 => ?_) zup_s)
  · exact zTB_congr h1 (fun q hq _ => zup_o (by omega))
  · rw [zup_o q1]
    exact f1 q (by omega)
theorem s_restore0 (h : t 0 2 = 0) (k : K (-4) t) : ZX (d + 3) 86 0 [(0, .ref 0)] [] t (zKi K) := by
  refine z_aload_n zi_86_0 rfl ?_
  refine z_getfield zi_86_1 rfl ?_
  refine z_top h ?_
  refine z_if_ne_f zi_86_2 (by omega) (by omega) ?_
  refine z_bipush zi_86_3 (by decide) ?_
  refine z_ireturn zi_86_4 rfl k
theorem s_restore1 (h : t 0 2 = 1) (h1 : zTB 10 t g) (hw : gWF g) (k : ∀ t', zTB 1 t' g → zFg t t' → K 1 t') : ZX (d + 3) 86 0 [(0, .ref 0)] [] t (zKi K) := by
  have hT := zT1
  refine z_aload_n zi_86_0 rfl ?_
  refine z_getfield zi_86_1 rfl ?_
  refine z_top h ?_
  refine z_if_ne_t zi_86_2 (by omega) (by omega) ?_
  refine z_aload_n zi_86_5 rfl ?_
  refine z_getfield zi_86_6 rfl ?_
  refine z_aload_n zi_86_7 rfl ?_
  refine z_getfield zi_86_8 rfl ?_
  refine z_cv1v zi_86_9 rfl (zt_c hT) ⟨rfl, Nat.le_of_ble_eq_true rfl, Nat.le_of_ble_eq_true rfl⟩ (s_copyFrom zT1 zT10 (by omega) h1 hw (fun t1 h2 f1 => ?_))
  refine z_iconst zi_86_10 ?_
  refine z_ireturn zi_86_11 rfl (k t1 h2 (zFg.fr f1))
theorem s_stones (h : zTB 1 t g) (hw : gWF g) (hx : zTP t x) (k : ∀ t', zTB 1 t' (oStones g x).2 → (∀ q, ¬ (1 ≤ q ∧ q < 10) → ¬ (19 ≤ q ∧ q < 28) → q ≠ 37 → t' q = t q) → t' 37 1 = 0 → K (oStones g x).1 t') : ZX (d + 6) 71 0 [(0, .ref 0)] [] t (zKi K) := by
  have hT := zT19
  unfold oStones at k
  refine z_aload_n zi_71_0 rfl ?_
  refine z_getfield zi_71_1 rfl ?_
  refine z_aload_n zi_71_2 rfl ?_
  refine z_getfield zi_71_3 rfl ?_
  refine z_cv1v zi_71_4 rfl (zt_c hT) ⟨rfl, Nat.le_of_ble_eq_true rfl, Nat.le_of_ble_eq_true rfl⟩ (s_copyFrom zT19 zT1 (by omega) h hw (fun t1 h1 f1 => ?_))
  refine z_aload_n zi_71_5 rfl ?_
  refine z_getfield zi_71_6 rfl ?_
  refine z_cv0v zi_71_7  (zt_c hT) ⟨rfl, Nat.le_of_ble_eq_true rfl, Nat.le_of_ble_eq_true rfl⟩ (s_clear zT19 h1 (fun t2 h2 f2 => ?_))
  have hx2 : zTP t2 x := zTP_fr hx (by rw [f2 37 (by omega), f1 37 (by omega)]) (by rw [f2 38 (by omega), f1 38 (by omega)])
  have hb2 : zTB 1 t2 g := zTB_congr h (fun q q1 q2 => by rw [f2 q (by omega), f1 q (by omega)])
  have w2 := gclr_wf hw
  refine z_aload_n zi_71_8 rfl ?_
  refine z_getfield zi_71_9 rfl ?_
  refine z_aload_n zi_71_10 rfl ?_
  refine z_getfield zi_71_11 rfl ?_
  refine z_cv1i zi_71_12 rfl rfl ⟨rfl, Nat.le_of_ble_eq_true rfl, Nat.le_of_ble_eq_true rfl⟩ (s_readTo zT19 h2 w2 rfl hx2 (fun l t3 e h3 f3 => ?_) (fun q t3 e hq f3 => ?_))
  · rw [e] at k
    dsimp only at k
    obtain ⟨⟨g1, g2⟩, g3⟩ := gRx_ok e
    have w3 : gWF (gads (gclr g) l) := gads_wf l _ w2 (by show 0 + l.length ≤ 12; omega) g3
    refine z_istore_n zi_71_13 rfl ?_
    refine z_aload_n zi_71_14 rfl ?_
    refine z_getfield zi_71_15 rfl ?_
    refine z_cv0v zi_71_16  rfl ⟨rfl, Nat.le_of_ble_eq_true rfl, Nat.le_of_ble_eq_true rfl⟩ (s_empty ?_)
    have h4 : zTB 19 (zup t3 37 1 0) (gads (gclr g) l) := zTB_congr h3 (fun q _ _ => zup_o (by omega))
    refine z_iload_n zi_71_17 rfl ?_
    refine z_if_le_f zi_71_18 (by omega) (by omega) ?_
    refine z_aload_n zi_71_19 rfl ?_
    refine z_getfield zi_71_20 rfl ?_
    refine z_aload_n zi_71_21 rfl ?_
    refine z_getfield zi_71_22 rfl ?_
    refine z_cv1v zi_71_23 rfl (zt_c zT1) ⟨rfl, Nat.le_of_ble_eq_true rfl, Nat.le_of_ble_eq_true rfl⟩ (s_copyFrom zT1 zT19 (by omega) h4 w3 (fun t5 h5 f5 => ?_))
    refine z_iload_n zi_71_24 rfl ?_
    refine z_ireturn zi_71_25 rfl (k t5 h5 (fun q q1 q2 q3 => ?_) ?_)
    · rw [f5 q (by omega), zup_o q3]
      funext j
      rw [f3 q j (by omega) (by omega), f2 q (by omega), f1 q (by omega)]
    · rw [f5 37 (by omega), zup_s]
  · rw [e] at k
    dsimp only at k
    have h80 := hx.2.2.1
    refine z_istore_n zi_71_13 rfl ?_
    refine z_aload_n zi_71_14 rfl ?_
    refine z_getfield zi_71_15 rfl ?_
    refine z_cv0v zi_71_16  rfl ⟨rfl, Nat.le_of_ble_eq_true rfl, Nat.le_of_ble_eq_true rfl⟩ (s_empty ?_)
    refine z_iload_n zi_71_17 rfl ?_
    refine z_if_le_t zi_71_18 (by omega) (by omega) ?_
    refine z_iload_n zi_71_24 rfl ?_
    refine z_ireturn zi_71_25 rfl (k _ ?_ (fun q q1 q2 q3 => ?_) zup_s)
    · refine zTB_congr hb2 (fun q _ _ => ?_)
      rw [zup_o (by omega)]
      funext j
      rw [f3 q j (by omega) (by omega)]
    · rw [zup_o q3]
      funext j
      rw [f3 q j (by omega) (by omega), f2 q (by omega), f1 q (by omega)]
theorem s_lowByte {W : Int64} {a : Int} {i : Nat} (ha : a = (i : Int)) (hi : i < 8) (k : K (gbW W.toInt i) t) : ZX d 98 0 [(0, .long W), (2, .int (zi a))] [] t (zKi K) := by
  subst ha
  refine z_lload_n zi_98_0 rfl ?_
  refine z_bipush zi_98_1 (by decide) ?_
  refine z_iload_n zi_98_2 rfl ?_
  refine z_imul zi_98_3 ?_
  refine z_lushr zi_98_4 (zj_of _).symm ?_
  refine z_l2i zi_98_5 (zi_of _).symm ?_
  refine z_sipush zi_98_6 (by decide) ?_
  refine z_iand (v := gbW W.toInt i) zi_98_7 (by rw [zi_of, zj_of]; exact zlow W hi) ?_
  refine z_ireturn zi_98_8 rfl k
theorem s_type {W : Int64} {n : Int} (hx : zTP t x) (r1 : -2147483648 ≤ n ∧ n < 2147483648) (k : ∀ t', zTP t' (oType x W.toInt n).2 → (∀ q, q ≠ 37 → q ≠ 38 → t' q = t q) → K (oType x W.toInt n).1 t') : ZX (d + 3) 70 0 [(0, .ref 0), (1, .long W), (3, .int (zi n))] [] t (zKi K) := by
  have h80 := hx.2.2.1
  unfold oType at k
  refine z_iload_n zi_70_0 rfl ?_
  refine z_iconst zi_70_1 ?_
  refine z_bipush zi_70_2 (by decide) ?_
  refine z_cs3i zi_70_3 rfl rfl rfl ⟨by decide, rfl, Nat.le_of_ble_eq_true rfl, Nat.le_of_ble_eq_true rfl⟩ (s_within r1 (by omega) (by omega) (fun q1 => ?_) (fun q1 => ?_))
  rotate_left
  · rw [if_neg q1] at k
    refine z_if_ne_f zi_70_4 (by omega) (by omega) ?_
    refine z_iconst zi_70_5 ?_
    refine z_ireturn zi_70_6 rfl (k t hx (fun _ _ _ => rfl))
  rw [if_pos q1] at k
  obtain ⟨m, rfl⟩ : ∃ m : Nat, n = m := ⟨n.toNat, by omega⟩
  rw [Int.toNat_natCast] at k
  have put : ∀ (j : Nat) (x' : gTx) (t' : zMI), j ≤ m → zTP t' x' → x'.1 + j ≤ 80 → (∀ q, q ≠ 37 → q ≠ 38 → t' q = t q) → (∀ i, i < j → 32 ≤ gbW W.toInt i ∧ gbW W.toInt i ≤ 126) → (∀ t'', zTP t'' (gtyp x' W.toInt j) → (∀ q, q ≠ 37 → q ≠ 38 → t'' q = t q) → K (((gtyp x' W.toInt j).1 : Nat) : Int) t'') → ZX (d + 3) 70 36 [(4, .int (zi ((j : Int) - 1))), (0, .ref 0), (1, .long W), (3, .int (zi m))] [] t' (zKi K) := by
    intro j
    induction j with
    | zero =>
      intro x' t' hj hx' hl hf hb k
      refine z_iload zi_70_36 rfl ?_
      refine z_if_lt_t zi_70_37 (by omega) (by omega) ?_
      refine z_aload_n zi_70_46 rfl ?_
      refine z_getfield zi_70_47 rfl ?_
      refine z_cv0i zi_70_48  rfl ⟨rfl, Nat.le_of_ble_eq_true rfl, Nat.le_of_ble_eq_true rfl⟩ (s_length hx' ?_)
      refine z_ireturn zi_70_49 rfl (k t' hx' hf)
    | succ j ih =>
      intro x' t' hj hx' hl hf hb k
      have e1 : ((j + 1 : Nat) : Int) - 1 = (j : Int) := by omega
      rw [e1]
      refine z_iload zi_70_36 rfl ?_
      refine z_if_lt_f zi_70_37 (by omega) (by omega) ?_
      refine z_aload_n zi_70_38 rfl ?_
      refine z_getfield zi_70_39 rfl ?_
      refine z_lload_n zi_70_40 rfl ?_
      refine z_iload zi_70_41 rfl ?_
      refine z_cs [.long W, .int (zi j)] [.ref 37] zi_70_42 rfl (by decide) rfl (Nat.le_of_ble_eq_true rfl) (Nat.le_of_ble_eq_true rfl) (s_lowByte (K := fun v t2 => v = gbW W.toInt j ∧ t2 = t') rfl (by omega) ⟨rfl, rfl⟩) ?_
      rintro r t2 ⟨v, rfl, rfl, rfl⟩
      show ZX (d + 3) 70 43 _ (.int (zi (gbW W.toInt j)) :: [.ref 37]) _ _
      refine z_cv1v zi_70_43 rfl rfl ⟨rfl, Nat.le_of_ble_eq_true rfl, Nat.le_of_ble_eq_true rfl⟩ (s_addByte hx' (by omega) ?_)
      refine z_iinc zi_70_44 rfl rfl ?_
      refine z_goto zi_70_45 ?_
      refine z_loc (lv' := [(4, .int (zi ((j : Int) - 1))), (0, .ref 0), (1, .long W), (3, .int (zi m))]) rfl ?_
      refine ih (x'.1 + 1, fup x'.2 x'.1 (gbW W.toInt j)) _ (by omega) ⟨?_, fun i hi => ?_, ?_, fun i hi => ?_⟩ (by show x'.1 + 1 + j ≤ 80; omega) (fun q q1 q2 => ?_) (fun i hi => hb i (by omega)) k
      · rw [zup_s]
        show (x'.1 : Int) + 1 = ((x'.1 + 1 : Nat) : Int)
        omega
      · have hi' : i < x'.1 + 1 := hi
        rw [zup_o (by omega), zup_at]
        show _ = fup x'.2 x'.1 (gbW W.toInt j) i
        unfold fup
        by_cases z : i = x'.1
        · rw [if_pos z, if_pos z]
        · rw [if_neg z, if_neg z]
          exact hx'.2.1 i (by omega)
      · show x'.1 + 1 ≤ 80
        omega
      · have hi' : i < x'.1 + 1 := hi
        show 32 ≤ fup x'.2 x'.1 (gbW W.toInt j) i ∧ fup x'.2 x'.1 (gbW W.toInt j) i ≤ 126
        unfold fup
        by_cases z : i = x'.1
        · rw [if_pos z]; exact hb j (by omega)
        · rw [if_neg z]
          exact hx'.2.2.2 i (by omega)
      · rw [zup_o q1, zup_o q2]
        exact hf q q1 q2
  have chk : ∀ (j i : Nat), i + j = m → (∀ i', i' < i → 32 ≤ gbW W.toInt i' ∧ gbW W.toInt i' ≤ 126) → ZX (d + 3) 70 9 [(4, .int (zi i)), (0, .ref 0), (1, .long W), (3, .int (zi m))] [] t (zKi K) := by
    intro j
    induction j with
    | zero =>
      intro i e hb
      have e1 : i = m := by omega
      subst e1
      rw [if_pos hb] at k
      refine z_iload zi_70_9 rfl ?_
      refine z_iload_n zi_70_10 rfl ?_
      refine z_icmp_ge_t zi_70_11 (by omega) (by omega) ?_
      refine z_aload_n zi_70_23 rfl ?_
      refine z_getfield zi_70_24 rfl ?_
      refine z_cv0i zi_70_25  rfl ⟨rfl, Nat.le_of_ble_eq_true rfl, Nat.le_of_ble_eq_true rfl⟩ (s_length hx ?_)
      refine z_iload_n zi_70_26 rfl ?_
      refine z_iadd zi_70_27 ?_
      refine z_bipush zi_70_28 (by decide) ?_
      refine z_icmp_le zi_70_29 (by omega) (fun c => ?_) (fun c => ?_)
      · rw [if_neg (by omega)] at k
        refine z_iload_n zi_70_32 rfl ?_
        refine z_iconst zi_70_33 ?_
        refine z_isub zi_70_34 ?_
        refine z_istore zi_70_35 rfl ?_
        refine z_loc (lv' := [(4, .int (zi ((i : Int) - 1))), (0, .ref 0), (1, .long W), (3, .int (zi i))]) rfl ?_
        refine put i x t (Nat.le_refl _) hx (by omega) (fun _ _ _ => rfl) hb (fun t'' h1 h2 => ?_)
        rw [gtyp_1]
        have e3 : ((x.1 + i : Nat) : Int) = (x.1 : Int) + i := by omega
        rw [e3]
        exact k t'' h1 h2
      · rw [if_pos (by omega)] at k
        refine z_bipush zi_70_30 (by decide) ?_
        refine z_ireturn zi_70_31 rfl (k t hx (fun _ _ _ => rfl))
    | succ j ih =>
      intro i e hb
      have hr := gbW_rng W.toInt i
      refine z_iload zi_70_9 rfl ?_
      refine z_iload_n zi_70_10 rfl ?_
      refine z_icmp_ge_f zi_70_11 (by omega) (by omega) ?_
      refine z_lload_n zi_70_12 rfl ?_
      refine z_iload zi_70_13 rfl ?_
      refine z_cs [.long W, .int (zi i)] [] zi_70_14 rfl (by decide) rfl (Nat.le_of_ble_eq_true rfl) (Nat.le_of_ble_eq_true rfl) (s_lowByte (K := fun v t2 => v = gbW W.toInt i ∧ t2 = t) rfl (by omega) ⟨rfl, rfl⟩) ?_
      rintro r t2 ⟨v, rfl, rfl, rfl⟩
      show ZX (d + 3) 70 15 _ (.int (zi (gbW W.toInt i)) :: []) _ _
      refine z_bipush zi_70_15 (by decide) ?_
      refine z_bipush zi_70_16 (by decide) ?_
      refine z_cs3i zi_70_17 rfl rfl rfl ⟨by decide, rfl, Nat.le_of_ble_eq_true rfl, Nat.le_of_ble_eq_true rfl⟩ (s_within (by omega) (by omega) (by omega) (fun q => ?_) (fun q => ?_))
      · refine z_if_ne_t zi_70_18 (by omega) (by omega) ?_
        refine z_iinc zi_70_21 rfl rfl ?_
        refine z_goto zi_70_22 ?_
        refine z_loc (lv' := [(4, .int (zi ((i + 1 : Nat) : Int))), (0, .ref 0), (1, .long W), (3, .int (zi m))]) rfl ?_
        refine ih (i + 1) (by omega) (fun i' hi' => ?_)
        rcases (by omega : i' < i ∨ i' = i) with z | z
        · exact hb i' z
        · rw [z]; exact q
      · rw [if_neg (fun z => q (z i (by omega)))] at k
        refine z_if_ne_f zi_70_18 (by omega) (by omega) ?_
        refine z_iconst zi_70_19 ?_
        refine z_ireturn zi_70_20 rfl (k _ hx (fun _ _ _ => rfl))
  refine z_if_ne_t zi_70_4 (by omega) (by omega) ?_
  refine z_iconst zi_70_7 ?_
  refine z_istore zi_70_8 rfl ?_
  refine z_loc (lv' := [(4, .int (zi ((0 : Nat) : Int))), (0, .ref 0), (1, .long W), (3, .int (zi m))]) rfl ?_
  exact chk m 0 (by omega) (fun i' hi' => by omega)
end
