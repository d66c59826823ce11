/-! the model: texts -/
def zTm (t : zMI) (x : gTx) : Prop := t 50 9 = (x.1 : Int) ∧ (∀ i, i < x.1 → t 55 i = x.2 i) ∧ x.1 ≤ 80 ∧ (∀ i, i < x.1 → 32 ≤ x.2 i ∧ x.2 i ≤ 126)
theorem zTm_c {t t' : zMI} {x : gTx} (h : zTm t x) (h1 : t' 50 9 = t 50 9) (h2 : t' 55 = t 55) : zTm t' x := by
  unfold zTm
  rw [h1, h2]
  exact h
theorem zand255 {v : Int} : zj v &&& zj 255 = zj (v % 256) := by
  rw [← Int64.toBitVec_inj, Int64.toBitVec_and]
  show BitVec.ofInt 64 v &&& BitVec.ofInt 64 255 = BitVec.ofInt 64 (v % 256)
  apply BitVec.eq_of_toNat_eq
  rw [BitVec.toNat_and, BitVec.toNat_ofInt, BitVec.toNat_ofInt, BitVec.toNat_ofInt]
  show (v % 18446744073709551616).toNat &&& 255 = (v % 256 % 18446744073709551616).toNat
  have e := Nat.and_two_pow_sub_one_eq_mod (v % 18446744073709551616).toNat 8
  rw [show (2 : Nat) ^ 8 - 1 = 255 from rfl, show (2 : Nat) ^ 8 = 256 from rfl] at e
  rw [e]
  omega
theorem zshr64 (W : Int64) {i : Nat} (hi : i < 8) : (W >>> ((zi (8 * (i : Int))).toInt64 &&& 63)).toInt = W.toInt / 2 ^ (8 * i) := by
  have e : (((zi (8 * (i : Int))).toInt64 &&& 63).toBitVec.smod 64).toNat = 8 * i := by
    have key : ∀ k : Nat, k < 8 → (((zi (8 * (k : Int))).toInt64 &&& 63).toBitVec.smod 64).toNat = 8 * k := by decide
    exact key i hi
  show (W >>> ((zi (8 * (i : Int))).toInt64 &&& 63)).toBitVec.toInt = _
  rw [Int64.toBitVec_shiftRight]
  show (W.toBitVec.sshiftRight (((zi (8 * (i : Int))).toInt64 &&& 63).toBitVec.smod 64).toNat).toInt = _
  rw [e, BitVec.toInt_sshiftRight, Int.shiftRight_eq_div_pow]
  rw [Int.natCast_pow]
  rfl
theorem zlow64 (W : Int64) {i : Nat} (hi : i < 8) : (W >>> ((zi (8 * (i : Int))).toInt64 &&& 63)) &&& zj 255 = zj (gbW W.toInt i) := by
  rw [← zj_of (W >>> ((zi (8 * (i : Int))).toInt64 &&& 63)), zshr64 W hi, zand255]
  rfl
def zFt (t t' : zMI) : Prop := (∀ q, q ≠ 50 → q ≠ 56 → t' q = t q) ∧ (∀ n, n ≠ 10 → n ≠ 11 → t' 50 n = t 50 n)
theorem zFt.rf {t : zMI} : zFt t t := ⟨fun _ _ _ => rfl, fun _ _ _ => rfl⟩
theorem zFt.tr {t t' t'' : zMI} (h : zFt t t') (h' : zFt t' t'') : zFt t t'' := ⟨fun q a b => (h'.1 q a b).trans (h.1 q a b), fun n a b => (h'.2 n a b).trans (h.2 n a b)⟩
theorem zFt.up {t : zMI} {b n : Nat} {v : Int} (hb : b = 56 ∨ (b = 50 ∧ (n = 10 ∨ n = 11))) : zFt t (zup t b n v) := by
  refine ⟨fun q h1 h2 => zup_o (by omega), fun m h1 h2 => ?_⟩
  rcases hb with rfl | ⟨rfl, z⟩
  · rw [zup_o (by omega)]
  · rw [zup_n (by omega)]
def zRd (t : zMI) (m : Nat) (y : gSt) : Prop := t 56 (5 * m) = y.1 ∧ t 56 (5 * m + 1) = y.2.1 ∧ t 56 (5 * m + 2) = y.2.2.1 ∧ t 56 (5 * m + 3) = y.2.2.2.1 ∧ t 56 (5 * m + 4) = y.2.2.2.2
section
variable {d : Nat} {t : zMI} {g : zG} {x : gTx} {K : Int → zMI → Prop} {Kv : zMI → Prop}
theorem m_type {W : Int64} {n : Int} (hx : zTm t x) (r1 : -2147483648 ≤ n ∧ n < 2147483648) (k : ∀ t', zTm t' (oType x W.toInt n).2 → (∀ q, q ≠ 50 → q ≠ 55 → t' q = t q) → (∀ m, m ≠ 9 → t' 50 m = t 50 m) → K (oType x W.toInt n).1 t') : ZX (d + 1) 121 0 [(0, .ref 50), (1, .long W), (3, .int (zi n))] [] t (zKi K) := by
  have h80 := hx.2.2.1
  unfold oType at k
  refine z_iload_n zi_121_0 rfl ?_
  refine z_i2l zi_121_1 (by omega) ?_
  refine z_lconst (v := 1) zi_121_2 (by decide) ?_
  refine z_ldc2_w (v := 8) zi_121_3 rfl ?_
  refine z_in zi_121_4 (by omega) (Nat.le_of_ble_eq_true rfl) (fun q1 => ?_) (fun q1 => ?_)
  rotate_left
  · rw [if_neg q1] at k
    refine z_if_ne_f zi_121_5 (by omega) (by omega) ?_
    refine z_iconst zi_121_6 ?_
    refine z_ireturn zi_121_7 rfl (k t hx (fun _ _ _ => rfl) (fun _ _ => rfl))
  rw [if_pos q1] at k
  obtain ⟨m, rfl⟩ : ∃ m : Nat, n = m := ⟨n.toNat, by omega⟩
  rw [Int.toNat_natCast] at k
  have put : ∀ (j : Nat) (x' : gTx) (t' : zMI), j ≤ m → zTm t' x' → x'.1 + j ≤ 80 → (∀ q, q ≠ 50 → q ≠ 55 → t' q = t q) → (∀ m, m ≠ 9 → t' 50 m = t 50 m) → (∀ i, i < j → 32 ≤ gbW W.toInt i ∧ gbW W.toInt i ≤ 126) → (∀ t'', zTm t'' (gtyp x' W.toInt j) → (∀ q, q ≠ 50 → q ≠ 55 → t'' q = t q) → (∀ m, m ≠ 9 → t'' 50 m = t 50 m) → K (((gtyp x' W.toInt j).1 : Nat) : Int) t'') → ZX (d + 1) 121 41 [(4, .int (zi ((j : Int) - 1))), (0, .ref 50), (1, .long W), (3, .int (zi m))] [] t' (zKi K) := by
    intro j
    induction j with
    | zero =>
      intro x' t' hj hx' hl hf hf2 hb k
      refine z_iload zi_121_41 rfl ?_
      refine z_if_lt_t zi_121_42 (by omega) (by omega) ?_
      refine z_aload_n zi_121_64 rfl ?_
      refine z_getfield zi_121_65 zm_f9 ?_
      rw [hx'.1]
      refine z_ireturn zi_121_66 rfl (k t' hx' hf hf2)
    | succ j ih =>
      intro x' t' hj hx' hl hf hf2 hb k
      have e1 : ((j + 1 : Nat) : Int) - 1 = (j : Int) := by omega
      have hbj := hb j (by omega)
      rw [e1]
      refine z_iload zi_121_41 rfl ?_
      refine z_if_lt_f zi_121_42 (by omega) (by omega) ?_
      refine z_aload_n zi_121_43 rfl ?_
      refine z_getfield zi_121_44 zm_f8 ?_
      refine z_aload_n zi_121_45 rfl ?_
      refine z_getfield zi_121_46 zm_f9 ?_
      rw [hx'.1]
      refine z_lload_n zi_121_47 rfl ?_
      refine z_bipush zi_121_48 (by decide) ?_
      refine z_iload zi_121_49 rfl ?_
      refine z_imul zi_121_50 ?_
      refine z_lshr zi_121_51 (zj_of _).symm ?_
      refine z_ldc2_w (v := 255) zi_121_52 rfl ?_
      refine z_land (v := gbW W.toInt j) zi_121_53 (by rw [zj_of]; exact zlow64 W (by omega)) ?_
      refine z_l2i (v := gbW W.toInt j) zi_121_54 (zl2i (by omega)) ?_
      refine z_iastore (n := x'.1) zi_121_55 rfl (by omega) (by omega) (by omega) ?_
      refine z_aload_n zi_121_56 rfl ?_
      refine z_dup zi_121_57 rfl ?_
      refine z_getfield zi_121_58 zm_f9 ?_
      rw [zup_o (by omega), hx'.1]
      refine z_iconst zi_121_59 ?_
      refine z_iadd zi_121_60 ?_
      refine z_putfield zi_121_61 rfl (Or.inl rfl) ?_
      refine z_iinc zi_121_62 rfl rfl ?_
      refine z_goto zi_121_63 ?_
      refine z_loc (lv' := [(4, .int (zi ((j : Int) - 1))), (0, .ref 50), (1, .long W), (3, .int (zi m))]) rfl ?_
      refine ih (x'.1 + 1, fup x'.2 x'.1 (gbW W.toInt j)) _ (by omega) ⟨?_, fun i hi => ?_, ?_, fun i hi => ?_⟩ (by show x'.1 + 1 + j ≤ 80; omega) (fun q q1 q2 => ?_) (fun n hn => ?_) (fun i hi => hb i (by omega)) k
      · rw [zup_s]
        show (x'.1 : Int) + 1 = ((x'.1 + 1 : Nat) : Int)
        omega
      · have hi' : i < x'.1 + 1 := hi
        rw [zup_o (by omega), zup_at]
        show _ = fup x'.2 x'.1 (gbW W.toInt j) i
        unfold fup
        by_cases z : i = x'.1
        · rw [if_pos z, if_pos z]
        · rw [if_neg z, if_neg z]
          exact hx'.2.1 i (by omega)
      · show x'.1 + 1 ≤ 80
        omega
      · have hi' : i < x'.1 + 1 := hi
        show 32 ≤ fup x'.2 x'.1 (gbW W.toInt j) i ∧ fup x'.2 x'.1 (gbW W.toInt j) i ≤ 126
        unfold fup
        by_cases z : i = x'.1
        · rw [if_pos z]; exact hbj
        · rw [if_neg z]
          exact hx'.2.2.2 i (by omega)
      · rw [zup_o q1, zup_o q2]
        exact hf q q1 q2
      · rw [zup_n hn, zup_o (by omega)]
        exact hf2 n hn
  have chk : ∀ (j : Nat), j ≤ m → (∀ i', j ≤ i' → i' < m → 32 ≤ gbW W.toInt i' ∧ gbW W.toInt i' ≤ 126) → ZX (d + 1) 121 12 [(4, .int (zi ((j : Int) - 1))), (0, .ref 50), (1, .long W), (3, .int (zi m))] [] t (zKi K) := by
    intro j
    induction j with
    | zero =>
      intro hj hb
      rw [if_pos (fun i hi => hb i (by omega) hi)] at k
      refine z_iload zi_121_12 rfl ?_
      refine z_if_lt_t zi_121_13 (by omega) (by omega) ?_
      refine z_aload_n zi_121_29 rfl ?_
      refine z_getfield zi_121_30 zm_f9 ?_
      rw [hx.1]
      refine z_iload_n zi_121_31 rfl ?_
      refine z_iadd zi_121_32 ?_
      refine z_bipush zi_121_33 (by decide) ?_
      refine z_icmp_le zi_121_34 (by omega) (fun c => ?_) (fun c => ?_)
      · rw [if_neg (by omega)] at k
        refine z_iload_n zi_121_37 rfl ?_
        refine z_iconst zi_121_38 ?_
        refine z_isub zi_121_39 ?_
        refine z_istore zi_121_40 rfl ?_
        refine z_loc (lv' := [(4, .int (zi ((m : Int) - 1))), (0, .ref 50), (1, .long W), (3, .int (zi m))]) rfl ?_
        refine put m x t (Nat.le_refl _) hx (by omega) (fun _ _ _ => rfl) (fun _ _ => rfl) (fun i hi => hb i (by omega) hi) (fun t'' h1 h2 h3 => ?_)
        rw [gtyp_1]
        have e3 : ((x.1 + m : Nat) : Int) = (x.1 : Int) + m := by omega
        rw [e3]
        exact k t'' h1 h2 h3
      · rw [if_pos (by omega)] at k
        refine z_bipush zi_121_35 (by decide) ?_
        refine z_ireturn zi_121_36 rfl (k t hx (fun _ _ _ => rfl) (fun _ _ => rfl))
    | succ j ih =>
      intro hj hb
      have hr := gbW_rng W.toInt j
      have e1 : ((j + 1 : Nat) : Int) - 1 = (j : Int) := by omega
      rw [e1]
      refine z_iload zi_121_12 rfl ?_
      refine z_if_lt_f zi_121_13 (by omega) (by omega) ?_
      refine z_lload_n zi_121_14 rfl ?_
      refine z_bipush zi_121_15 (by decide) ?_
      refine z_iload zi_121_16 rfl ?_
      refine z_imul zi_121_17 ?_
      refine z_lshr zi_121_18 (zj_of _).symm ?_
      refine z_ldc2_w (v := 255) zi_121_19 rfl ?_
      refine z_land (v := gbW W.toInt j) zi_121_20 (by rw [zj_of]; exact zlow64 W (by omega)) ?_
      refine z_ldc2_w (v := 32) zi_121_21 rfl ?_
      refine z_ldc2_w (v := 126) zi_121_22 rfl ?_
      refine z_in zi_121_23 (by omega) (Nat.le_of_ble_eq_true rfl) (fun q => ?_) (fun q => ?_)
      · refine z_if_ne_t zi_121_24 (by omega) (by omega) ?_
        refine z_iinc zi_121_27 rfl rfl ?_
        refine z_goto zi_121_28 ?_
        refine z_loc (lv' := [(4, .int (zi ((j : Int) - 1))), (0, .ref 50), (1, .long W), (3, .int (zi m))]) rfl ?_
        refine ih (by omega) (fun i' h1 h2 => ?_)
        rcases (by omega : j + 1 ≤ i' ∨ i' = j) with z | z
        · exact hb i' z h2
        · rw [z]; exact q
      · rw [if_neg (fun z => q (z j (by omega)))] at k
        refine z_if_ne_f zi_121_24 (by omega) (by omega) ?_
        refine z_iconst zi_121_25 ?_
        refine z_ireturn zi_121_26 rfl (k _ hx (fun _ _ _ => rfl) (fun _ _ => rfl))
  refine z_if_ne_t zi_121_5 (by omega) (by omega) ?_
  refine z_iload_n zi_121_8 rfl ?_
  refine z_iconst zi_121_9 ?_
  refine z_isub zi_121_10 ?_
  refine z_istore zi_121_11 rfl ?_
  refine z_loc (lv' := [(4, .int (zi ((m : Int) - 1))), (0, .ref 50), (1, .long W), (3, .int (zi m))]) rfl ?_
  exact chk m (Nat.le_refl _) (fun i' h1 h2 => by omega)
theorem m_nextByte {r : Nat} (hx : zTm t x) (hr : t 50 10 = (r : Int)) (hr2 : r ≤ x.1) (k : ∀ t', t' 50 10 = ((gsk x r : Nat) : Int) → (∀ q, q ≠ 50 → t' q = t q) → (∀ n, n ≠ 10 → t' 50 n = t 50 n) → K (gby x (gsk x r)) t') : ZX d 122 0 [(0, .ref 50)] [] t (zKi K) := by
  have h80 := hx.2.2.1
  have loop : ∀ (n r : Nat) (t' : zMI), x.1 - r = n → r ≤ x.1 → t' 50 10 = (r : Int) → (∀ q, q ≠ 50 → t' q = t q) → (∀ n, n ≠ 10 → t' 50 n = t 50 n) → (∀ t', t' 50 10 = ((gsk x r : Nat) : Int) → (∀ q, q ≠ 50 → t' q = t q) → (∀ n, n ≠ 10 → t' 50 n = t 50 n) → K (gby x (gsk x r)) t') → ZX d 122 0 [(0, .ref 50)] [] t' (zKi K) := by
    intro n
    induction n with
    | zero =>
      intro r t' e hr2 h1 f1 f2 k
      have e1 : gsk x r = r := gsk_end (by omega)
      rw [e1] at k
      have k := k t' h1 f1 f2
      unfold gby at k
      rw [if_neg (by omega)] at k
      refine z_aload_n zi_122_0 rfl ?_
      refine z_getfield zi_122_1 zm_f10 ?_
      rw [h1]
      refine z_aload_n zi_122_2 rfl ?_
      refine z_getfield zi_122_3 zm_f9 ?_
      rw [f2 9 (by omega), hx.1]
      refine z_icmp_ge_t zi_122_4 (by omega) (by omega) ?_
      refine z_aload_n zi_122_19 rfl ?_
      refine z_getfield zi_122_20 zm_f10 ?_
      rw [h1]
      refine z_aload_n zi_122_21 rfl ?_
      refine z_getfield zi_122_22 zm_f9 ?_
      rw [f2 9 (by omega), hx.1]
      refine z_icmp_ge_t zi_122_23 (by omega) (by omega) ?_
      refine z_iconst zi_122_30 ?_
      refine z_ireturn zi_122_31 rfl k
    | succ n ih =>
      intro r t' e hr2 h1 f1 f2 k
      have hb := hx.2.2.2 r (by omega)
      have e1 := gsk_eq (x := x) (p := r) (by omega)
      refine z_aload_n zi_122_0 rfl ?_
      refine z_getfield zi_122_1 zm_f10 ?_
      rw [h1]
      refine z_aload_n zi_122_2 rfl ?_
      refine z_getfield zi_122_3 zm_f9 ?_
      rw [f2 9 (by omega), hx.1]
      refine z_icmp_ge_f zi_122_4 (by omega) (by omega) ?_
      refine z_aload_n zi_122_5 rfl ?_
      refine z_getfield zi_122_6 zm_f8 ?_
      refine z_aload_n zi_122_7 rfl ?_
      refine z_getfield zi_122_8 zm_f10 ?_
      rw [h1]
      refine z_iaload (n := r) zi_122_9 rfl (by omega) (by omega) (by omega) ?_
      rw [f1 55 (by omega), hx.2.1 r (by omega)]
      refine z_bipush zi_122_10 (by decide) ?_
      refine z_icmp_ne zi_122_11 (by omega) (fun c => ?_) (fun c => ?_)
      · rw [if_neg c] at e1
        rw [e1] at k
        have k := k t' h1 f1 f2
        unfold gby at k
        rw [if_pos (by omega)] at k
        refine z_aload_n zi_122_19 rfl ?_
        refine z_getfield zi_122_20 zm_f10 ?_
        rw [h1]
        refine z_aload_n zi_122_21 rfl ?_
        refine z_getfield zi_122_22 zm_f9 ?_
        rw [f2 9 (by omega), hx.1]
        refine z_icmp_ge_f zi_122_23 (by omega) (by omega) ?_
        refine z_aload_n zi_122_24 rfl ?_
        refine z_getfield zi_122_25 zm_f8 ?_
        refine z_aload_n zi_122_26 rfl ?_
        refine z_getfield zi_122_27 zm_f10 ?_
        rw [h1]
        refine z_iaload (n := r) zi_122_28 rfl (by omega) (by omega) (by omega) ?_
        rw [f1 55 (by omega), hx.2.1 r (by omega)]
        refine z_goto zi_122_29 ?_
        refine z_ireturn zi_122_31 rfl k
      · rw [if_pos (by omega)] at e1
        rw [e1] at k
        refine z_aload_n zi_122_12 rfl ?_
        refine z_dup zi_122_13 rfl ?_
        refine z_getfield zi_122_14 zm_f10 ?_
        rw [h1]
        refine z_iconst zi_122_15 ?_
        refine z_iadd zi_122_16 ?_
        refine z_putfield zi_122_17 rfl (Or.inl rfl) ?_
        refine z_goto zi_122_18 ?_
        refine ih (r + 1) _ (by omega) (by omega) (by rw [zup_s]; omega) (fun q hq => by rw [zup_o hq]; exact f1 q hq) (fun m hm => by rw [zup_n hm]; exact f2 m hm) k
  exact loop _ r t rfl hr2 hr (fun _ _ => rfl) (fun _ _ => rfl) k
theorem gby_lt {p : Nat} {x : gTx} (h : 0 ≤ gby x p) : p < x.1 := by
  unfold gby at h
  split at h
  · assumption
  · omega
theorem gby_rg {p : Nat} {x : gTx} (h : ∀ i, i < x.1 → 32 ≤ x.2 i ∧ x.2 i ≤ 126) : -1 ≤ gby x p ∧ gby x p ≤ 126 := by
  unfold gby
  split
  · have := h p (by assumption); omega
  · omega
theorem m_readDigit {r n : Nat} {a lo hi : Int} (hx : zTm t x) (hr : t 50 10 = (r : Int)) (hr2 : r ≤ x.1) (ha : a = (n : Int)) (hn : n < 40) (hlo : 0 ≤ lo ∧ lo ≤ 100) (hhi : -100 ≤ hi ∧ hi ≤ 100)
    (kt : ∀ t', lo ≤ gby x (gsk x r) - 48 ∧ gby x (gsk x r) - 48 ≤ hi → gsk x r + 1 ≤ x.1 → t' 50 10 = ((gsk x r + 1 : Nat) : Int) → zFt t t' → t' 50 11 = t 50 11 → (∀ i, t' 56 i = if i = n then gby x (gsk x r) - 48 else t 56 i) → K 1 t')
    (kf : ∀ t', ¬ (lo ≤ gby x (gsk x r) - 48 ∧ gby x (gsk x r) - 48 ≤ hi) → t' 50 10 = ((gsk x r : Nat) : Int) → zFt t t' → K 0 t') : ZX (d + 1) 123 0 [(0, .ref 50), (1, .int (zi a)), (2, .int (zi lo)), (3, .int (zi hi))] [] t (zKi K) := by
  have hb := gby_rg (p := gsk x r) hx.2.2.2
  have hs := gsk_le (x := x) hr2
  have h80 := hx.2.2.1
  refine z_aload_n zi_123_0 rfl ?_
  refine z_cv0i zi_123_1  rfl ⟨rfl, Nat.le_of_ble_eq_true rfl, Nat.le_of_ble_eq_true rfl⟩ (m_nextByte hx hr hr2 (fun t1 h1 f1 f2 => ?_))
  have ft : zFt t t1 := ⟨fun q q1 _ => f1 q q1, fun m m1 _ => f2 m m1⟩
  have hlt0 : 0 ≤ gby x (gsk x r) → gsk x r + 1 ≤ x.1 := fun z => gby_lt z
  generalize gby x (gsk x r) = b at hb kt kf hlt0 ⊢
  refine z_bipush zi_123_2 (by decide) ?_
  refine z_isub zi_123_3 ?_
  refine z_istore zi_123_4 rfl ?_
  refine z_iload zi_123_5 rfl ?_
  refine z_i2l zi_123_6 (by omega) ?_
  refine z_iload_n zi_123_7 rfl ?_
  refine z_i2l zi_123_8 (by omega) ?_
  refine z_iload_n zi_123_9 rfl ?_
  refine z_i2l zi_123_10 (by omega) ?_
  refine z_in zi_123_11 (by omega) (Nat.le_of_ble_eq_true rfl) (fun q => ?_) (fun q => ?_)
  · have hlt := hlt0 (by omega)
    refine z_if_ne_t zi_123_12 (by omega) (by omega) ?_
    refine z_aload_n zi_123_15 rfl ?_
    refine z_getfield zi_123_16 zm_f12 ?_
    refine z_iload_n zi_123_17 rfl ?_
    refine z_iload zi_123_18 rfl ?_
    refine z_iastore (n := n) zi_123_19 rfl (by omega) (by omega) (by omega) ?_
    refine z_aload_n zi_123_20 rfl ?_
    refine z_dup zi_123_21 rfl ?_
    refine z_getfield zi_123_22 zm_f10 ?_
    rw [zup_o (by omega), h1]
    refine z_iconst zi_123_23 ?_
    refine z_iadd zi_123_24 ?_
    refine z_putfield zi_123_25 rfl (Or.inl rfl) ?_
    refine z_iconst zi_123_26 ?_
    refine z_zreturn zi_123_27 rfl (by omega) (kt _ q hlt ?_ ((ft.tr (zFt.up (by omega))).tr (zFt.up (by omega))) ?_ (fun i => ?_))
    · rw [zup_s]; omega
    · rw [zup_n (by omega), zup_o (by omega), f2 11 (by omega)]
    · rw [zup_o (by omega), zup_at, f1 56 (by omega)]
  · refine z_if_ne_f zi_123_12 (by omega) (by omega) ?_
    refine z_iconst zi_123_13 ?_
    refine z_zreturn zi_123_14 rfl (by omega) (kf t1 q h1 ft)
theorem m_readStone {r n : Nat} {a : Int} (hx : zTm t x) (hr : t 50 10 = (r : Int)) (hr2 : r ≤ x.1) (ha : a = (n : Int)) (hn : n + 5 ≤ 40)
    (kt : ∀ y p' r' t', gRs x (gsk x r) = .inr (y, p') → gsk x r' = p' → r' ≤ x.1 → t' 50 10 = (r' : Int) → zFt t t' → (t' 56 n = y.1 ∧ t' 56 (n + 1) = y.2.1 ∧ t' 56 (n + 2) = y.2.2.1 ∧ t' 56 (n + 3) = y.2.2.2.1 ∧ t' 56 (n + 4) = y.2.2.2.2) → (∀ i, ¬ (n ≤ i ∧ i < n + 5) → t' 56 i = t 56 i) → K 1 t')
    (kf : ∀ q t', gRs x (gsk x r) = .inl q → t' 50 10 = (q : Int) → zFt t t' → K 0 t') : ZX (d + 2) 124 0 [(0, .ref 50), (1, .int (zi a))] [] t (zKi K) := by
  subst ha
  have h80 := hx.2.2.1
  have hxc : ∀ t', zFt t t' → zTm t' x := fun t' f => zTm_c hx (f.2 9 (by omega) (by omega)) (f.1 55 (by omega) (by omega))
  refine z_aload_n zi_124_0 rfl ?_
  refine z_iload_n zi_124_1 rfl ?_
  refine z_iconst zi_124_2 ?_
  refine z_iadd zi_124_3 ?_
  refine z_iconst zi_124_4 ?_
  refine z_bipush zi_124_5 (by decide) ?_
  refine z_cv3i zi_124_6 rfl rfl rfl rfl ⟨rfl, Nat.le_of_ble_eq_true rfl, Nat.le_of_ble_eq_true rfl⟩ (m_readDigit (n := n + 1) hx hr hr2 (by omega) (by omega) (by omega) (by omega) (fun t1 c1 l1 p1 f1 _ v1 => ?_) (fun t1 c1 p1 f1 => ?_))
  rotate_left
  · refine z_if_eq_t zi_124_7 (by omega) (by omega) ?_
    refine z_iconst zi_124_16 ?_
    refine z_zreturn zi_124_17 rfl (by omega) (kf (gsk x r) t1 (by unfold gRs; rw [if_neg c1]) p1 f1)
  refine z_if_eq_f zi_124_7 (by omega) (by omega) ?_
  refine z_aload_n zi_124_8 rfl ?_
  refine z_iload_n zi_124_9 rfl ?_
  refine z_iconst zi_124_10 ?_
  refine z_iadd zi_124_11 ?_
  refine z_iconst zi_124_12 ?_
  refine z_bipush zi_124_13 (by decide) ?_
  refine z_cv3i zi_124_14 rfl rfl rfl rfl ⟨rfl, Nat.le_of_ble_eq_true rfl, Nat.le_of_ble_eq_true rfl⟩ (m_readDigit (n := n + 2) (hxc t1 f1) p1 l1 (by omega) (by omega) (by omega) (by omega) (fun t2 c2 l2 p2 f2 _ v2 => ?_) (fun t2 c2 p2 f2 => ?_))
  rotate_left
  · refine z_if_ne_f zi_124_15 (by omega) (by omega) ?_
    refine z_iconst zi_124_16 ?_
    refine z_zreturn zi_124_17 rfl (by omega) (kf (gsk x (gsk x r + 1)) t2 (by unfold gRs; rw [if_pos c1, if_neg c2]) p2 (f1.tr f2))
  refine z_if_ne_t zi_124_15 (by omega) (by omega) ?_
  have g2 := f1.tr f2
  refine z_aload_n zi_124_18 rfl ?_
  refine z_cv0i zi_124_19  rfl ⟨rfl, Nat.le_of_ble_eq_true rfl, Nat.le_of_ble_eq_true rfl⟩ (m_nextByte (hxc t2 g2) p2 l2 (fun t3 p3 f3 f3' => ?_))
  have g3 : zFt t t3 := g2.tr ⟨fun q q1 _ => f3 q q1, fun m m1 _ => f3' m m1⟩
  have hs3 := gsk_le (x := x) l2
  have hb3 := gby_rg (p := gsk x (gsk x (gsk x r + 1) + 1)) hx.2.2.2
  have v3 : ∀ i, t3 56 i = if i = n + 2 then gby x (gsk x (gsk x r + 1)) - 48 else if i = n + 1 then gby x (gsk x r) - 48 else t 56 i := fun i => by
    rw [f3 56 (by omega), v2 i]
    split
    · rfl
    · rw [v1 i]
  have hlt3 : 0 ≤ gby x (gsk x (gsk x (gsk x r + 1) + 1)) → gsk x (gsk x (gsk x r + 1) + 1) + 1 ≤ x.1 := fun z => gby_lt z
  have hkd := gkd_rng x (gsk x (gsk x (gsk x r + 1) + 1))
  -- with the kind
  have rest : ZX (d + 2) 124 40 [(2, .int (zi (gby x (gsk x (gsk x (gsk x r + 1) + 1))))), (0, .ref 50), (1, .int (zi n))] [.int (zi (gkd x (gsk x (gsk x (gsk x r + 1) + 1)))), .int (zi n), .ref 56] t3 (zKi K) := by
    have main : ∀ r3 : Nat, r3 ≤ x.1 → gsk x r3 = gkp x (gsk x (gsk x (gsk x r + 1) + 1)) → ZX (d + 2) 124 54 [(2, .int (zi (gby x (gsk x (gsk x (gsk x r + 1) + 1))))), (0, .ref 50), (1, .int (zi n))] [] (zup (zup t3 56 n (gkd x (gsk x (gsk x (gsk x r + 1) + 1)))) 50 10 (r3 : Int)) (zKi K) := by
      intro r3 l3 e3
      refine z_aload_n zi_124_54 rfl ?_
      refine z_getfield zi_124_55 zm_f12 ?_
      refine z_iload_n zi_124_56 rfl ?_
      refine z_iconst zi_124_57 ?_
      refine z_iadd zi_124_58 ?_
      refine z_iconst zi_124_59 ?_
      refine z_iastore (n := n + 3) zi_124_60 rfl (by omega) (by omega) (by omega) ?_
      refine z_aload_n zi_124_61 rfl ?_
      refine z_getfield zi_124_62 zm_f12 ?_
      refine z_iload_n zi_124_63 rfl ?_
      refine z_iconst zi_124_64 ?_
      refine z_iadd zi_124_65 ?_
      refine z_iconst zi_124_66 ?_
      refine z_iastore (n := n + 4) zi_124_67 rfl (by omega) (by omega) (by omega) ?_
      have g4 : zFt t (zup (zup (zup (zup t3 56 n (gkd x (gsk x (gsk x (gsk x r + 1) + 1)))) 50 10 (r3 : Int)) 56 (n + 3) 0) 56 (n + 4) 0) := (((g3.tr (zFt.up (by omega))).tr (zFt.up (by omega))).tr (zFt.up (by omega))).tr (zFt.up (by omega))
      have p4 : zup (zup (zup (zup t3 56 n (gkd x (gsk x (gsk x (gsk x r + 1) + 1)))) 50 10 (r3 : Int)) 56 (n + 3) 0) 56 (n + 4) 0 50 10 = (r3 : Int) := by
        rw [zup_o (by omega), zup_o (by omega), zup_s]
      have v4 : ∀ i, zup (zup (zup (zup t3 56 n (gkd x (gsk x (gsk x (gsk x r + 1) + 1)))) 50 10 (r3 : Int)) 56 (n + 3) 0) 56 (n + 4) 0 56 i = if i = n + 4 then 0 else if i = n + 3 then 0 else if i = n then gkd x (gsk x (gsk x (gsk x r + 1) + 1)) else if i = n + 2 then gby x (gsk x (gsk x r + 1)) - 48 else if i = n + 1 then gby x (gsk x r) - 48 else t 56 i := fun i => by
        rw [zup_at, zup_at, zup_o (show 56 ≠ 50 by omega), zup_at, v3 i]
      generalize zup (zup (zup (zup t3 56 n (gkd x (gsk x (gsk x (gsk x r + 1) + 1)))) 50 10 (r3 : Int)) 56 (n + 3) 0) 56 (n + 4) 0 = t4 at g4 p4 v4 ⊢
      refine z_aload_n zi_124_68 rfl ?_
      refine z_cv0i zi_124_69  rfl ⟨rfl, Nat.le_of_ble_eq_true rfl, Nat.le_of_ble_eq_true rfl⟩ (m_nextByte (hxc t4 g4) p4 l3 (fun t5 p5 f5 f5' => ?_))
      rw [e3] at p5 ⊢
      have g5 : zFt t t5 := g4.tr ⟨fun q q1 _ => f5 q q1, fun m m1 _ => f5' m m1⟩
      have hs5 := gsk_le (x := x) l3
      rw [e3] at hs5
      have hb5 := gby_rg (p := gkp x (gsk x (gsk x (gsk x r + 1) + 1))) hx.2.2.2
      have v5 : ∀ i, t5 56 i = t4 56 i := fun i => by rw [f5 56 (by omega)]
      refine z_bipush zi_124_70 (by decide) ?_
      refine z_icmp_ne zi_124_71 (by omega) (fun c5 => ?_) (fun c5 => ?_)
      · refine z_iconst zi_124_112 ?_
        refine z_zreturn zi_124_113 rfl (by omega) (kt (gkd x (gsk x (gsk x (gsk x r + 1) + 1)), gby x (gsk x r) - 48, gby x (gsk x (gsk x r + 1)) - 48, 0, 0) _ _ t5 (by unfold gRs; rw [if_pos c1, if_pos c2, if_neg c5]) (by rw [← e3, gskk]) hs5.2 p5 g5 ⟨?_, ?_, ?_, ?_, ?_⟩ (fun i hi => ?_))
        all_goals rw [v5, v4]
        · rw [if_neg (by omega), if_neg (by omega), if_pos rfl]
        · rw [if_neg (by omega), if_neg (by omega), if_neg (by omega), if_neg (by omega), if_pos rfl]
        · rw [if_neg (by omega), if_neg (by omega), if_neg (by omega), if_pos rfl]
        · rw [if_neg (by omega), if_pos rfl]
        · rw [if_pos rfl]
        · rw [if_neg (by omega), if_neg (by omega), if_neg (by omega), if_neg (by omega), if_neg (by omega)]
      · have c5' : gby x (gkp x (gsk x (gsk x (gsk x r + 1) + 1))) = 64 := by omega
        have l5 : gkp x (gsk x (gsk x (gsk x r + 1) + 1)) + 1 ≤ x.1 := gby_lt (by omega)
        refine z_aload_n zi_124_72 rfl ?_
        refine z_dup zi_124_73 rfl ?_
        refine z_getfield zi_124_74 zm_f10 ?_
        rw [p5]
        refine z_iconst zi_124_75 ?_
        refine z_iadd zi_124_76 ?_
        refine z_putfield zi_124_77 rfl (Or.inl rfl) ?_
        have e5 : ((gkp x (gsk x (gsk x (gsk x r + 1) + 1)) : Nat) : Int) + 1 = ((gkp x (gsk x (gsk x (gsk x r + 1) + 1)) + 1 : Nat) : Int) := by omega
        rw [e5]
        have g6 : zFt t (zup t5 50 10 ((gkp x (gsk x (gsk x (gsk x r + 1) + 1)) + 1 : Nat) : Int)) := g5.tr (zFt.up (by omega))
        have p6 : zup t5 50 10 ((gkp x (gsk x (gsk x (gsk x r + 1) + 1)) + 1 : Nat) : Int) 50 10 = ((gkp x (gsk x (gsk x (gsk x r + 1) + 1)) + 1 : Nat) : Int) := zup_s
        have v6 : ∀ i, zup t5 50 10 ((gkp x (gsk x (gsk x (gsk x r + 1) + 1)) + 1 : Nat) : Int) 56 i = t4 56 i := fun i => by rw [zup_o (by omega), v5]
        generalize zup t5 50 10 ((gkp x (gsk x (gsk x (gsk x r + 1) + 1)) + 1 : Nat) : Int) = t6 at g6 p6 v6 ⊢
        have w1 : t6 56 (n + 1) = gby x (gsk x r) - 48 := by
          rw [v6, v4, if_neg (by omega), if_neg (by omega), if_neg (by omega), if_neg (by omega), if_pos rfl]
        refine z_aload_n zi_124_78 rfl ?_
        refine z_iload_n zi_124_79 rfl ?_
        refine z_iconst zi_124_80 ?_
        refine z_iadd zi_124_81 ?_
        refine z_iconst zi_124_82 ?_
        refine z_aload_n zi_124_83 rfl ?_
        refine z_getfield zi_124_84 zm_f12 ?_
        refine z_iload_n zi_124_85 rfl ?_
        refine z_iconst zi_124_86 ?_
        refine z_iadd zi_124_87 ?_
        refine z_iaload (n := n + 1) zi_124_88 rfl (by omega) (by omega) (by omega) ?_
        rw [w1]
        refine z_iconst zi_124_89 ?_
        refine z_isub zi_124_90 ?_
        refine z_cv3i zi_124_91 rfl rfl rfl rfl ⟨rfl, Nat.le_of_ble_eq_true rfl, Nat.le_of_ble_eq_true rfl⟩ (m_readDigit (n := n + 3) (hxc t6 g6) p6 l5 (by omega) (by omega) (by omega) (by omega) (fun t7 c7 l7 p7 f7 _ v7 => ?_) (fun t7 c7 p7 f7 => ?_))
        · refine z_if_eq_f zi_124_92 (by omega) (by omega) ?_
          have w2 : t7 56 (n + 2) = gby x (gsk x (gsk x r + 1)) - 48 := by
            rw [v7, if_neg (by omega), v6, v4, if_neg (by omega), if_neg (by omega), if_neg (by omega), if_pos rfl]
          refine z_aload_n zi_124_93 rfl ?_
          refine z_iload_n zi_124_94 rfl ?_
          refine z_iconst zi_124_95 ?_
          refine z_iadd zi_124_96 ?_
          refine z_iconst zi_124_97 ?_
          refine z_aload_n zi_124_98 rfl ?_
          refine z_getfield zi_124_99 zm_f12 ?_
          refine z_iload_n zi_124_100 rfl ?_
          refine z_iconst zi_124_101 ?_
          refine z_iadd zi_124_102 ?_
          refine z_iaload (n := n + 2) zi_124_103 rfl (by omega) (by omega) (by omega) ?_
          rw [w2]
          refine z_iconst zi_124_104 ?_
          refine z_isub zi_124_105 ?_
          refine z_cv3i zi_124_106 rfl rfl rfl rfl ⟨rfl, Nat.le_of_ble_eq_true rfl, Nat.le_of_ble_eq_true rfl⟩ (m_readDigit (n := n + 4) (hxc t7 (g6.tr f7)) p7 l7 (by omega) (by omega) (by omega) (by omega) (fun t8 c8 l8 p8 f8 _ v8 => ?_) (fun t8 c8 p8 f8 => ?_))
          · refine z_if_eq_f zi_124_107 (by omega) (by omega) ?_
            refine z_iconst zi_124_108 ?_
            refine z_goto zi_124_109 ?_
            refine z_zreturn zi_124_111 rfl (by omega) (kt _ _ _ t8 (by unfold gRs; rw [if_pos c1, if_pos c2, if_pos c5', if_pos c7, if_pos c8]) rfl l8 p8 ((g6.tr f7).tr f8) ⟨?_, ?_, ?_, ?_, ?_⟩ (fun i hi => ?_))
            · rw [v8, if_neg (by omega), v7, if_neg (by omega), v6, v4, if_neg (by omega), if_neg (by omega), if_pos rfl]
            · rw [v8, if_neg (by omega), v7, if_neg (by omega), v6, v4, if_neg (by omega), if_neg (by omega), if_neg (by omega), if_neg (by omega), if_pos rfl]
            · rw [v8, if_neg (by omega), v7, if_neg (by omega), v6, v4, if_neg (by omega), if_neg (by omega), if_neg (by omega), if_pos rfl]
            · rw [v8, if_neg (by omega), v7, if_pos rfl]
            · rw [v8, if_pos rfl]
            · rw [v8, if_neg (by omega), v7, if_neg (by omega), v6, v4, if_neg (by omega), if_neg (by omega), if_neg (by omega), if_neg (by omega), if_neg (by omega)]
          · refine z_if_eq_t zi_124_107 (by omega) (by omega) ?_
            refine z_iconst zi_124_110 ?_
            refine z_zreturn zi_124_111 rfl (by omega) (kf _ t8 (by unfold gRs; rw [if_pos c1, if_pos c2, if_pos c5', if_pos c7, if_neg c8]) p8 ((g6.tr f7).tr f8))
        · refine z_if_eq_t zi_124_92 (by omega) (by omega) ?_
          refine z_iconst zi_124_110 ?_
          refine z_zreturn zi_124_111 rfl (by omega) (kf _ t7 (by unfold gRs; rw [if_pos c1, if_pos c2, if_pos c5', if_neg c7]) p7 (g6.tr f7))
    refine z_iastore (n := n) zi_124_40 rfl (by omega) (by omega) (by omega) ?_
    refine z_aload_n zi_124_41 rfl ?_
    refine z_dup zi_124_42 rfl ?_
    refine z_getfield zi_124_43 zm_f10 ?_
    rw [zup_o (by omega), p3]
    refine z_aload_n zi_124_44 rfl ?_
    refine z_getfield zi_124_45 zm_f12 ?_
    refine z_iload_n zi_124_46 rfl ?_
    refine z_iaload (n := n) zi_124_47 rfl (by omega) (by omega) (by omega) ?_
    rw [zup_s]
    refine z_if_le zi_124_48 (by omega) (fun c4 => ?_) (fun c4 => ?_)
    · have e0 : gkp x (gsk x (gsk x (gsk x r + 1) + 1)) = gsk x (gsk x (gsk x r + 1) + 1) := by
        unfold gkp
        rw [if_neg]
        unfold gkd at c4
        rintro (z | z | z)
        · rw [if_pos z] at c4; omega
        · rw [if_neg (by omega), if_pos z] at c4; omega
        · rw [if_neg (by omega), if_neg (by omega), if_pos z] at c4; omega
      refine z_iconst zi_124_51 ?_
      refine z_iadd zi_124_52 ?_
      refine z_putfield zi_124_53 rfl (Or.inl rfl) ?_
      rw [Int.add_zero]
      exact main _ hs3.2 (by rw [e0, gskk])
    · have hl : gby x (gsk x (gsk x (gsk x r + 1) + 1)) = 112 ∨ gby x (gsk x (gsk x (gsk x r + 1) + 1)) = 115 ∨ gby x (gsk x (gsk x (gsk x r + 1) + 1)) = 104 := by
        unfold gkd at c4
        by_cases z1 : gby x (gsk x (gsk x (gsk x r + 1) + 1)) = 112
        · exact Or.inl z1
        · rw [if_neg z1] at c4
          by_cases z2 : gby x (gsk x (gsk x (gsk x r + 1) + 1)) = 115
          · exact Or.inr (Or.inl z2)
          · rw [if_neg z2] at c4
            by_cases z3 : gby x (gsk x (gsk x (gsk x r + 1) + 1)) = 104
            · exact Or.inr (Or.inr z3)
            · rw [if_neg z3] at c4; omega
      refine z_iconst zi_124_49 ?_
      refine z_goto zi_124_50 ?_
      refine z_iadd zi_124_52 ?_
      refine z_putfield zi_124_53 rfl (Or.inl rfl) ?_
      have e5 : ((gsk x (gsk x (gsk x r + 1) + 1) : Nat) : Int) + 1 = ((gsk x (gsk x (gsk x r + 1) + 1) + 1 : Nat) : Int) := by omega
      rw [e5]
      refine main _ (hlt3 (by omega)) ?_
      unfold gkp
      rw [if_pos hl]
  have ekd : gkd x (gsk x (gsk x (gsk x r + 1) + 1)) = if gby x (gsk x (gsk x (gsk x r + 1) + 1)) = 112 then 1 else if gby x (gsk x (gsk x (gsk x r + 1) + 1)) = 115 then 2 else if gby x (gsk x (gsk x (gsk x r + 1) + 1)) = 104 then 3 else 0 := rfl
  refine z_istore_n zi_124_20 rfl ?_
  refine z_aload_n zi_124_21 rfl ?_
  refine z_getfield zi_124_22 zm_f12 ?_
  refine z_iload_n zi_124_23 rfl ?_
  refine z_iload_n zi_124_24 rfl ?_
  refine z_bipush zi_124_25 (by decide) ?_
  refine z_icmp_ne zi_124_26 (by omega) (fun k1 => ?_) (fun k1 => ?_)
  · rw [if_neg k1] at ekd
    refine z_iload_n zi_124_29 rfl ?_
    refine z_bipush zi_124_30 (by decide) ?_
    refine z_icmp_ne zi_124_31 (by omega) (fun k2 => ?_) (fun k2 => ?_)
    · rw [if_neg k2] at ekd
      refine z_iload_n zi_124_34 rfl ?_
      refine z_bipush zi_124_35 (by decide) ?_
      refine z_icmp_ne zi_124_36 (by omega) (fun k3 => ?_) (fun k3 => ?_)
      · rw [if_neg k3] at ekd
        refine z_iconst zi_124_39 ?_
        rw [ekd] at rest
        exact rest
      · rw [if_pos (by omega)] at ekd
        refine z_iconst zi_124_37 ?_
        refine z_goto zi_124_38 ?_
        rw [ekd] at rest
        exact rest
    · rw [if_pos (by omega)] at ekd
      refine z_iconst zi_124_32 ?_
      refine z_goto zi_124_33 ?_
      rw [ekd] at rest
      exact rest
  · rw [if_pos (by omega)] at ekd
    refine z_iconst zi_124_27 ?_
    refine z_goto zi_124_28 ?_
    rw [ekd] at rest
    exact rest
def gFx (x : gTx) (n r : Nat) : Nat ⊕ List gSt := match gRs x (gsk x r) with
  | .inl q => .inl q
  | .inr (y, p') => match gRr x n p' with
    | .inl q => .inl q
    | .inr l => .inr (y :: l)
theorem m_readStones (hx : zTm t x) (kt : ∀ l t', gRx x = .inr l → t' 50 11 = (l.length : Int) → (∀ m, (h : m < l.length) → zRd t' m l[m]) → zFt t t' → K 1 t') (kf : ∀ q t', gRx x = .inl q → t' 50 10 = (q : Int) → zFt t t' → K 0 t') : ZX (d + 3) 125 0 [(0, .ref 50)] [] t (zKi K) := by
  have h80 := hx.2.2.1
  have loop : ∀ (n i r : Nat) (acc : List gSt) (t' : zMI), i + n = 7 → acc.length = i → r ≤ x.1 → t' 50 10 = (r : Int) → zFt t t' → (∀ m, (h : m < acc.length) → zRd t' m acc[m]) → (∀ q, gFx x n r = .inl q → gRx x = .inl q) → (∀ l, gFx x n r = .inr l → gRx x = .inr (acc ++ l)) → ZX (d + 3) 125 5 [(1, .int (zi i)), (0, .ref 50)] [] t' (zKi K) := by
    intro n
    induction n with
    | zero =>
      intro i r acc t' e ha hr hp f' hrd hq hl
      have hx' : zTm t' x := zTm_c hx (f'.2 9 (by omega) (by omega)) (f'.1 55 (by omega) (by omega))
      unfold gFx at hq hl
      refine z_iload_n zi_125_5 rfl ?_
      refine z_bipush zi_125_6 (by decide) ?_
      refine z_icmp_ge_f zi_125_7 (by omega) (by omega) ?_
      refine z_aload_n zi_125_8 rfl ?_
      refine z_iconst zi_125_9 ?_
      refine z_iload_n zi_125_10 rfl ?_
      refine z_imul zi_125_11 ?_
      refine z_cv1i zi_125_12 rfl rfl ⟨rfl, Nat.le_of_ble_eq_true rfl, Nat.le_of_ble_eq_true rfl⟩ (m_readStone (n := 5 * i) hx' hp hr (by omega) (by omega) (fun y p' r' t1 e1 e2 l1 p1 f1 v1 v2 => ?_) (fun q t1 e1 p1 f1 => ?_))
      · rw [e1] at hq hl
        dsimp only at hq hl
        refine z_if_ne_t zi_125_13 (by omega) (by omega) ?_
        refine z_aload_n zi_125_16 rfl ?_
        refine z_iload_n zi_125_17 rfl ?_
        refine z_iconst zi_125_18 ?_
        refine z_iadd zi_125_19 ?_
        refine z_putfield zi_125_20 rfl (Or.inl rfl) ?_
        have g2 : zFt t' (zup t1 50 11 ((i : Int) + 1)) := f1.tr (zFt.up (by omega))
        have p2 : zup t1 50 11 ((i : Int) + 1) 50 10 = (r' : Int) := by rw [zup_n (by omega)]; exact p1
        have hx2 : zTm (zup t1 50 11 ((i : Int) + 1)) x := zTm_c hx' (g2.2 9 (by omega) (by omega)) (g2.1 55 (by omega) (by omega))
        refine z_aload_n zi_125_21 rfl ?_
        refine z_cv0i zi_125_22  rfl ⟨rfl, Nat.le_of_ble_eq_true rfl, Nat.le_of_ble_eq_true rfl⟩ (m_nextByte hx2 p2 l1 (fun t3 p3 f3 f3' => ?_))
        rw [e2] at p3 ⊢
        have g3 : zFt t t3 := (f'.tr g2).tr ⟨fun q q1 _ => f3 q q1, fun m m1 _ => f3' m m1⟩
        have hpl := gsk_le (x := x) l1
        rw [e2] at hpl
        have hb := gby_rg (p := p') hx.2.2.2
        refine z_istore_n zi_125_23 rfl ?_
        refine z_iload_n zi_125_24 rfl ?_
        refine z_if_ge zi_125_25 (by omega) (fun c => ?_) (fun c => ?_)
        · have hlt := gby_lt c
          have er : gRr x 0 p' = .inl p' := by
            unfold gRr
            rw [if_neg (by omega)]
          rw [er] at hq
          dsimp only at hq
          refine z_iload_n zi_125_28 rfl ?_
          refine z_bipush zi_125_29 (by decide) ?_
          refine z_icmp_ne zi_125_30 (by omega) (fun c2 => ?_) (fun c2 => ?_)
          · refine z_iconst zi_125_34 ?_
            refine z_zreturn zi_125_35 rfl (by omega) (kf p' t3 (hq p' rfl) p3 g3)
          · refine z_iload_n zi_125_31 rfl ?_
            refine z_bipush zi_125_32 (by decide) ?_
            refine z_icmp_ne_f zi_125_33 (by omega) (by omega) ?_
            refine z_iconst zi_125_34 ?_
            refine z_zreturn zi_125_35 rfl (by omega) (kf p' t3 (hq p' rfl) p3 g3)
        · have hend : p' = x.1 := by
            unfold gby at c
            split at c
            · rename_i z
              have := hx.2.2.2 p' z
              omega
            · omega
          have er : gRr x 0 p' = .inr [] := by
            unfold gRr
            rw [if_pos hend]
          rw [er] at hl
          dsimp only at hl
          have hl := hl [y] rfl
          refine z_iconst zi_125_26 ?_
          refine z_zreturn zi_125_27 rfl (by omega) (kt _ t3 hl ?_ (fun m hm => ?_) g3)
          · rw [f3' 11 (by omega), zup_s, List.length_append, List.length_singleton, ha]; omega
          · have hm2 : m < i + 1 := by rw [List.length_append, List.length_singleton, ha] at hm; exact hm
            have w : ∀ j, t3 56 j = t1 56 j := fun j => by rw [f3 56 (by omega), zup_o (by omega)]
            unfold zRd
            rw [w, w, w, w, w]
            by_cases z : m = i
            · subst z
              rw [List.getElem_append_right (by omega)]
              simp only [ha, Nat.sub_self, List.getElem_singleton]
              exact v1
            · rw [List.getElem_append_left (by omega), v2 _ (by omega), v2 _ (by omega), v2 _ (by omega), v2 _ (by omega), v2 _ (by omega)]
              exact hrd m (by omega)
      · rw [e1] at hq
        refine z_if_ne_f zi_125_13 (by omega) (by omega) ?_
        refine z_iconst zi_125_14 ?_
        refine z_zreturn zi_125_15 rfl (by omega) (kf q t1 (hq q rfl) p1 (f'.tr f1))
    | succ n ih =>
      intro i r acc t' e ha hr hp f' hrd hq hl
      have hx' : zTm t' x := zTm_c hx (f'.2 9 (by omega) (by omega)) (f'.1 55 (by omega) (by omega))
      unfold gFx at hq hl
      refine z_iload_n zi_125_5 rfl ?_
      refine z_bipush zi_125_6 (by decide) ?_
      refine z_icmp_ge_f zi_125_7 (by omega) (by omega) ?_
      refine z_aload_n zi_125_8 rfl ?_
      refine z_iconst zi_125_9 ?_
      refine z_iload_n zi_125_10 rfl ?_
      refine z_imul zi_125_11 ?_
      refine z_cv1i zi_125_12 rfl rfl ⟨rfl, Nat.le_of_ble_eq_true rfl, Nat.le_of_ble_eq_true rfl⟩ (m_readStone (n := 5 * i) hx' hp hr (by omega) (by omega) (fun y p' r' t1 e1 e2 l1 p1 f1 v1 v2 => ?_) (fun q t1 e1 p1 f1 => ?_))
      · rw [e1] at hq hl
        dsimp only at hq hl
        refine z_if_ne_t zi_125_13 (by omega) (by omega) ?_
        refine z_aload_n zi_125_16 rfl ?_
        refine z_iload_n zi_125_17 rfl ?_
        refine z_iconst zi_125_18 ?_
        refine z_iadd zi_125_19 ?_
        refine z_putfield zi_125_20 rfl (Or.inl rfl) ?_
        have g2 : zFt t' (zup t1 50 11 ((i : Int) + 1)) := f1.tr (zFt.up (by omega))
        have p2 : zup t1 50 11 ((i : Int) + 1) 50 10 = (r' : Int) := by rw [zup_n (by omega)]; exact p1
        have hx2 : zTm (zup t1 50 11 ((i : Int) + 1)) x := zTm_c hx' (g2.2 9 (by omega) (by omega)) (g2.1 55 (by omega) (by omega))
        refine z_aload_n zi_125_21 rfl ?_
        refine z_cv0i zi_125_22  rfl ⟨rfl, Nat.le_of_ble_eq_true rfl, Nat.le_of_ble_eq_true rfl⟩ (m_nextByte hx2 p2 l1 (fun t3 p3 f3 f3' => ?_))
        rw [e2] at p3 ⊢
        have g3 : zFt t t3 := (f'.tr g2).tr ⟨fun q q1 _ => f3 q q1, fun m m1 _ => f3' m m1⟩
        have hpl := gsk_le (x := x) l1
        rw [e2] at hpl
        have hb := gby_rg (p := p') hx.2.2.2
        have w : ∀ j, t3 56 j = t1 56 j := fun j => by rw [f3 56 (by omega), zup_o (by omega)]
        have hrd3 : ∀ m, (h : m < (acc ++ [y]).length) → zRd t3 m (acc ++ [y])[m] := fun m hm => by
          have hm2 : m < i + 1 := by rw [List.length_append, List.length_singleton, ha] at hm; exact hm
          unfold zRd
          rw [w, w, w, w, w]
          by_cases z : m = i
          · subst z
            rw [List.getElem_append_right (by omega)]
            simp only [ha, Nat.sub_self, List.getElem_singleton]
            exact v1
          · rw [List.getElem_append_left (by omega), v2 _ (by omega), v2 _ (by omega), v2 _ (by omega), v2 _ (by omega), v2 _ (by omega)]
            exact hrd m (by omega)
        refine z_istore_n zi_125_23 rfl ?_
        refine z_iload_n zi_125_24 rfl ?_
        refine z_if_ge zi_125_25 (by omega) (fun c => ?_) (fun c => ?_)
        · have hlt := gby_lt c
          refine z_iload_n zi_125_28 rfl ?_
          refine z_bipush zi_125_29 (by decide) ?_
          refine z_icmp_ne zi_125_30 (by omega) (fun c2 => ?_) (fun c2 => ?_)
          · have er : gRr x (n + 1) p' = .inl p' := by
              unfold gRr
              rw [if_neg (by omega), if_neg c2]
            rw [er] at hq
            dsimp only at hq
            refine z_iconst zi_125_34 ?_
            refine z_zreturn zi_125_35 rfl (by omega) (kf p' t3 (hq p' rfl) p3 g3)
          · have er : gRr x (n + 1) p' = gFx x n (p' + 1) := by
              show (if p' = x.1 then _ else if gby x p' = 44 then _ else _) = _
              rw [if_neg (by omega), if_pos (by omega)]
              rfl
            rw [er] at hq hl
            refine z_iload_n zi_125_31 rfl ?_
            refine z_bipush zi_125_32 (by decide) ?_
            refine z_icmp_ne_t zi_125_33 (by omega) (by omega) ?_
            refine z_aload_n zi_125_36 rfl ?_
            refine z_dup zi_125_37 rfl ?_
            refine z_getfield zi_125_38 zm_f10 ?_
            rw [p3]
            refine z_iconst zi_125_39 ?_
            refine z_iadd zi_125_40 ?_
            refine z_putfield zi_125_41 rfl (Or.inl rfl) ?_
            refine z_iinc zi_125_42 rfl rfl ?_
            refine z_goto zi_125_43 ?_
            have e6 : (p' : Int) + 1 = ((p' + 1 : Nat) : Int) := by omega
            rw [e6]
            refine z_loc (lv' := [(1, .int (zi ((i + 1 : Nat) : Int))), (0, .ref 50)]) rfl ?_
            refine ih (i + 1) (p' + 1) (acc ++ [y]) _ (by omega) (by rw [List.length_append, List.length_singleton, ha]) (by omega) zup_s (g3.tr (zFt.up (by omega))) (fun m hm => ?_) (fun q z => ?_) (fun l z => ?_)
            · unfold zRd
              rw [zup_o (by omega)]
              exact hrd3 m hm
            · rw [z] at hq
              exact hq q rfl
            · rw [z] at hl
              rw [List.append_assoc]
              exact hl _ rfl
        · have hend : p' = x.1 := by
            unfold gby at c
            split at c
            · rename_i z
              have := hx.2.2.2 p' z
              omega
            · omega
          have er : gRr x (n + 1) p' = .inr [] := by
            unfold gRr
            rw [if_pos hend]
          rw [er] at hl
          dsimp only at hl
          have hl := hl [y] rfl
          refine z_iconst zi_125_26 ?_
          refine z_zreturn zi_125_27 rfl (by omega) (kt _ t3 hl ?_ hrd3 g3)
          rw [f3' 11 (by omega), zup_s, List.length_append, List.length_singleton, ha]; omega
      · rw [e1] at hq
        refine z_if_ne_f zi_125_13 (by omega) (by omega) ?_
        refine z_iconst zi_125_14 ?_
        refine z_zreturn zi_125_15 rfl (by omega) (kf q t1 (hq q rfl) p1 (f'.tr f1))
  refine z_aload_n zi_125_0 rfl ?_
  refine z_iconst zi_125_1 ?_
  refine z_putfield zi_125_2 rfl (Or.inl rfl) ?_
  refine z_iconst zi_125_3 ?_
  refine z_istore_n zi_125_4 rfl ?_
  refine z_loc (lv' := [(1, .int (zi ((0 : Nat) : Int))), (0, .ref 50)]) rfl ?_
  refine loop 7 0 0 [] _ rfl rfl (Nat.zero_le _) zup_s (zFt.up (by omega)) (fun m h => absurd h (Nat.not_lt_zero m)) (fun q z => z) (fun l z => z)
theorem m_stones (h : zRS t g) (hw : gWF g) (hx : zTm t x) (k : ∀ t', zRS t' (oStones g x).2 → t' 50 9 = 0 → (∀ q, q < 50 ∨ q = 55 ∨ (61 ≤ q ∧ q ≤ 66) → t' q = t q) → t' 50 17 = t 50 17 → K (oStones g x).1 t') : ZX (d + 4) 126 0 [(0, .ref 50)] [] t (zKi K) := by
  unfold oStones at k
  refine z_aload_n zi_126_0 rfl ?_
  refine z_cv0i zi_126_1  rfl ⟨rfl, Nat.le_of_ble_eq_true rfl, Nat.le_of_ble_eq_true rfl⟩ (m_readStones hx (fun l t1 e h11 hrd f1 => ?_) (fun q t1 e p1 f1 => ?_))
  · obtain ⟨⟨q1', q2'⟩, l3⟩ := gRx_ok e
    rw [e] at k
    dsimp only at k
    have hgo : gads (gclr g) l = gads (gclr g) l := rfl
    have loop : ∀ (l2 l1 : List gSt) (G : zG) (t' : zMI), l1 ++ l2 = l → gWF G → gN G = l1.length → gads G l2 = gads (gclr g) l → zRS t' G → zFA (zup t1 50 9 0) t' → (∀ q, 55 ≤ q → t' q = t1 q) → t' 50 11 = t1 50 11 → ZX (d + 4) 126 34 [(2, .int (zi (l1.length : Int))), (1, .int (zi 1)), (0, .ref 50)] [] t' (zKi K) := by
      intro l2
      induction l2 with
      | nil =>
        intro l1 G t' el hG hN hgg h' f' f55 f11
        have el2 : l1 = l := by rw [← el, List.append_nil]
        subst el2
        have eG : G = gads (gclr g) l1 := hgg
        refine z_iload_n zi_126_34 rfl ?_
        refine z_aload_n zi_126_35 rfl ?_
        refine z_getfield zi_126_36 zm_f11 ?_
        rw [f11, h11]
        refine z_icmp_ge_t zi_126_37 (by omega) (by omega) ?_
        refine z_aload_n zi_126_80 rfl ?_
        refine z_getfield zi_126_81 zm_f1 ?_
        rw [h'.n, hN]
        refine z_ireturn zi_126_82 rfl (k t' (by rw [← eG]; exact h') ?_ (fun q hq => ?_) ?_)
        · rw [f'.2.1, zup_s]
        · rw [f'.1 q hq, zup_o (by omega)]; exact f1.1 q (by omega) (by omega)
        · rw [f'.2.2, zup_n (by omega)]; exact f1.2 17 (by omega) (by omega)
      | cons y l2 ih =>
        intro l1 G t' el hG hN hgg h' f' f55 f11
        have hlen : l1.length + (l2.length + 1) = l.length := by rw [← el, List.length_append, List.length_cons]
        have hm : l1.length < l.length := by omega
        have hy : l[l1.length] = y := by
          have : (l1 ++ y :: l2)[l1.length]'(by rw [el]; exact hm) = y := by
            rw [List.getElem_append_right (Nat.le_refl _)]
            simp
          simpa only [el] using this
        have hv := hrd l1.length hm
        rw [hy] at hv
        obtain ⟨v0, v1, v2, v3, v4⟩ := hv
        have w : ∀ j, t' 56 j = t1 56 j := fun j => by rw [f55 56 (by omega)]
        refine z_iload_n zi_126_34 rfl ?_
        refine z_aload_n zi_126_35 rfl ?_
        refine z_getfield zi_126_36 zm_f11 ?_
        rw [f11, h11]
        refine z_icmp_ge_f zi_126_37 (by omega) (by omega) ?_
        refine z_aload_n zi_126_38 rfl ?_
        refine z_aload_n zi_126_39 rfl ?_
        refine z_getfield zi_126_40 zm_f12 ?_
        refine z_iconst zi_126_41 ?_
        refine z_iload_n zi_126_42 rfl ?_
        refine z_imul zi_126_43 ?_
        refine z_iaload (n := 5 * l1.length) zi_126_44 rfl (by omega) (by omega) (by omega) ?_
        rw [w, v0]
        refine z_aload_n zi_126_45 rfl ?_
        refine z_getfield zi_126_46 zm_f12 ?_
        refine z_iconst zi_126_47 ?_
        refine z_iload_n zi_126_48 rfl ?_
        refine z_imul zi_126_49 ?_
        refine z_iconst zi_126_50 ?_
        refine z_iadd zi_126_51 ?_
        refine z_iaload (n := 5 * l1.length + 1) zi_126_52 rfl (by omega) (by omega) (by omega) ?_
        rw [w, v1]
        refine z_aload_n zi_126_53 rfl ?_
        refine z_getfield zi_126_54 zm_f12 ?_
        refine z_iconst zi_126_55 ?_
        refine z_iload_n zi_126_56 rfl ?_
        refine z_imul zi_126_57 ?_
        refine z_iconst zi_126_58 ?_
        refine z_iadd zi_126_59 ?_
        refine z_iaload (n := 5 * l1.length + 2) zi_126_60 rfl (by omega) (by omega) (by omega) ?_
        rw [w, v2]
        refine z_aload_n zi_126_61 rfl ?_
        refine z_getfield zi_126_62 zm_f12 ?_
        refine z_iconst zi_126_63 ?_
        refine z_iload_n zi_126_64 rfl ?_
        refine z_imul zi_126_65 ?_
        refine z_iconst zi_126_66 ?_
        refine z_iadd zi_126_67 ?_
        refine z_iaload (n := 5 * l1.length + 3) zi_126_68 rfl (by omega) (by omega) (by omega) ?_
        rw [w, v3]
        refine z_aload_n zi_126_69 rfl ?_
        refine z_getfield zi_126_70 zm_f12 ?_
        refine z_iconst zi_126_71 ?_
        refine z_iload_n zi_126_72 rfl ?_
        refine z_imul zi_126_73 ?_
        refine z_iconst zi_126_74 ?_
        refine z_iadd zi_126_75 ?_
        refine z_iaload (n := 5 * l1.length + 4) zi_126_76 rfl (by omega) (by omega) (by omega) ?_
        rw [w, v4]
        refine z_cv [.int (zi y.1), .int (zi y.2.1), .int (zi y.2.2.1), .int (zi y.2.2.2.1), .int (zi y.2.2.2.2)] [] zi_126_77 rfl rfl (Nat.le_of_ble_eq_true rfl) rfl (Nat.le_of_ble_eq_true rfl) (m_add (Kv := fun t2 => zRS t2 (gad5 G y) ∧ zFA t' t2 ∧ (∀ n, n ≠ 1 → t2 50 n = t' 50 n) ∧ (∀ q, 55 ≤ q → t2 q = t' q)) h' hG (by omega) (fun t2 a b c e => ⟨a, b, c, e⟩)) ?_
        rintro r t2 ⟨rfl, h2, f2, fn2, fq2⟩
        show ZX (d + 4) 126 78 _ [] t2 _
        refine z_iinc zi_126_78 rfl rfl ?_
        refine z_goto zi_126_79 ?_
        have eL : (l1.length : Int) + 1 = ((l1 ++ [y]).length : Int) := by rw [List.length_append, List.length_singleton]; omega
        refine z_loc (lv' := [(2, .int (zi ((l1.length : Int) + 1))), (1, .int (zi 1)), (0, .ref 50)]) rfl ?_
        rw [eL]
        refine ih (l1 ++ [y]) (gad5 G y) t2 (by rw [List.append_assoc]; exact el) (gad5_wf hG (by omega) (l3 y (by rw [← el]; simp))) ?_ hgg h2 (f'.tr f2) (fun q hq => by rw [fq2 q hq, f55 q hq]) (by rw [fn2 11 (by omega), f11])
        show gN G + 1 = _
        rw [hN, List.length_append, List.length_singleton]
    refine z_istore_n zi_126_2 rfl ?_
    refine z_aload_n zi_126_3 rfl ?_
    refine z_iconst zi_126_4 ?_
    refine z_putfield zi_126_5 rfl (Or.inl rfl) ?_
    refine z_iload_n zi_126_6 rfl ?_
    refine z_if_ne_t zi_126_7 (by omega) (by omega) ?_
    refine z_aload_n zi_126_13 rfl ?_
    refine z_iconst zi_126_14 ?_
    refine z_putfield zi_126_15 rfl (Or.inl rfl) ?_
    refine z_aload_n zi_126_16 rfl ?_
    refine z_iconst zi_126_17 ?_
    refine z_putfield zi_126_18 rfl (Or.inl rfl) ?_
    refine z_aload_n zi_126_19 rfl ?_
    refine z_getfield zi_126_20 zm_f5 ?_
    refine z_iconst zi_126_21 ?_
    refine z_iconst zi_126_22 ?_
    refine z_iastore (n := 0) zi_126_23 rfl (by omega) (by omega) (by omega) ?_
    refine z_aload_n zi_126_24 rfl ?_
    refine z_getfield zi_126_25 zm_f5 ?_
    refine z_iconst zi_126_26 ?_
    refine z_iconst zi_126_27 ?_
    refine z_iastore (n := 1) zi_126_28 rfl (by omega) (by omega) (by omega) ?_
    refine z_aload_n zi_126_29 rfl ?_
    refine z_iconst zi_126_30 ?_
    refine z_putfield zi_126_31 rfl (Or.inr ⟨rfl, by omega⟩) ?_
    refine z_iconst zi_126_32 ?_
    refine z_istore_n zi_126_33 rfl ?_
    refine z_loc (lv' := [(2, .int (zi ((([] : List gSt).length : Nat) : Int))), (1, .int (zi 1)), (0, .ref 50)]) rfl ?_
    refine loop l [] (gclr g) _ rfl (gclr_wf hw) rfl rfl ⟨⟨?_, ?_, ?_, ?_⟩, fun s' hs' => absurd hs' (Nat.not_lt_zero s'), fun s' w hs' _ => absurd hs' (Nat.not_lt_zero s'), fun p hp => absurd hp (Nat.not_lt_zero p), ?_, ?_⟩ ?_ (fun q hq => ?_) ?_
    · simp (disch := omega) only [zup_o, zup_n, zup_s]; rfl
    · simp (disch := omega) only [zup_o, zup_n, zup_s]; rfl
    · simp (disch := omega) only [zup_o, zup_n, zup_s]; rfl
    · simp (disch := omega) only [zup_o, zup_n, zup_s]; rw [f1.2 7 (by omega) (by omega)]; exact h.d
    · simp (disch := omega) only [zup_o, zup_n, zup_s]; rfl
    · simp (disch := omega) only [zup_o, zup_n, zup_s]; rfl
    · refine ((((zFA.rf.up ?_).up ?_).up ?_).up ?_).up ?_ <;> omega
    · simp (disch := omega) only [zup_o]
    · simp (disch := omega) only [zup_o, zup_n]
  · rw [e] at k
    dsimp only at k
    refine z_istore_n zi_126_2 rfl ?_
    refine z_aload_n zi_126_3 rfl ?_
    refine z_iconst zi_126_4 ?_
    refine z_putfield zi_126_5 rfl (Or.inl rfl) ?_
    refine z_iload_n zi_126_6 rfl ?_
    refine z_if_ne_f zi_126_7 (by omega) (by omega) ?_
    refine z_bipush zi_126_8 (by decide) ?_
    refine z_aload_n zi_126_9 rfl ?_
    refine z_getfield zi_126_10 zm_f10 ?_
    rw [zup_n (by omega), p1]
    refine z_isub zi_126_11 ?_
    refine z_ireturn zi_126_12 rfl (k _ ?_ zup_s (fun q hq => ?_) ?_)
    · refine zRS_congr h (fun q _ _ => ?_) ?_ ?_ ?_ ?_
      · rw [zup_o (by omega)]; exact f1.1 q (by omega) (by omega)
      all_goals rw [zup_n (by omega)]; exact f1.2 _ (by omega) (by omega)
    · rw [zup_o (by omega)]; exact f1.1 q (by omega) (by omega)
    · rw [zup_n (by omega)]; exact f1.2 17 (by omega) (by omega)
end
