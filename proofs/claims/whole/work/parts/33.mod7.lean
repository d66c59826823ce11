/-! the model: images, sheets -/
def zKp (t : zMI) (g : zG) : Prop :=
  (t 63 0 = (gN g : Int) ∧ t 63 1 = (gL g : Int) ∧ t 63 2 = gS g 0 ∧ t 63 3 = gS g 1 ∧ t 63 4 = gO g ∧ t 63 5 = gD g) ∧ (∀ s, s < gN g → t 61 (6 * s) = gK g s ∧ t 61 (6 * s + 5) = gH g s) ∧
  (∀ s w, s < gN g → w < 2 → t 61 (6 * s + 1 + w) = gT g s w ∧ t 61 (6 * s + 3 + w) = gM g s w) ∧ (∀ p, p < gL g → t 62 p = (gR g p : Int) ∧ t 62 (12 + p) = (gF g p : Int))
def zSm (t : zMI) (sh : gSh) : Prop := ∀ n, n < 4 → t 64 n = sh.1 n ∧ t 65 n = sh.2.1 n ∧ ∀ i, i < 24 → t 66 (24 * n + i) = sh.2.2 n i
theorem zSm_c {t t' : zMI} {sh : gSh} (h : zSm t sh) (e : ∀ q, 64 ≤ q → q ≤ 66 → t' q = t q) : zSm t' sh := by
  unfold zSm
  rw [e 64 (by omega) (by omega), e 65 (by omega) (by omega), e 66 (by omega) (by omega)]
  exact h
theorem zsl24 {v : Int} : (zi v <<< (zi 24 &&& 31)).toInt = ((v + 128) % 256 - 128) * 16777216 := by
  show (zi v <<< (zi 24 &&& 31)).toBitVec.toInt = _
  rw [Int32.toBitVec_shiftLeft]
  have e1 : ((zi 24 &&& 31).toBitVec.smod 32) = 24#32 := by decide
  rw [e1, BitVec.toInt_eq_toNat_bmod, BitVec.shiftLeft_eq', BitVec.toNat_shiftLeft]
  have e2 : (zi v).toBitVec.toNat = (v % 4294967296).toNat := by
    show (BitVec.ofInt 32 v).toNat = _
    rw [BitVec.toNat_ofInt]
    rfl
  rw [e2, Nat.shiftLeft_eq]
  show (((v % 4294967296).toNat * 16777216 % 4294967296 : Nat) : Int).bmod 4294967296 = _
  rw [Int.bmod_def]
  split <;> omega
theorem zsl16 {v : Int} : (zi v <<< (zi 16 &&& 31)).toInt = ((v + 32768) % 65536 - 32768) * 65536 := by
  show (zi v <<< (zi 16 &&& 31)).toBitVec.toInt = _
  rw [Int32.toBitVec_shiftLeft]
  have e1 : ((zi 16 &&& 31).toBitVec.smod 32) = 16#32 := by decide
  rw [e1, BitVec.toInt_eq_toNat_bmod, BitVec.shiftLeft_eq', BitVec.toNat_shiftLeft]
  have e2 : (zi v).toBitVec.toNat = (v % 4294967296).toNat := by
    show (BitVec.ofInt 32 v).toNat = _
    rw [BitVec.toNat_ofInt]
    rfl
  rw [e2, Nat.shiftLeft_eq]
  show (((v % 4294967296).toNat * 65536 % 4294967296 : Nat) : Int).bmod 4294967296 = _
  rw [Int.bmod_def]
  split <;> omega
theorem zsr24 {x : Int32} {m : Int} (h : x.toInt = m * 16777216) : x >>> (zi 24 &&& 31) = zi m := by
  have hr := zi_rng x
  rw [← Int32.toInt_inj, zi_toInt (by omega)]
  show (x >>> (zi 24 &&& 31)).toBitVec.toInt = _
  rw [Int32.toBitVec_shiftRight]
  have e1 : ((zi 24 &&& 31).toBitVec.smod 32) = 24#32 := by decide
  rw [e1]
  show (x.toBitVec.sshiftRight 24).toInt = _
  rw [BitVec.toInt_sshiftRight, Int.shiftRight_eq_div_pow]
  show x.toInt / 16777216 = m
  omega
theorem zsr16 {x : Int32} {m : Int} (h : x.toInt = m * 65536) : x >>> (zi 16 &&& 31) = zi m := by
  have hr := zi_rng x
  rw [← Int32.toInt_inj, zi_toInt (by omega)]
  show (x >>> (zi 16 &&& 31)).toBitVec.toInt = _
  rw [Int32.toBitVec_shiftRight]
  have e1 : ((zi 16 &&& 31).toBitVec.smod 32) = 16#32 := by decide
  rw [e1]
  show (x.toBitVec.sshiftRight 16).toInt = _
  rw [BitVec.toInt_sshiftRight, Int.shiftRight_eq_div_pow]
  show x.toInt / 65536 = m
  omega
theorem zor1 {a b : Nat} (ha : a < 4096) (hb : b < 4096) : zi (a : Int) ||| zi (b : Int) = zi ((a ||| b : Nat) : Int) := by
  rw [← Int32.toBitVec_inj, Int32.toBitVec_or]
  show BitVec.ofInt 32 (a : Int) ||| BitVec.ofInt 32 (b : Int) = BitVec.ofInt 32 ((a ||| b : Nat) : Int)
  have hc : a ||| b < 2 ^ 12 := Nat.or_lt_two_pow ha hb
  apply BitVec.eq_of_toNat_eq
  rw [BitVec.toNat_or, BitVec.ofInt_natCast, BitVec.ofInt_natCast, BitVec.ofInt_natCast, BitVec.toNat_ofNat, BitVec.toNat_ofNat, BitVec.toNat_ofNat, Nat.mod_eq_of_lt (by omega), Nat.mod_eq_of_lt (by omega), Nat.mod_eq_of_lt (by omega)]
theorem gbit_tb {set s : Nat} : gbit set s ↔ set.testBit s = true := by
  rw [Nat.testBit_eq_decide_div_mod_eq]
  exact (decide_eq_true_iff).symm
theorem gbit_or {S k s : Nat} : gbit (S ||| 2 ^ k) s ↔ gbit S s ∨ k = s := by
  rw [gbit_tb, gbit_tb, Nat.testBit_or, Nat.testBit_two_pow, Bool.or_eq_true, decide_eq_true_iff]
theorem gbit_0 (s : Nat) : ¬ gbit 0 s := by
  unfold gbit
  rw [Nat.zero_div]
  omega
section
variable {d : Nat} {t : zMI} {g : zG} {sh : gSh} {K : Int → zMI → Prop} {Kv : zMI → Prop}
theorem m_image (h : zRS t g) (hw : gWF g) (k : ∀ t', zKp t' g → t' 50 17 = 1 → (∀ q, q ≠ 50 → ¬ (61 ≤ q ∧ q ≤ 63) → t' q = t q) → (∀ n, n ≠ 17 → t' 50 n = t 50 n) → K 1 t') : ZX (d + 1) 162 0 [(0, .ref 50)] [] t (zKi K) := by
  have hn := hw.n
  have ho := hw.o
  refine z_aload_n zi_162_0 rfl ?_
  refine z_aload_n zi_162_1 rfl ?_
  refine z_getfield zi_162_2 zm_f18 ?_
  refine z_cv1v zi_162_3 rfl rfl ⟨rfl, Nat.le_of_ble_eq_true rfl, Nat.le_of_ble_eq_true rfl⟩ (m_keepIn rfl (by omega) (fun t1 h1 f1 => ?_))
  have fin : ∀ t2 : zMI, (∀ i, i < 12 → t2 62 i = t 52 i ∧ t2 62 (12 + i) = t 53 i) → (∀ q, q ≠ 62 → t2 q = t1 q) → ZX (d + 1) 162 29 [(1, .int (zi 12)), (0, .ref 50)] [] t2 (zKi K) := by
    intro t2 h2 f2
    have f50 : ∀ n, t2 50 n = t 50 n := fun n => by rw [f2 50 (by omega), f1 50 (by omega)]
    have f54 : ∀ n, t2 54 n = t 54 n := fun n => by rw [f2 54 (by omega), f1 54 (by omega)]
    have last : ∀ x : Int, x = gO g → ZX (d + 1) 162 66 [(1, .int (zi 12)), (0, .ref 50)] [.int (zi x), .int (zi 4), .ref 63] (zup (zup (zup (zup t2 63 0 (gN g : Int)) 63 1 (gL g : Int)) 63 2 (gS g 0)) 63 3 (gS g 1)) (zKi K) := by
      intro x hx
      refine z_iastore (n := 4) zi_162_66 rfl (by omega) (by omega) (by omega) ?_
      refine z_aload_n zi_162_67 rfl ?_
      refine z_getfield zi_162_68 zm_f20 ?_
      refine z_iconst zi_162_69 ?_
      refine z_aload_n zi_162_70 rfl ?_
      refine z_getfield zi_162_71 zm_f7 ?_
      simp (disch := omega) only [zup_o]
      rw [f50, h.d]
      refine z_iastore (n := 5) zi_162_72 rfl (by omega) (by omega) (by omega) ?_
      refine z_aload_n zi_162_73 rfl ?_
      refine z_iconst zi_162_74 ?_
      refine z_putfield zi_162_75 rfl (Or.inr ⟨rfl, by omega⟩) ?_
      refine z_iconst zi_162_76 ?_
      refine z_ireturn zi_162_77 rfl (k _ ⟨⟨?_, ?_, ?_, ?_, ?_, ?_⟩, fun s hs => ?_, fun s w hs hw' => ?_, fun p hp => ?_⟩ zup_s (fun q q1 q2 => ?_) (fun n hn' => ?_))
      · simp (disch := omega) only [zup_o, zup_n, zup_s]
      · simp (disch := omega) only [zup_o, zup_n, zup_s]
      · simp (disch := omega) only [zup_o, zup_n, zup_s]
      · simp (disch := omega) only [zup_o, zup_n, zup_s]
      · simp (disch := omega) only [zup_o, zup_n, zup_s]; exact hx
      · simp (disch := omega) only [zup_o, zup_n, zup_s]
      · simp (disch := omega) only [zup_o]
        rw [f2 61 (by omega), h1 _ (by omega), h1 _ (by omega)]
        exact ⟨h.k hs, h.h hs⟩
      · simp (disch := omega) only [zup_o]
        rw [f2 61 (by omega), h1 _ (by omega), h1 _ (by omega)]
        exact ⟨h.t hs hw', h.m hs hw'⟩
      · simp (disch := omega) only [zup_o]
        rw [(h2 p (by omega)).1, (h2 p (by omega)).2]
        exact ⟨h.r hp, h.f hp⟩
      · simp (disch := omega) only [zup_o]
        rw [f2 q (by omega), f1 q (by omega)]
      · rw [zup_n hn']
        simp (disch := omega) only [zup_o]
        exact f50 n
    refine z_aload_n zi_162_29 rfl ?_
    refine z_getfield zi_162_30 zm_f20 ?_
    refine z_iconst zi_162_31 ?_
    refine z_aload_n zi_162_32 rfl ?_
    refine z_getfield zi_162_33 zm_f1 ?_
    rw [f50, h.n]
    refine z_iastore (n := 0) zi_162_34 rfl (by omega) (by omega) (by omega) ?_
    refine z_aload_n zi_162_35 rfl ?_
    refine z_getfield zi_162_36 zm_f20 ?_
    refine z_iconst zi_162_37 ?_
    refine z_aload_n zi_162_38 rfl ?_
    refine z_getfield zi_162_39 zm_f4 ?_
    rw [zup_o (by omega), f50, h.l]
    refine z_iastore (n := 1) zi_162_40 rfl (by omega) (by omega) (by omega) ?_
    refine z_aload_n zi_162_41 rfl ?_
    refine z_getfield zi_162_42 zm_f20 ?_
    refine z_iconst zi_162_43 ?_
    refine z_aload_n zi_162_44 rfl ?_
    refine z_getfield zi_162_45 zm_f5 ?_
    refine z_iconst zi_162_46 ?_
    refine z_iaload (n := 0) zi_162_47 rfl (by omega) (by omega) (by omega) ?_
    rw [zup_o (by omega), zup_o (by omega), f54, h.s (w := 0) (by omega)]
    refine z_iastore (n := 2) zi_162_48 rfl (by omega) (by omega) (by omega) ?_
    refine z_aload_n zi_162_49 rfl ?_
    refine z_getfield zi_162_50 zm_f20 ?_
    refine z_iconst zi_162_51 ?_
    refine z_aload_n zi_162_52 rfl ?_
    refine z_getfield zi_162_53 zm_f5 ?_
    refine z_iconst zi_162_54 ?_
    refine z_iaload (n := 1) zi_162_55 rfl (by omega) (by omega) (by omega) ?_
    rw [zup_o (by omega), zup_o (by omega), zup_o (by omega), f54, h.s (w := 1) (by omega)]
    refine z_iastore (n := 3) zi_162_56 rfl (by omega) (by omega) (by omega) ?_
    refine z_aload_n zi_162_57 rfl ?_
    refine z_getfield zi_162_58 zm_f20 ?_
    refine z_iconst zi_162_59 ?_
    refine z_aload_n zi_162_60 rfl ?_
    refine z_getfield zi_162_61 zm_f6 ?_
    simp (disch := omega) only [zup_o]
    rw [f50, h.o]
    refine z_if_eq zi_162_62 (by omega) (fun c => ?_) (fun c => ?_)
    · refine z_iconst zi_162_65 ?_
      exact last 0 c.symm
    · refine z_iconst zi_162_63 ?_
      refine z_goto zi_162_64 ?_
      exact last 1 (by omega)
  have loop : ∀ (j n : Nat) (t2 : zMI), n + j = 12 → (∀ i, i < n → t2 62 i = t 52 i ∧ t2 62 (12 + i) = t 53 i) → (∀ q, q ≠ 62 → t2 q = t1 q) → ZX (d + 1) 162 6 [(1, .int (zi n)), (0, .ref 50)] [] t2 (zKi K) := by
    intro j
    induction j with
    | zero =>
      intro n t2 e h2 f2
      have e1 : n = 12 := by omega
      subst e1
      refine z_iload_n zi_162_6 rfl ?_
      refine z_bipush zi_162_7 (by decide) ?_
      refine z_icmp_ge_t zi_162_8 (by omega) (by omega) ?_
      exact fin t2 h2 f2
    | succ j ih =>
      intro n t2 e h2 f2
      refine z_iload_n zi_162_6 rfl ?_
      refine z_bipush zi_162_7 (by decide) ?_
      refine z_icmp_ge_f zi_162_8 (by omega) (by omega) ?_
      refine z_aload_n zi_162_9 rfl ?_
      refine z_getfield zi_162_10 zm_f19 ?_
      refine z_iload_n zi_162_11 rfl ?_
      refine z_aload_n zi_162_12 rfl ?_
      refine z_getfield zi_162_13 zm_f2 ?_
      refine z_iload_n zi_162_14 rfl ?_
      refine z_iaload (n := n) zi_162_15 rfl (by omega) (by omega) (by omega) ?_
      rw [f2 52 (by omega), f1 52 (by omega)]
      refine z_iastore (n := n) zi_162_16 rfl (by omega) (by omega) (by omega) ?_
      refine z_aload_n zi_162_17 rfl ?_
      refine z_getfield zi_162_18 zm_f19 ?_
      refine z_bipush zi_162_19 (by decide) ?_
      refine z_iload_n zi_162_20 rfl ?_
      refine z_iadd zi_162_21 ?_
      refine z_aload_n zi_162_22 rfl ?_
      refine z_getfield zi_162_23 zm_f3 ?_
      refine z_iload_n zi_162_24 rfl ?_
      refine z_iaload (n := n) zi_162_25 rfl (by omega) (by omega) (by omega) ?_
      rw [zup_o (by omega), f2 53 (by omega), f1 53 (by omega)]
      refine z_iastore (n := 12 + n) zi_162_26 rfl (by omega) (by omega) (by omega) ?_
      refine z_iinc zi_162_27 rfl rfl ?_
      refine z_goto zi_162_28 ?_
      refine z_loc (lv' := [(1, .int (zi ((n + 1 : Nat) : Int))), (0, .ref 50)]) rfl ?_
      refine ih (n + 1) _ (by omega) (fun i hi => ?_) (fun q hq => by rw [zup_o hq, zup_o hq]; exact f2 q hq)
      rw [zup_at, zup_at, zup_at, zup_at]
      by_cases z : i = n
      · rw [if_neg (by omega), if_pos z, if_pos (by omega), z]
        exact ⟨rfl, rfl⟩
      · rw [if_neg (by omega), if_neg z, if_neg (by omega), if_neg (by omega)]
        exact h2 i (by omega)
  refine z_iconst zi_162_4 ?_
  refine z_istore_n zi_162_5 rfl ?_
  refine z_loc (lv' := [(1, .int (zi ((0 : Nat) : Int))), (0, .ref 50)]) rfl ?_
  exact loop 12 0 t1 (by omega) (fun i hi => by omega) (fun _ _ => rfl)
theorem m_restore0 (h : t 50 17 = 0) (k : K (-4) t) : ZX (d + 1) 163 0 [(0, .ref 50)] [] t (zKi K) := by
  refine z_aload_n zi_163_0 rfl ?_
  refine z_getfield zi_163_1 zm_f17 ?_
  refine z_top h ?_
  refine z_if_ne_f zi_163_2 (by omega) (by omega) ?_
  refine z_bipush zi_163_3 (by decide) ?_
  refine z_ireturn zi_163_4 rfl k
theorem m_restore1 (h : t 50 17 = 1) (hk : zKp t g) (hw : gWF g) (k : ∀ t', zRS t' g → zFA t t' → K 1 t') : ZX (d + 1) 163 0 [(0, .ref 50)] [] t (zKi K) := by
  have hn := hw.n
  have ho := hw.o
  obtain ⟨⟨k0, k1, k2, k3, k4, k5⟩, kk, kt, kr⟩ := hk
  refine z_aload_n zi_163_0 rfl ?_
  refine z_getfield zi_163_1 zm_f17 ?_
  refine z_top h ?_
  refine z_if_ne_t zi_163_2 (by omega) (by omega) ?_
  refine z_aload_n zi_163_5 rfl ?_
  refine z_aload_n zi_163_6 rfl ?_
  refine z_getfield zi_163_7 zm_f18 ?_
  refine z_aload_n zi_163_8 rfl ?_
  refine z_getfield zi_163_9 zm_f20 ?_
  refine z_iconst zi_163_10 ?_
  refine z_iaload (n := 1) zi_163_11 rfl (by omega) (by omega) (by omega) ?_
  rw [k1]
  refine z_cv2v zi_163_12 rfl rfl rfl ⟨rfl, Nat.le_of_ble_eq_true rfl, Nat.le_of_ble_eq_true rfl⟩ (m_bringBack rfl (by omega) (by omega) (fun t1 b1 b2 b3 b4 => ?_))
  have fin : ∀ t2 : zMI, (∀ i, i < 12 → t2 52 i = t 62 i ∧ t2 53 i = t 62 (12 + i)) → (∀ q, q ≠ 52 → q ≠ 53 → t2 q = t1 q) → ZX (d + 1) 163 38 [(1, .int (zi 12)), (0, .ref 50)] [] t2 (zKi K) := by
    intro t2 h2 f2
    have f63 : ∀ n, t2 63 n = t 63 n := fun n => by rw [f2 63 (by omega) (by omega), b4 63 (by omega) (by omega)]
    have last : ∀ x : Int, x = gO g → ZX (d + 1) 163 70 [(1, .int (zi 12)), (0, .ref 50)] [.int (zi x), .ref 50] (zup (zup (zup t2 50 1 (gN g : Int)) 54 0 (gS g 0)) 54 1 (gS g 1)) (zKi K) := by
      intro x hx
      have hx01 : x = 0 ∨ x = 1 := by omega
      refine z_putfield zi_163_70 rfl (Or.inr ⟨rfl, by omega⟩) ?_
      refine z_aload_n zi_163_71 rfl ?_
      refine z_aload_n zi_163_72 rfl ?_
      refine z_getfield zi_163_73 zm_f20 ?_
      refine z_iconst zi_163_74 ?_
      refine z_iaload (n := 5) zi_163_75 rfl (by omega) (by omega) (by omega) ?_
      simp (disch := omega) only [zup_o]
      rw [f63, k5]
      refine z_putfield zi_163_76 rfl (Or.inl rfl) ?_
      refine z_iconst zi_163_77 ?_
      refine z_ireturn zi_163_78 rfl (k _ ⟨⟨?_, ?_, ?_, ?_⟩, fun s hs => ?_, fun s w hs hw' => ?_, fun p hp => ?_, ?_, ?_⟩ ⟨fun q hq => ?_, ?_, ?_⟩)
      · simp (disch := omega) only [zup_o, zup_n, zup_s]
      · simp (disch := omega) only [zup_o, zup_n, zup_s]
        rw [f2 50 (by omega) (by omega), b2]
      · simp (disch := omega) only [zup_o, zup_n, zup_s]; exact hx
      · simp (disch := omega) only [zup_o, zup_n, zup_s]
      · simp (disch := omega) only [zup_o]
        rw [f2 51 (by omega) (by omega), b1 _ (by omega), b1 _ (by omega)]
        exact kk s hs
      · simp (disch := omega) only [zup_o]
        rw [f2 51 (by omega) (by omega), b1 _ (by omega), b1 _ (by omega)]
        exact kt s w hs hw'
      · simp (disch := omega) only [zup_o]
        rw [(h2 p (by omega)).1, (h2 p (by omega)).2]
        exact kr p hp
      · simp (disch := omega) only [zup_o, zup_n, zup_s]
      · simp (disch := omega) only [zup_o, zup_n, zup_s]
      · simp (disch := omega) only [zup_o]
        rw [f2 q (by omega) (by omega), b4 q (by omega) (by omega)]
      · simp (disch := omega) only [zup_o, zup_n, zup_s]
        rw [f2 50 (by omega) (by omega), b3 9 (by omega)]
      · simp (disch := omega) only [zup_o, zup_n, zup_s]
        rw [f2 50 (by omega) (by omega), b3 17 (by omega)]
    refine z_aload_n zi_163_38 rfl ?_
    refine z_aload_n zi_163_39 rfl ?_
    refine z_getfield zi_163_40 zm_f20 ?_
    refine z_iconst zi_163_41 ?_
    refine z_iaload (n := 0) zi_163_42 rfl (by omega) (by omega) (by omega) ?_
    rw [f63, k0]
    refine z_putfield zi_163_43 rfl (Or.inl rfl) ?_
    refine z_aload_n zi_163_44 rfl ?_
    refine z_getfield zi_163_45 zm_f5 ?_
    refine z_iconst zi_163_46 ?_
    refine z_aload_n zi_163_47 rfl ?_
    refine z_getfield zi_163_48 zm_f20 ?_
    refine z_iconst zi_163_49 ?_
    refine z_iaload (n := 2) zi_163_50 rfl (by omega) (by omega) (by omega) ?_
    rw [zup_o (by omega), f63, k2]
    refine z_iastore (n := 0) zi_163_51 rfl (by omega) (by omega) (by omega) ?_
    refine z_aload_n zi_163_52 rfl ?_
    refine z_getfield zi_163_53 zm_f5 ?_
    refine z_iconst zi_163_54 ?_
    refine z_aload_n zi_163_55 rfl ?_
    refine z_getfield zi_163_56 zm_f20 ?_
    refine z_iconst zi_163_57 ?_
    refine z_iaload (n := 3) zi_163_58 rfl (by omega) (by omega) (by omega) ?_
    rw [zup_o (by omega), zup_o (by omega), f63, k3]
    refine z_iastore (n := 1) zi_163_59 rfl (by omega) (by omega) (by omega) ?_
    refine z_aload_n zi_163_60 rfl ?_
    refine z_aload_n zi_163_61 rfl ?_
    refine z_getfield zi_163_62 zm_f20 ?_
    refine z_iconst zi_163_63 ?_
    refine z_iaload (n := 4) zi_163_64 rfl (by omega) (by omega) (by omega) ?_
    rw [zup_o (by omega), zup_o (by omega), zup_o (by omega), f63, k4]
    refine z_iconst zi_163_65 ?_
    refine z_icmp_ne zi_163_66 (by omega) (fun c => ?_) (fun c => ?_)
    · refine z_iconst zi_163_69 ?_
      exact last 0 (by omega)
    · refine z_iconst zi_163_67 ?_
      refine z_goto zi_163_68 ?_
      exact last 1 (by omega)
  have loop : ∀ (j n : Nat) (t2 : zMI), n + j = 12 → (∀ i, i < n → t2 52 i = t 62 i ∧ t2 53 i = t 62 (12 + i)) → (∀ q, q ≠ 52 → q ≠ 53 → t2 q = t1 q) → ZX (d + 1) 163 15 [(1, .int (zi n)), (0, .ref 50)] [] t2 (zKi K) := by
    intro j
    induction j with
    | zero =>
      intro n t2 e h2 f2
      have e1 : n = 12 := by omega
      subst e1
      refine z_iload_n zi_163_15 rfl ?_
      refine z_bipush zi_163_16 (by decide) ?_
      refine z_icmp_ge_t zi_163_17 (by omega) (by omega) ?_
      exact fin t2 h2 f2
    | succ j ih =>
      intro n t2 e h2 f2
      have f62 : ∀ n, t2 62 n = t 62 n := fun n => by rw [f2 62 (by omega) (by omega), b4 62 (by omega) (by omega)]
      refine z_iload_n zi_163_15 rfl ?_
      refine z_bipush zi_163_16 (by decide) ?_
      refine z_icmp_ge_f zi_163_17 (by omega) (by omega) ?_
      refine z_aload_n zi_163_18 rfl ?_
      refine z_getfield zi_163_19 zm_f2 ?_
      refine z_iload_n zi_163_20 rfl ?_
      refine z_aload_n zi_163_21 rfl ?_
      refine z_getfield zi_163_22 zm_f19 ?_
      refine z_iload_n zi_163_23 rfl ?_
      refine z_iaload (n := n) zi_163_24 rfl (by omega) (by omega) (by omega) ?_
      rw [f62]
      refine z_iastore (n := n) zi_163_25 rfl (by omega) (by omega) (by omega) ?_
      refine z_aload_n zi_163_26 rfl ?_
      refine z_getfield zi_163_27 zm_f3 ?_
      refine z_iload_n zi_163_28 rfl ?_
      refine z_aload_n zi_163_29 rfl ?_
      refine z_getfield zi_163_30 zm_f19 ?_
      refine z_bipush zi_163_31 (by decide) ?_
      refine z_iload_n zi_163_32 rfl ?_
      refine z_iadd zi_163_33 ?_
      refine z_iaload (n := 12 + n) zi_163_34 rfl (by omega) (by omega) (by omega) ?_
      rw [zup_o (by omega), f62]
      refine z_iastore (n := n) zi_163_35 rfl (by omega) (by omega) (by omega) ?_
      refine z_iinc zi_163_36 rfl rfl ?_
      refine z_goto zi_163_37 ?_
      refine z_loc (lv' := [(1, .int (zi ((n + 1 : Nat) : Int))), (0, .ref 50)]) rfl ?_
      refine ih (n + 1) _ (by omega) (fun i hi => ?_) (fun q q1 q2 => by rw [zup_o q2, zup_o q1]; exact f2 q q1 q2)
      rw [zup_o (show 52 ≠ 53 by omega), zup_at, zup_at, zup_o (show 53 ≠ 52 by omega)]
      by_cases z : i = n
      · rw [if_pos z, if_pos z, z]
        exact ⟨rfl, rfl⟩
      · rw [if_neg z, if_neg z]
        exact h2 i (by omega)
  refine z_iconst zi_163_13 ?_
  refine z_istore_n zi_163_14 rfl ?_
  refine z_loc (lv' := [(1, .int (zi ((0 : Nat) : Int))), (0, .ref 50)]) rfl ?_
  exact loop 12 0 t1 (by omega) (fun i hi => by omega) (fun _ _ _ => rfl)
theorem m_isSheet {s lane : Int} (r1 : -2147483648 ≤ s ∧ s < 2147483648) (r2 : -2147483648 ≤ lane ∧ lane < 2147483648) (kt : (0 ≤ s ∧ s < 4) ∧ (0 ≤ lane ∧ lane ≤ 2) → K 1 t) (kf : ¬ ((0 ≤ s ∧ s < 4) ∧ (0 ≤ lane ∧ lane ≤ 2)) → K 0 t) : ZX (d + 1) 164 0 [(0, .int (zi s)), (1, .int (zi lane))] [] t (zKi K) := by
  refine z_iload_n zi_164_0 rfl ?_
  refine z_i2l zi_164_1 (by omega) ?_
  refine z_lconst (v := 0) zi_164_2 (by decide) ?_
  refine z_ldc2_w (v := 3) zi_164_3 rfl ?_
  refine z_in zi_164_4 (by omega) (Nat.le_of_ble_eq_true rfl) (fun q1 => ?_) (fun q1 => ?_)
  · refine z_if_eq_f zi_164_5 (by omega) (by omega) ?_
    refine z_iload_n zi_164_6 rfl ?_
    refine z_i2l zi_164_7 (by omega) ?_
    refine z_lconst (v := 0) zi_164_8 (by decide) ?_
    refine z_ldc2_w (v := 2) zi_164_9 rfl ?_
    refine z_in zi_164_10 (by omega) (Nat.le_of_ble_eq_true rfl) (fun q2 => ?_) (fun q2 => ?_)
    · refine z_if_eq_f zi_164_11 (by omega) (by omega) ?_
      refine z_iconst zi_164_12 ?_
      refine z_goto zi_164_13 ?_
      refine z_zreturn zi_164_15 rfl (by omega) (kt ⟨by omega, q2⟩)
    · refine z_if_eq_t zi_164_11 (by omega) (by omega) ?_
      refine z_iconst zi_164_14 ?_
      refine z_zreturn zi_164_15 rfl (by omega) (kf (fun z => q2 z.2))
  · refine z_if_eq_t zi_164_5 (by omega) (by omega) ?_
    refine z_iconst zi_164_14 ?_
    refine z_zreturn zi_164_15 rfl (by omega) (kf (fun z => q1 (by omega)))
theorem m_sheet {s lane n : Int} (h : zSm t sh) (r1 : -2147483648 ≤ s ∧ s < 2147483648) (r2 : -2147483648 ≤ lane ∧ lane < 2147483648) (r3 : -2147483648 ≤ n ∧ n < 2147483648) (k : ∀ t', zSm t' (oSheet sh s lane n).2 → (∀ q, ¬ (64 ≤ q ∧ q ≤ 66) → t' q = t q) → K (oSheet sh s lane n).1 t') : ZX (d + 2) 165 0 [(0, .ref 50), (1, .int (zi s)), (2, .int (zi lane)), (3, .int (zi n))] [] t (zKi K) := by
  have bad : ¬ ((0 ≤ s ∧ s < 4) ∧ (0 ≤ lane ∧ lane ≤ 2) ∧ n ≤ 24) → K (-1) t := fun q => by
    have := k t
    unfold oSheet at this
    rw [if_neg q] at this
    exact this h (fun _ _ => rfl)
  refine z_iload_n zi_165_0 rfl ?_
  refine z_iload_n zi_165_1 rfl ?_
  refine z_cs2i zi_165_2 rfl rfl ⟨by decide, rfl, Nat.le_of_ble_eq_true rfl, Nat.le_of_ble_eq_true rfl⟩ (m_isSheet r1 r2 (fun q => ?_) (fun q => ?_))
  · refine z_if_eq_f zi_165_3 (by omega) (by omega) ?_
    refine z_iload_n zi_165_4 rfl ?_
    refine z_bipush zi_165_5 (by decide) ?_
    refine z_icmp_le zi_165_6 (by omega) (fun c => ?_) (fun c => ?_)
    · unfold oSheet at k
      rw [if_pos ⟨q.1, q.2, c⟩] at k
      obtain ⟨m, rfl⟩ : ∃ m : Nat, s = m := ⟨s.toNat, by omega⟩
      rw [Int.toNat_natCast] at k
      refine z_iload_n zi_165_9 rfl ?_
      refine z_if_ge zi_165_10 (by omega) (fun c2 => ?_) (fun c2 => ?_)
      · rw [if_neg (by omega)] at k
        have hm : m < 4 := by omega
        have loop : ∀ (j i : Nat) (t' : zMI), i + j = 24 → (∀ q, q < 4 → t' 64 q = fup sh.1 m lane q ∧ t' 65 q = fup sh.2.1 m n q ∧ ∀ i', i' < 24 → t' 66 (24 * q + i') = if q = m ∧ i' < i then 0 else sh.2.2 q i') → (∀ q, ¬ (64 ≤ q ∧ q ≤ 66) → t' q = t q) → ZX (d + 2) 165 25 [(4, .int (zi i)), (0, .ref 50), (1, .int (zi m)), (2, .int (zi lane)), (3, .int (zi n))] [] t' (zKi K) := by
          intro j
          induction j with
          | zero =>
            intro i t' e h' f'
            refine z_iload zi_165_25 rfl ?_
            refine z_bipush zi_165_26 (by decide) ?_
            refine z_icmp_ge_t zi_165_27 (by omega) (by omega) ?_
            refine z_iload_n zi_165_39 rfl ?_
            refine z_ireturn zi_165_40 rfl (k t' (fun q hq => ⟨(h' q hq).1, (h' q hq).2.1, fun i' hi' => ?_⟩) f')
            rw [(h' q hq).2.2 i' hi']
            show _ = if q = m then 0 else sh.2.2 q i'
            by_cases z : q = m
            · rw [if_pos z, if_pos ⟨z, by omega⟩]
            · rw [if_neg z, if_neg (fun y => z y.1)]
          | succ j ih =>
            intro i t' e h' f'
            refine z_iload zi_165_25 rfl ?_
            refine z_bipush zi_165_26 (by decide) ?_
            refine z_icmp_ge_f zi_165_27 (by omega) (by omega) ?_
            refine z_aload_n zi_165_28 rfl ?_
            refine z_getfield zi_165_29 zm_f23 ?_
            refine z_bipush zi_165_30 (by decide) ?_
            refine z_iload_n zi_165_31 rfl ?_
            refine z_imul zi_165_32 ?_
            refine z_iload zi_165_33 rfl ?_
            refine z_iadd zi_165_34 ?_
            refine z_iconst zi_165_35 ?_
            refine z_iastore (n := 24 * m + i) zi_165_36 rfl (by omega) (by omega) (by omega) ?_
            refine z_iinc zi_165_37 rfl rfl ?_
            refine z_goto zi_165_38 ?_
            refine z_loc (lv' := [(4, .int (zi ((i + 1 : Nat) : Int))), (0, .ref 50), (1, .int (zi m)), (2, .int (zi lane)), (3, .int (zi n))]) rfl ?_
            refine ih (i + 1) _ (by omega) (fun q hq => ?_) (fun q hq => by rw [zup_o (by omega)]; exact f' q hq)
            rw [zup_o (by omega), zup_o (by omega)]
            refine ⟨(h' q hq).1, (h' q hq).2.1, fun i' hi' => ?_⟩
            rw [zup_at]
            by_cases z : q = m ∧ i' = i
            · rw [if_pos (by omega), if_pos ⟨z.1, by omega⟩]
            · rw [if_neg (by omega), (h' q hq).2.2 i' hi']
              by_cases z2 : q = m ∧ i' < i
              · rw [if_pos z2, if_pos ⟨z2.1, by omega⟩]
              · rw [if_neg z2, if_neg (by omega)]
        refine z_aload_n zi_165_13 rfl ?_
        refine z_getfield zi_165_14 zm_f21 ?_
        refine z_iload_n zi_165_15 rfl ?_
        refine z_iload_n zi_165_16 rfl ?_
        refine z_iastore (n := m) zi_165_17 rfl (by omega) (by omega) (by omega) ?_
        refine z_aload_n zi_165_18 rfl ?_
        refine z_getfield zi_165_19 zm_f22 ?_
        refine z_iload_n zi_165_20 rfl ?_
        refine z_iload_n zi_165_21 rfl ?_
        refine z_iastore (n := m) zi_165_22 rfl (by omega) (by omega) (by omega) ?_
        refine z_iconst zi_165_23 ?_
        refine z_istore zi_165_24 rfl ?_
        refine z_loc (lv' := [(4, .int (zi ((0 : Nat) : Int))), (0, .ref 50), (1, .int (zi m)), (2, .int (zi lane)), (3, .int (zi n))]) rfl ?_
        refine loop 24 0 _ (by omega) (fun q hq => ?_) (fun q hq => by rw [zup_o (by omega), zup_o (by omega)])
        obtain ⟨h1, h2, h3⟩ := h q hq
        rw [zup_o (show 64 ≠ 65 by omega), zup_at, zup_at, zup_o (show 65 ≠ 64 by omega), zup_o (show 66 ≠ 65 by omega), zup_o (show 66 ≠ 64 by omega)]
        unfold fup
        refine ⟨?_, ?_, fun i' hi' => ?_⟩
        · rw [h1]
        · rw [h2]
        · rw [if_neg (by omega)]; exact h3 i' hi'
      · rw [if_pos (by omega)] at k
        refine z_bipush zi_165_11 (by decide) ?_
        refine z_ireturn zi_165_12 rfl (k t h (fun _ _ => rfl))
    · refine z_iconst zi_165_7 ?_
      refine z_ireturn zi_165_8 rfl (bad (fun z => c z.2.2))
  · refine z_if_eq_t zi_165_3 (by omega) (by omega) ?_
    refine z_iconst zi_165_7 ?_
    refine z_ireturn zi_165_8 rfl (bad (fun z => q ⟨z.1, z.2.1⟩))
theorem m_drop {s : Int} (h : zSm t sh) (hw : gShW sh) (r1 : -2147483648 ≤ s ∧ s < 2147483648) (k : ∀ t', zSm t' (oDrop sh s).2 → (∀ q, ¬ (64 ≤ q ∧ q ≤ 66) → t' q = t q) → K (oDrop sh s).1 t') : ZX (d + 1) 166 0 [(0, .ref 50), (1, .int (zi s))] [] t (zKi K) := by
  unfold oDrop at k
  refine z_iload_n zi_166_0 rfl ?_
  refine z_i2l zi_166_1 (by omega) ?_
  refine z_lconst (v := 0) zi_166_2 (by decide) ?_
  refine z_ldc2_w (v := 3) zi_166_3 rfl ?_
  refine z_in zi_166_4 (by omega) (Nat.le_of_ble_eq_true rfl) (fun q => ?_) (fun q => ?_)
  · rw [if_pos (by omega)] at k
    obtain ⟨m, rfl⟩ : ∃ m : Nat, s = m := ⟨s.toNat, by omega⟩
    rw [Int.toNat_natCast] at k
    have hm : m < 4 := by omega
    obtain ⟨h1, h2, h3⟩ := h m hm
    obtain ⟨w1, w2, w3⟩ := hw m hm
    refine z_if_ne_t zi_166_5 (by omega) (by omega) ?_
    refine z_aload_n zi_166_8 rfl ?_
    refine z_getfield zi_166_9 zm_f21 ?_
    refine z_iload_n zi_166_10 rfl ?_
    refine z_iaload (n := m) zi_166_11 rfl (by omega) (by omega) (by omega) ?_
    rw [h1]
    refine z_if_ge zi_166_12 (by omega) (fun c => ?_) (fun c => ?_)
    · rw [if_neg (by omega)] at k
      refine z_aload_n zi_166_15 rfl ?_
      refine z_getfield zi_166_16 zm_f21 ?_
      refine z_iload_n zi_166_17 rfl ?_
      refine z_iconst zi_166_18 ?_
      refine z_iastore (n := m) zi_166_19 rfl (by omega) (by omega) (by omega) ?_
      refine z_aload_n zi_166_20 rfl ?_
      refine z_getfield zi_166_21 zm_f22 ?_
      refine z_iload_n zi_166_22 rfl ?_
      refine z_iaload (n := m) zi_166_23 rfl (by omega) (by omega) (by omega) ?_
      rw [zup_o (by omega), h2]
      refine z_ireturn zi_166_24 rfl (k _ (fun q hq => ?_) (fun q hq => by rw [zup_o (by omega)]))
      obtain ⟨h4, h5, h6⟩ := h q hq
      rw [zup_at, zup_o (by omega), zup_o (by omega)]
      refine ⟨?_, h5, h6⟩
      show _ = fup sh.1 m (-1) q
      unfold fup
      rw [h4]
    · rw [if_pos (by omega)] at k
      refine z_bipush zi_166_13 (by decide) ?_
      refine z_ireturn zi_166_14 rfl (k t h (fun _ _ => rfl))
  · rw [if_neg (by omega)] at k
    refine z_if_ne_f zi_166_5 (by omega) (by omega) ?_
    refine z_iconst zi_166_6 ?_
    refine z_ireturn zi_166_7 rfl (k t h (fun _ _ => rfl))
theorem m_lacksRow {a lane fr w : Int} {n : Nat} (h : zSm t sh) (hw : gShW sh) (ha : a = (n : Int)) (hn : n < 4) (r1 : 0 ≤ lane ∧ lane ≤ 2) (r2 : -2147483648 ≤ fr ∧ fr < 2147483648) (r3 : 0 ≤ w ∧ w ≤ 24) (k : K (gLack sh n lane fr w) t) : ZX (d + 1) 167 0 [(0, .ref 50), (1, .int (zi a)), (2, .int (zi lane)), (3, .int (zi fr)), (4, .int (zi w))] [] t (zKi K) := by
  subst ha
  obtain ⟨h1, h2, h3⟩ := h n hn
  obtain ⟨w1, w2, w3⟩ := hw n hn
  unfold gLack at k
  refine z_aload_n zi_167_0 rfl ?_
  refine z_getfield zi_167_1 zm_f21 ?_
  refine z_iload_n zi_167_2 rfl ?_
  refine z_iaload (n := n) zi_167_3 rfl (by omega) (by omega) (by omega) ?_
  rw [h1]
  refine z_iload_n zi_167_4 rfl ?_
  refine z_icmp_eq zi_167_5 (by omega) (fun c => ?_) (fun c => ?_)
  · rw [if_neg (by omega), if_neg (fun z => z c)] at k
    refine z_iload_n zi_167_15 rfl ?_
    refine z_i2l zi_167_16 (by omega) ?_
    refine z_lconst (v := 0) zi_167_17 (by decide) ?_
    refine z_aload_n zi_167_18 rfl ?_
    refine z_getfield zi_167_19 zm_f22 ?_
    refine z_iload_n zi_167_20 rfl ?_
    refine z_iaload (n := n) zi_167_21 rfl (by omega) (by omega) (by omega) ?_
    rw [h2]
    refine z_iload zi_167_22 rfl ?_
    refine z_isub zi_167_23 ?_
    refine z_i2l zi_167_24 (by omega) ?_
    refine z_in zi_167_25 (by omega) (Nat.le_of_ble_eq_true rfl) (fun q => ?_) (fun q => ?_)
    · rw [if_pos q] at k
      refine z_if_eq_f zi_167_26 (by omega) (by omega) ?_
      refine z_iconst zi_167_27 ?_
      refine z_goto zi_167_28 ?_
      refine z_ireturn zi_167_30 rfl k
    · rw [if_neg q] at k
      refine z_if_eq_t zi_167_26 (by omega) (by omega) ?_
      refine z_bipush zi_167_29 (by decide) ?_
      refine z_ireturn zi_167_30 rfl k
  · refine z_aload_n zi_167_6 rfl ?_
    refine z_getfield zi_167_7 zm_f21 ?_
    refine z_iload_n zi_167_8 rfl ?_
    refine z_iaload (n := n) zi_167_9 rfl (by omega) (by omega) (by omega) ?_
    rw [h1]
    refine z_if_ge zi_167_10 (by omega) (fun c2 => ?_) (fun c2 => ?_)
    · rw [if_neg (by omega), if_pos c] at k
      refine z_bipush zi_167_13 (by decide) ?_
      refine z_ireturn zi_167_14 rfl k
    · rw [if_pos (by omega)] at k
      refine z_bipush zi_167_11 (by decide) ?_
      refine z_goto zi_167_12 ?_
      refine z_ireturn zi_167_14 rfl k
theorem gLack_le {sh : gSh} {n : Nat} {lane fr w : Int} : -20 ≤ gLack sh n lane fr w ∧ gLack sh n lane fr w ≤ 0 := by
  unfold gLack
  split
  · omega
  · split
    · omega
    · split <;> omega
theorem m_item {s lane i v : Int} (h : zSm t sh) (hw : gShW sh) (r1 : -2147483648 ≤ s ∧ s < 2147483648) (r2 : -2147483648 ≤ lane ∧ lane < 2147483648) (r3 : -2147483648 ≤ i ∧ i < 2147483648) (r4 : -2147483648 ≤ v ∧ v < 2147483648) (k : ∀ t', zSm t' (oItem sh s lane i v).2 → (∀ q, ¬ (64 ≤ q ∧ q ≤ 66) → t' q = t q) → K (oItem sh s lane i v).1 t') : ZX (d + 2) 168 0 [(0, .ref 50), (1, .int (zi s)), (2, .int (zi lane)), (3, .int (zi i)), (4, .int (zi v))] [] t (zKi K) := by
  unfold oItem at k
  refine z_iload_n zi_168_0 rfl ?_
  refine z_iload_n zi_168_1 rfl ?_
  refine z_cs2i zi_168_2 rfl rfl ⟨by decide, rfl, Nat.le_of_ble_eq_true rfl, Nat.le_of_ble_eq_true rfl⟩ (m_isSheet r1 r2 (fun q => ?_) (fun q => ?_))
  · rw [if_pos q] at k
    obtain ⟨m, rfl⟩ : ∃ m : Nat, s = m := ⟨s.toNat, by omega⟩
    rw [Int.toNat_natCast] at k
    have hm : m < 4 := by omega
    have hgl := gLack_le (sh := sh) (n := m) (lane := lane) (fr := i) (w := 1)
    refine z_if_ne_t zi_168_3 (by omega) (by omega) ?_
    refine z_aload_n zi_168_6 rfl ?_
    refine z_iload_n zi_168_7 rfl ?_
    refine z_iload_n zi_168_8 rfl ?_
    refine z_iload_n zi_168_9 rfl ?_
    refine z_iconst zi_168_10 ?_
    refine z_cv [.int (zi m), .int (zi lane), .int (zi i), .int (zi 1)] [] zi_168_11 rfl rfl (Nat.le_of_ble_eq_true rfl) rfl (Nat.le_of_ble_eq_true rfl) (m_lacksRow (K := fun v t' => v = gLack sh m lane i 1 ∧ t' = t) h hw rfl hm q.2 r3 (by omega) ⟨rfl, rfl⟩) ?_
    rintro r t2 ⟨v', rfl, rfl, rfl⟩
    show ZX (d + 2) 168 12 _ (.int (zi (gLack sh m lane i 1)) :: []) _ _
    refine z_istore zi_168_12 rfl ?_
    refine z_iload zi_168_13 rfl ?_
    refine z_if_ge zi_168_14 (by omega) (fun c => ?_) (fun c => ?_)
    · have c0 : gLack sh m lane i 1 = 0 := by omega
      rw [if_neg (fun z => z c0)] at k
      obtain ⟨g1, g2, g3, g4⟩ := gLack_0 c0
      obtain ⟨w1, w2, w3⟩ := hw m hm
      have fin : ∀ x : Int, x = gnr lane v → ZX (d + 2) 168 42 [(5, .int (zi (gLack sh m lane i 1))), (0, .ref 50), (1, .int (zi m)), (2, .int (zi lane)), (3, .int (zi i)), (4, .int (zi v))] [.int (zi x), .int (zi (24 * (m : Int) + i)), .ref 66] t2 (zKi K) := by
        intro x hx
        refine z_iastore (n := 24 * m + i.toNat) zi_168_42 rfl (by omega) (by omega) (by omega) ?_
        refine z_iconst zi_168_43 ?_
        refine z_ireturn zi_168_44 rfl (k _ (fun q hq => ?_) (fun q hq => by rw [zup_o (by omega)]))
        obtain ⟨h1, h2, h3⟩ := h q hq
        rw [zup_o (by omega), zup_o (by omega)]
        refine ⟨h1, h2, fun j hj => ?_⟩
        show _ = fup2 sh.2.2 m i.toNat (gnr lane v) q j
        unfold fup2
        rw [zup_at]
        by_cases z : q = m ∧ j = i.toNat
        · rw [if_pos z, if_pos (by omega), hx]
        · rw [if_neg z, if_neg (by omega)]
          exact h3 j hj
      have e := gnr lane v
      refine z_aload_n zi_168_17 rfl ?_
      refine z_getfield zi_168_18 zm_f23 ?_
      refine z_bipush zi_168_19 (by decide) ?_
      refine z_iload_n zi_168_20 rfl ?_
      refine z_imul zi_168_21 ?_
      refine z_iload_n zi_168_22 rfl ?_
      refine z_iadd zi_168_23 ?_
      refine z_iload_n zi_168_24 rfl ?_
      refine z_if_ne zi_168_25 (by omega) (fun c1 => ?_) (fun c1 => ?_)
      · refine z_iload_n zi_168_32 rfl ?_
        refine z_iconst zi_168_33 ?_
        refine z_icmp_ne zi_168_34 (by omega) (fun c2 => ?_) (fun c2 => ?_)
        · refine z_iload zi_168_41 rfl ?_
          exact fin v (by unfold gnr; rw [if_neg c1, if_neg c2])
        · refine z_iload zi_168_35 rfl ?_
          refine z_bipush zi_168_36 (by decide) ?_
          refine z_ishl zi_168_37 (zi_of _).symm ?_
          refine z_bipush zi_168_38 (by decide) ?_
          refine z_ishr (v := gnr lane v) zi_168_39 ?_ ?_
          · rw [zi_of]
            refine zsr16 ?_
            rw [zsl16]
            unfold gnr
            rw [if_neg c1, if_pos (by omega)]
          refine z_goto zi_168_40 ?_
          exact fin _ rfl
      · refine z_iload zi_168_26 rfl ?_
        refine z_bipush zi_168_27 (by decide) ?_
        refine z_ishl zi_168_28 (zi_of _).symm ?_
        refine z_bipush zi_168_29 (by decide) ?_
        refine z_ishr (v := gnr lane v) zi_168_30 ?_ ?_
        · rw [zi_of]
          refine zsr24 ?_
          rw [zsl24]
          unfold gnr
          rw [if_pos (by omega)]
        refine z_goto zi_168_31 ?_
        exact fin _ rfl
    · rw [if_pos (by omega)] at k
      refine z_iload zi_168_15 rfl ?_
      refine z_ireturn zi_168_16 rfl (k _ h (fun _ _ => rfl))
  · rw [if_neg q] at k
    refine z_if_ne_f zi_168_3 (by omega) (by omega) ?_
    refine z_iconst zi_168_4 ?_
    refine z_ireturn zi_168_5 rfl (k t h (fun _ _ => rfl))
theorem m_film {s lane fr : Int} (hr : zRS t g) (hg : gWF g) (h : zSm t sh) (hw : gShW sh) (r1 : -2147483648 ≤ s ∧ s < 2147483648) (r2 : -2147483648 ≤ lane ∧ lane < 2147483648) (r3 : -2147483648 ≤ fr ∧ fr < 2147483648) (k : ∀ t', zSm t' (oFilm g sh s lane fr).2 → (∀ q, ¬ (64 ≤ q ∧ q ≤ 66) → t' q = t q) → K (oFilm g sh s lane fr).1 t') : ZX (d + 2) 174 0 [(0, .ref 50), (1, .int (zi s)), (2, .int (zi lane)), (3, .int (zi fr))] [] t (zKi K) := by
  have hn := hg.n
  unfold oFilm at k
  refine z_iload_n zi_174_0 rfl ?_
  refine z_iload_n zi_174_1 rfl ?_
  refine z_cs2i zi_174_2 rfl rfl ⟨by decide, rfl, Nat.le_of_ble_eq_true rfl, Nat.le_of_ble_eq_true rfl⟩ (m_isSheet r1 r2 (fun q => ?_) (fun q => ?_))
  · rw [if_pos q] at k
    obtain ⟨m, rfl⟩ : ∃ m : Nat, s = m := ⟨s.toNat, by omega⟩
    rw [Int.toNat_natCast] at k
    have hm : m < 4 := by omega
    have hgl := gLack_le (sh := sh) (n := m) (lane := lane) (fr := fr) (w := 2 * (gL g : Int))
    refine z_if_ne_t zi_174_3 (by omega) (by omega) ?_
    refine z_aload_n zi_174_6 rfl ?_
    refine z_iload_n zi_174_7 rfl ?_
    refine z_iload_n zi_174_8 rfl ?_
    refine z_iload_n zi_174_9 rfl ?_
    refine z_iconst zi_174_10 ?_
    refine z_aload_n zi_174_11 rfl ?_
    refine z_getfield zi_174_12 zm_f4 ?_
    rw [hr.l]
    refine z_imul zi_174_13 ?_
    refine z_cv [.int (zi m), .int (zi lane), .int (zi fr), .int (zi (2 * (gL g : Int)))] [] zi_174_14 rfl rfl (Nat.le_of_ble_eq_true rfl) rfl (Nat.le_of_ble_eq_true rfl) (m_lacksRow (K := fun v t' => v = gLack sh m lane fr (2 * (gL g : Int)) ∧ t' = t) h hw rfl hm q.2 r3 (by omega) ⟨rfl, rfl⟩) ?_
    rintro r t2 ⟨v', rfl, rfl, rfl⟩
    show ZX (d + 2) 174 15 _ (.int (zi (gLack sh m lane fr (2 * (gL g : Int)))) :: []) _ _
    refine z_istore zi_174_15 rfl ?_
    refine z_iload zi_174_16 rfl ?_
    refine z_if_ge zi_174_17 (by omega) (fun c => ?_) (fun c => ?_)
    · have c0 : gLack sh m lane fr (2 * (gL g : Int)) = 0 := by omega
      rw [if_neg (fun z => z c0)] at k
      obtain ⟨g1, g2, g3, g4⟩ := gLack_0 c0
      obtain ⟨w1, w2, w3⟩ := hw m hm
      obtain ⟨f, rfl⟩ : ∃ f : Nat, fr = f := ⟨fr.toNat, by omega⟩
      rw [Int.toNat_natCast] at k
      have loop : ∀ (j i : Nat) (t' : zMI), i + j = gL g → zSm t' (sh.1, sh.2.1, gfi g sh.2.2 m f i) → (∀ q, ¬ (64 ≤ q ∧ q ≤ 66) → t' q = t2 q) → ZX (d + 2) 174 22 [(5, .int (zi i)), (0, .ref 50), (1, .int (zi m)), (3, .int (zi f))] [] t' (zKi K) := by
        intro j
        induction j with
        | zero =>
          intro i t' e h' f'
          have e1 : i = gL g := by omega
          subst e1
          refine z_iload zi_174_22 rfl ?_
          refine z_aload_n zi_174_23 rfl ?_
          refine z_getfield zi_174_24 zm_f4 ?_
          rw [f' 50 (by omega), hr.l]
          refine z_icmp_ge_t zi_174_25 (by omega) (by omega) ?_
          refine z_iconst zi_174_85 ?_
          refine z_aload_n zi_174_86 rfl ?_
          refine z_getfield zi_174_87 zm_f4 ?_
          rw [f' 50 (by omega), hr.l]
          refine z_imul zi_174_88 ?_
          refine z_ireturn zi_174_89 rfl (k t' h' f')
        | succ j ih =>
          intro i t' e h' f'
          have hri := hg.r (p := i) (by omega)
          have m0 : t2 51 (6 * gR g i + 3 + gF g i) = gM g (gR g i) (gF g i) := hr.m (s := gR g i) (w := gF g i) hri.1 hri.2
          have m1 : t2 51 (6 * gR g i + 3 + (1 - gF g i)) = gM g (gR g i) (1 - gF g i) := hr.m (s := gR g i) (w := 1 - gF g i) hri.1 (by omega)
          refine z_iload zi_174_22 rfl ?_
          refine z_aload_n zi_174_23 rfl ?_
          refine z_getfield zi_174_24 zm_f4 ?_
          rw [f' 50 (by omega), hr.l]
          refine z_icmp_ge_f zi_174_25 (by omega) (by omega) ?_
          refine z_aload_n zi_174_26 rfl ?_
          refine z_getfield zi_174_27 zm_f2 ?_
          refine z_iload zi_174_28 rfl ?_
          refine z_iaload (n := i) zi_174_29 rfl (by omega) (by omega) (by omega) ?_
          rw [f' 52 (by omega), hr.r (by omega)]
          refine z_istore zi_174_30 rfl ?_
          refine z_aload_n zi_174_31 rfl ?_
          refine z_getfield zi_174_32 zm_f23 ?_
          refine z_bipush zi_174_33 (by decide) ?_
          refine z_iload_n zi_174_34 rfl ?_
          refine z_imul zi_174_35 ?_
          refine z_iload_n zi_174_36 rfl ?_
          refine z_iadd zi_174_37 ?_
          refine z_iconst zi_174_38 ?_
          refine z_iload zi_174_39 rfl ?_
          refine z_imul zi_174_40 ?_
          refine z_iadd zi_174_41 ?_
          refine z_aload_n zi_174_42 rfl ?_
          refine z_getfield zi_174_43 zm_f0 ?_
          refine z_bipush zi_174_44 (by decide) ?_
          refine z_iload zi_174_45 rfl ?_
          refine z_imul zi_174_46 ?_
          refine z_iconst zi_174_47 ?_
          refine z_iadd zi_174_48 ?_
          refine z_aload_n zi_174_49 rfl ?_
          refine z_getfield zi_174_50 zm_f3 ?_
          refine z_iload zi_174_51 rfl ?_
          refine z_iaload (n := i) zi_174_52 rfl (by omega) (by omega) (by omega) ?_
          rw [f' 53 (by omega), hr.f (by omega)]
          refine z_iadd zi_174_53 ?_
          refine z_iaload (n := 6 * gR g i + 3 + gF g i) zi_174_54 rfl (by omega) (by omega) (by omega) ?_
          rw [f' 51 (by omega), m0]
          refine z_iastore (n := 24 * m + (f + 2 * i)) zi_174_55 rfl (by omega) (by omega) (by omega) ?_
          refine z_aload_n zi_174_56 rfl ?_
          refine z_getfield zi_174_57 zm_f23 ?_
          refine z_bipush zi_174_58 (by decide) ?_
          refine z_iload_n zi_174_59 rfl ?_
          refine z_imul zi_174_60 ?_
          refine z_iload_n zi_174_61 rfl ?_
          refine z_iadd zi_174_62 ?_
          refine z_iconst zi_174_63 ?_
          refine z_iload zi_174_64 rfl ?_
          refine z_imul zi_174_65 ?_
          refine z_iadd zi_174_66 ?_
          refine z_iconst zi_174_67 ?_
          refine z_iadd zi_174_68 ?_
          refine z_aload_n zi_174_69 rfl ?_
          refine z_getfield zi_174_70 zm_f0 ?_
          refine z_bipush zi_174_71 (by decide) ?_
          refine z_iload zi_174_72 rfl ?_
          refine z_imul zi_174_73 ?_
          refine z_iconst zi_174_74 ?_
          refine z_iadd zi_174_75 ?_
          refine z_aload_n zi_174_76 rfl ?_
          refine z_getfield zi_174_77 zm_f3 ?_
          refine z_iload zi_174_78 rfl ?_
          refine z_iaload (n := i) zi_174_79 rfl (by omega) (by omega) (by omega) ?_
          rw [zup_o (by omega), f' 53 (by omega), hr.f (by omega)]
          refine z_isub zi_174_80 ?_
          refine z_iaload (n := 6 * gR g i + 3 + (1 - gF g i)) zi_174_81 rfl (by omega) (by omega) (by omega) ?_
          rw [zup_o (by omega), f' 51 (by omega), m1]
          refine z_iastore (n := 24 * m + (f + 2 * i + 1)) zi_174_82 rfl (by omega) (by omega) (by omega) ?_
          refine z_iinc zi_174_83 rfl rfl ?_
          refine z_goto zi_174_84 ?_
          refine z_loc (lv' := [(5, .int (zi ((i + 1 : Nat) : Int))), (0, .ref 50), (1, .int (zi m)), (3, .int (zi f))]) rfl ?_
          refine ih (i + 1) _ (by omega) (fun q hq => ?_) (fun q hq => by rw [zup_o (by omega), zup_o (by omega)]; exact f' q hq)
          obtain ⟨h1, h2, h3⟩ := h' q hq
          rw [zup_o (by omega), zup_o (by omega), zup_o (by omega), zup_o (by omega)]
          refine ⟨h1, h2, fun j hj => ?_⟩
          show _ = fup2 (fup2 (gfi g sh.2.2 m f i) m (f + 2 * i) (gM g (gR g i) (gF g i))) m (f + 2 * i + 1) (gM g (gR g i) (1 - gF g i)) q j
          unfold fup2
          rw [zup_at, zup_at]
          by_cases z : q = m ∧ j = f + 2 * i + 1
          · rw [if_pos (by omega), if_pos z]
          · rw [if_neg (by omega), if_neg z]
            by_cases z2 : q = m ∧ j = f + 2 * i
            · rw [if_pos (by omega), if_pos z2]
            · rw [if_neg (by omega), if_neg z2]
              exact h3 j hj
      refine z_iconst zi_174_20 ?_
      refine z_istore zi_174_21 rfl ?_
      refine z_loc (lv' := [(5, .int (zi ((0 : Nat) : Int))), (0, .ref 50), (1, .int (zi m)), (3, .int (zi f))]) rfl ?_
      exact loop (gL g) 0 t2 (by omega) h (fun _ _ => rfl)
    · rw [if_pos (by omega)] at k
      refine z_iload zi_174_18 rfl ?_
      refine z_ireturn zi_174_19 rfl (k _ h (fun _ _ => rfl))
  · rw [if_neg q] at k
    refine z_if_ne_f zi_174_3 (by omega) (by omega) ?_
    refine z_iconst zi_174_4 ?_
    refine z_ireturn zi_174_5 rfl (k t h (fun _ _ => rfl))
theorem m_judged {s lane fr n : Int} (hr : zRS t g) (hg : gWF g) (h : zSm t sh) (hw : gShW sh) (r1 : -2147483648 ≤ s ∧ s < 2147483648) (r2 : -2147483648 ≤ lane ∧ lane < 2147483648) (r3 : -2147483648 ≤ fr ∧ fr < 2147483648) (r4 : -2147483648 ≤ n ∧ n < 2147483648) (k : ∀ v, oJudged g sh s lane fr n v → K v t) : ZX (d + 2) 169 0 [(0, .ref 50), (1, .int (zi s)), (2, .int (zi lane)), (3, .int (zi fr)), (4, .int (zi n))] [] t (zKi K) := by
  have hn12 := hg.n
  have bad : ¬ ((0 ≤ s ∧ s < 4) ∧ (0 ≤ lane ∧ lane ≤ 2) ∧ (1 ≤ n ∧ n ≤ 12)) → K (-1) t := fun q => k (-1) (by unfold oJudged; rw [if_neg q])
  refine z_iload_n zi_169_0 rfl ?_
  refine z_iload_n zi_169_1 rfl ?_
  refine z_cs2i zi_169_2 rfl rfl ⟨by decide, rfl, Nat.le_of_ble_eq_true rfl, Nat.le_of_ble_eq_true rfl⟩ (m_isSheet r1 r2 (fun q => ?_) (fun q => ?_))
  rotate_left
  · refine z_if_eq_t zi_169_3 (by omega) (by omega) ?_
    refine z_iconst zi_169_10 ?_
    refine z_ireturn zi_169_11 rfl (bad (fun z => q ⟨z.1, z.2.1⟩))
  refine z_if_eq_f zi_169_3 (by omega) (by omega) ?_
  refine z_iload zi_169_4 rfl ?_
  refine z_i2l zi_169_5 (by omega) ?_
  refine z_lconst (v := 1) zi_169_6 (by decide) ?_
  refine z_ldc2_w (v := 12) zi_169_7 rfl ?_
  refine z_in zi_169_8 (by omega) (Nat.le_of_ble_eq_true rfl) (fun q3 => ?_) (fun q3 => ?_)
  rotate_left
  · refine z_if_ne_f zi_169_9 (by omega) (by omega) ?_
    refine z_iconst zi_169_10 ?_
    refine z_ireturn zi_169_11 rfl (bad (fun z => q3 z.2.2))
  have hin : (0 ≤ s ∧ s < 4) ∧ (0 ≤ lane ∧ lane ≤ 2) ∧ (1 ≤ n ∧ n ≤ 12) := ⟨q.1, q.2, q3⟩
  unfold oJudged at k
  simp only [if_pos hin] at k
  obtain ⟨m, rfl⟩ : ∃ m : Nat, s = m := ⟨s.toNat, by omega⟩
  obtain ⟨N, rfl⟩ : ∃ N : Nat, n = N := ⟨n.toNat, by omega⟩
  simp only [Int.toNat_natCast] at k
  have hm : m < 4 := by omega
  have hgl := gLack_le (sh := sh) (n := m) (lane := lane) (fr := fr) (w := 2 * (N : Int))
  refine z_if_ne_t zi_169_9 (by omega) (by omega) ?_
  refine z_aload_n zi_169_12 rfl ?_
  refine z_iload_n zi_169_13 rfl ?_
  refine z_iload_n zi_169_14 rfl ?_
  refine z_iload_n zi_169_15 rfl ?_
  refine z_iconst zi_169_16 ?_
  refine z_iload zi_169_17 rfl ?_
  refine z_imul zi_169_18 ?_
  refine z_cv [.int (zi m), .int (zi lane), .int (zi fr), .int (zi (2 * (N : Int)))] [] zi_169_19 rfl rfl (Nat.le_of_ble_eq_true rfl) rfl (Nat.le_of_ble_eq_true rfl) (m_lacksRow (K := fun v t' => v = gLack sh m lane fr (2 * (N : Int)) ∧ t' = t) h hw rfl hm q.2 r3 (by omega) ⟨rfl, rfl⟩) ?_
  rintro r t2 ⟨v', rfl, rfl, rfl⟩
  show ZX (d + 2) 169 20 _ (.int (zi (gLack sh m lane fr (2 * (N : Int)))) :: []) _ _
  refine z_istore zi_169_20 rfl ?_
  refine z_iload zi_169_21 rfl ?_
  refine z_if_ge zi_169_22 (by omega) (fun c => ?_) (fun c => ?_)
  rotate_left
  · simp only [if_pos (show gLack sh m lane fr (2 * (N : Int)) ≠ 0 by omega)] at k
    refine z_iload zi_169_23 rfl ?_
    refine z_ireturn zi_169_24 rfl (k _ rfl)
  have c0 : gLack sh m lane fr (2 * (N : Int)) = 0 := by omega
  simp only [if_neg (show ¬ gLack sh m lane fr (2 * (N : Int)) ≠ 0 from fun z => z c0)] at k
  obtain ⟨g1, g2, g3, g4⟩ := gLack_0 c0
  obtain ⟨w1, w2, w3⟩ := hw m hm
  obtain ⟨f, rfl⟩ : ∃ f : Nat, fr = f := ⟨fr.toNat, by omega⟩
  simp only [Int.toNat_natCast] at k
  have hit : ∀ i, i < 24 → t2 66 (24 * m + i) = sh.2.2 m i := (h m hm).2.2
  -- the second run
  have run : (∀ i', i' < N → (0 ≤ sh.2.2 m (f + 2 * i') ∧ sh.2.2 m (f + 2 * i') < gN g) ∧ (0 ≤ sh.2.2 m (f + 2 * i' + 1) ∧ sh.2.2 m (f + 2 * i' + 1) ≤ 1)) → ZX (d + 2) 169 66 [(6, .int (zi (24 * (m : Int) + f))), (0, .ref 50), (4, .int (zi N))] [] t2 (zKi K) := by
    intro hall
    simp only [if_pos hall] at k
    obtain ⟨st, hst⟩ : ∃ st : Nat → Nat, ∀ i, i < N → sh.2.2 m (f + 2 * i) = (st i : Int) ∧ st i < gN g := ⟨fun i => (sh.2.2 m (f + 2 * i)).toNat, fun i hi => by have := hall i hi; dsimp only; omega⟩
    obtain ⟨ft, hft⟩ : ∃ ft : Nat → Nat, ∀ i, i < N → sh.2.2 m (f + 2 * i + 1) = (ft i : Int) ∧ ft i < 2 := ⟨fun i => (sh.2.2 m (f + 2 * i + 1)).toNat, fun i hi => by have := hall i hi; dsimp only; omega⟩
    have hb : ∀ i, i < N → (gbad g (fun k => (sh.2.2 m (f + 2 * k)).toNat) (fun k => (sh.2.2 m (f + 2 * k + 1)).toNat) i ↔ gbad g st ft i) := fun i hi => by
      have es : ∀ j, j ≤ i → (sh.2.2 m (f + 2 * j)).toNat = st j := fun j hj => by have := hst j (by omega); omega
      have ef : ∀ j, j ≤ i → (sh.2.2 m (f + 2 * j + 1)).toNat = ft j := fun j hj => by have := hft j (by omega); omega
      unfold gbad
      dsimp only
      rw [es i (Nat.le_refl _), ef i (Nat.le_refl _), es (i - 1) (by omega), ef (i - 1) (by omega)]
      refine or_congr ⟨?_, ?_⟩ Iff.rfl
      · rintro ⟨j, j1, j2⟩; exact ⟨j, j1, by rw [← es j (by omega)]; exact j2⟩
      · rintro ⟨j, j1, j2⟩; exact ⟨j, j1, by rw [es j (by omega)]; exact j2⟩
    have kS : ∀ i : Nat, i < N → gbad g st ft i → (∀ j, j < i → ¬ gbad g st ft j) → K i t2 := fun i hi x y => k i (Or.inl ⟨i, rfl, hi, (hb i hi).mpr x, fun j hj z => y j hj ((hb j (by omega)).mp z)⟩)
    have kN : (∀ i, i < N → ¬ gbad g st ft i) → K (-4) t2 := fun x => k (-4) (Or.inr ⟨rfl, fun i hi z => x i hi ((hb i hi).mp z)⟩)
    have loop : ∀ (j i S : Nat) (la : Int), i + j = N → S < 4096 → (∀ s, s < 12 → (gbit S s ↔ ∃ j, j < i ∧ st j = s)) → (0 < i → la = gT g (st (i - 1)) (1 - ft (i - 1))) → (0 ≤ la ∧ la ≤ 9) → (∀ j, j < i → ¬ gbad g st ft j) → ZX (d + 2) 169 72 [(9, .int (zi i)), (8, .int (zi la)), (7, .int (zi S)), (6, .int (zi (24 * (m : Int) + f))), (0, .ref 50), (4, .int (zi N))] [] t2 (zKi K) := by
      intro j
      induction j with
      | zero =>
        intro i S la e hS hbit hla hla2 hno
        refine z_iload zi_169_72 rfl ?_
        refine z_iload zi_169_73 rfl ?_
        refine z_icmp_ge_t zi_169_74 (by omega) (by omega) ?_
        refine z_bipush zi_169_128 (by decide) ?_
        refine z_ireturn zi_169_129 rfl (kN (fun i' hi' => hno i' (by omega)))
      | succ j ih =>
        intro i S la e hS hbit hla hla2 hno
        have h1 := hst i (by omega)
        have h2 := hft i (by omega)
        have t0 := hg.t (s := st i) (w := ft i) h1.2 h2.2
        have t1 := hg.t (s := st i) (w := 1 - ft i) h1.2 (by omega)
        have hd : S / 2 ^ st i < 2147483648 := Nat.lt_of_le_of_lt (Nat.div_le_self _ _) (by omega)
        refine z_iload zi_169_72 rfl ?_
        refine z_iload zi_169_73 rfl ?_
        refine z_icmp_ge_f zi_169_74 (by omega) (by omega) ?_
        refine z_aload_n zi_169_75 rfl ?_
        refine z_getfield zi_169_76 zm_f23 ?_
        refine z_iload zi_169_77 rfl ?_
        refine z_iconst zi_169_78 ?_
        refine z_iload zi_169_79 rfl ?_
        refine z_imul zi_169_80 ?_
        refine z_iadd zi_169_81 ?_
        refine z_iaload (n := 24 * m + (f + 2 * i)) zi_169_82 rfl (by omega) (by omega) (by omega) ?_
        rw [hit _ (by omega), h1.1]
        refine z_istore zi_169_83 rfl ?_
        refine z_aload_n zi_169_84 rfl ?_
        refine z_getfield zi_169_85 zm_f23 ?_
        refine z_iload zi_169_86 rfl ?_
        refine z_iconst zi_169_87 ?_
        refine z_iload zi_169_88 rfl ?_
        refine z_imul zi_169_89 ?_
        refine z_iadd zi_169_90 ?_
        refine z_iconst zi_169_91 ?_
        refine z_iadd zi_169_92 ?_
        refine z_iaload (n := 24 * m + (f + 2 * i + 1)) zi_169_93 rfl (by omega) (by omega) (by omega) ?_
        rw [hit _ (by omega), h2.1]
        refine z_istore zi_169_94 rfl ?_
        refine z_iload zi_169_95 rfl ?_
        refine z_iload zi_169_96 rfl ?_
        refine z_ishr zi_169_97 (zshr1 (by omega) (by omega)) ?_
        refine z_iconst zi_169_98 ?_
        refine z_iand zi_169_99 (zand1 hd) ?_
        refine z_iconst zi_169_100 ?_
        have next : ¬ gbad g st ft i → ZX (d + 2) 169 113 [(11, .int (zi (ft i))), (10, .int (zi (st i))), (9, .int (zi i)), (8, .int (zi la)), (7, .int (zi S)), (6, .int (zi (24 * (m : Int) + f))), (0, .ref 50), (4, .int (zi N))] [] t2 (zKi K) := by
          intro nb
          have hp : 2 ^ st i < 4096 := Nat.pow_lt_pow_right (a := 2) (n := 12) (by omega) (by omega)
          have ho : S ||| 2 ^ st i < 2 ^ 12 := Nat.or_lt_two_pow hS hp
          refine z_iload zi_169_113 rfl ?_
          refine z_iconst zi_169_114 ?_
          refine z_iload zi_169_115 rfl ?_
          refine z_ishl zi_169_116 (zshl1 (by omega)) ?_
          refine z_ior zi_169_117 (zor1 hS hp) ?_
          refine z_istore zi_169_118 rfl ?_
          refine z_aload_n zi_169_119 rfl ?_
          refine z_iload zi_169_120 rfl ?_
          refine z_iconst zi_169_121 ?_
          refine z_iload zi_169_122 rfl ?_
          refine z_isub zi_169_123 ?_
          refine z_cv2i zi_169_124 rfl rfl rfl ⟨rfl, Nat.le_of_ble_eq_true rfl, Nat.le_of_ble_eq_true rfl⟩ (m_teeth (s := st i) (w := 1 - ft i) hr hg rfl h1.2 (by omega) (by omega) ?_)
          refine z_istore zi_169_125 rfl ?_
          refine z_iinc zi_169_126 rfl rfl ?_
          refine z_goto zi_169_127 ?_
          refine z_loc (lv' := [(9, .int (zi ((i + 1 : Nat) : Int))), (8, .int (zi (gT g (st i) (1 - ft i)))), (7, .int (zi ((S ||| 2 ^ st i : Nat) : Int))), (6, .int (zi (24 * (m : Int) + f))), (0, .ref 50), (4, .int (zi N))]) rfl ?_
          refine ih (i + 1) _ _ (by omega) ho (fun s hs => ?_) (fun _ => by rw [Nat.add_sub_cancel]) (by omega) (fun j' hj' => ?_)
          · rw [gbit_or, hbit s hs]
            constructor
            · rintro (⟨j', x1, x2⟩ | x)
              · exact ⟨j', by omega, x2⟩
              · exact ⟨i, by omega, x⟩
            · rintro ⟨j', x1, x2⟩
              rcases (by omega : j' < i ∨ j' = i) with z | z
              · exact Or.inl ⟨j', z, x2⟩
              · rw [z] at x2; exact Or.inr x2
          · rcases (by omega : j' < i ∨ j' = i) with z | z
            · exact hno j' z
            · rw [z]; exact nb
        refine z_icmp_eq zi_169_101 (by omega) (fun c1 => ?_) (fun c1 => ?_)
        · refine z_iload zi_169_111 rfl ?_
          refine z_ireturn zi_169_112 rfl (kS i (by omega) (Or.inl ?_) hno)
          have : gbit S (st i) := by unfold gbit; omega
          exact (hbit (st i) (by omega)).mp this
        · have c1' : ¬ ∃ j, j < i ∧ st j = st i := fun z => c1 (by
            have : gbit S (st i) := (hbit (st i) (by omega)).mpr z
            unfold gbit at this
            omega)
          refine z_iload zi_169_102 rfl ?_
          refine z_if_le zi_169_103 (by omega) (fun c2 => ?_) (fun c2 => ?_)
          · refine next ?_
            rintro (z | ⟨z, _⟩)
            · exact c1' z
            · omega
          · have hla := hla (by omega)
            refine z_aload_n zi_169_104 rfl ?_
            refine z_iload zi_169_105 rfl ?_
            refine z_iload zi_169_106 rfl ?_
            refine z_cv2i zi_169_107 rfl rfl rfl ⟨rfl, Nat.le_of_ble_eq_true rfl, Nat.le_of_ble_eq_true rfl⟩ (m_teeth (s := st i) (w := ft i) hr hg rfl h1.2 rfl h2.2 ?_)
            refine z_iload zi_169_108 rfl ?_
            refine z_cs2i zi_169_109 rfl rfl ⟨by decide, rfl, Nat.le_of_ble_eq_true rfl, Nat.le_of_ble_eq_true rfl⟩ (m_mesh (by omega) (fun y => ?_) (fun y => ?_))
            · refine z_if_ne_t zi_169_110 (by omega) (by omega) ?_
              refine next ?_
              rintro (z | ⟨_, z⟩)
              · exact c1' z
              · rw [← hla] at z; exact z y
            · refine z_if_ne_f zi_169_110 (by omega) (by omega) ?_
              refine z_iload zi_169_111 rfl ?_
              refine z_ireturn zi_169_112 rfl (kS i (by omega) (Or.inr ⟨by omega, ?_⟩) hno)
              rw [← hla]; exact y
    refine z_iconst zi_169_66 ?_
    refine z_istore zi_169_67 rfl ?_
    refine z_iconst zi_169_68 ?_
    refine z_istore zi_169_69 rfl ?_
    refine z_iconst zi_169_70 ?_
    refine z_istore zi_169_71 rfl ?_
    refine z_loc (lv' := [(9, .int (zi ((0 : Nat) : Int))), (8, .int (zi 0)), (7, .int (zi ((0 : Nat) : Int))), (6, .int (zi (24 * (m : Int) + f))), (0, .ref 50), (4, .int (zi N))]) rfl ?_
    refine loop N 0 0 0 (by omega) (by omega) (fun s _ => ⟨fun z => absurd z (gbit_0 s), ?_⟩) (fun z => absurd z (Nat.lt_irrefl 0)) (by omega) (fun j hj => absurd hj (Nat.not_lt_zero j))
    rintro ⟨j, j1, _⟩
    exact absurd j1 (Nat.not_lt_zero j)
  have chk : ∀ (j i : Nat), i + j = N → (∀ i', i' < i → (0 ≤ sh.2.2 m (f + 2 * i') ∧ sh.2.2 m (f + 2 * i') < gN g) ∧ (0 ≤ sh.2.2 m (f + 2 * i' + 1) ∧ sh.2.2 m (f + 2 * i' + 1) ≤ 1)) → ZX (d + 2) 169 33 [(7, .int (zi i)), (6, .int (zi (24 * (m : Int) + f))), (0, .ref 50), (4, .int (zi N))] [] t2 (zKi K) := by
    intro j
    induction j with
    | zero =>
      intro i e hi
      refine z_iload zi_169_33 rfl ?_
      refine z_iload zi_169_34 rfl ?_
      refine z_icmp_ge_t zi_169_35 (by omega) (by omega) ?_
      refine z_loc (lv' := [(6, .int (zi (24 * (m : Int) + f))), (0, .ref 50), (4, .int (zi N))]) rfl ?_
      exact run (fun i' hi' => hi i' (by omega))
    | succ j ih =>
      intro i e hi
      have r5 := w3 (f + 2 * i) (by omega)
      have r6 := w3 (f + 2 * i + 1) (by omega)
      have no : ¬ ((0 ≤ sh.2.2 m (f + 2 * i) ∧ sh.2.2 m (f + 2 * i) < gN g) ∧ (0 ≤ sh.2.2 m (f + 2 * i + 1) ∧ sh.2.2 m (f + 2 * i + 1) ≤ 1)) → K (-2) t2 := fun q => by
        refine k (-2) ?_
        rw [if_neg (fun z => q (z i (by omega)))]
      refine z_iload zi_169_33 rfl ?_
      refine z_iload zi_169_34 rfl ?_
      refine z_icmp_ge_f zi_169_35 (by omega) (by omega) ?_
      refine z_aload_n zi_169_36 rfl ?_
      refine z_aload_n zi_169_37 rfl ?_
      refine z_getfield zi_169_38 zm_f23 ?_
      refine z_iload zi_169_39 rfl ?_
      refine z_iconst zi_169_40 ?_
      refine z_iload zi_169_41 rfl ?_
      refine z_imul zi_169_42 ?_
      refine z_iadd zi_169_43 ?_
      refine z_iaload (n := 24 * m + (f + 2 * i)) zi_169_44 rfl (by omega) (by omega) (by omega) ?_
      rw [hit _ (by omega)]
      refine z_cv1i zi_169_45 rfl rfl ⟨rfl, Nat.le_of_ble_eq_true rfl, Nat.le_of_ble_eq_true rfl⟩ (m_isStone hr hg r5 (fun q4 => ?_) (fun q4 => ?_))
      · refine z_if_eq_f zi_169_46 (by omega) (by omega) ?_
        refine z_aload_n zi_169_47 rfl ?_
        refine z_getfield zi_169_48 zm_f23 ?_
        refine z_iload zi_169_49 rfl ?_
        refine z_iconst zi_169_50 ?_
        refine z_iload zi_169_51 rfl ?_
        refine z_imul zi_169_52 ?_
        refine z_iadd zi_169_53 ?_
        refine z_iconst zi_169_54 ?_
        refine z_iadd zi_169_55 ?_
        refine z_iaload (n := 24 * m + (f + 2 * i + 1)) zi_169_56 rfl (by omega) (by omega) (by omega) ?_
        rw [hit _ (by omega)]
        refine z_i2l zi_169_57 (by omega) ?_
        refine z_lconst (v := 0) zi_169_58 (by decide) ?_
        refine z_lconst (v := 1) zi_169_59 (by decide) ?_
        refine z_in zi_169_60 (by omega) (Nat.le_of_ble_eq_true rfl) (fun q5 => ?_) (fun q5 => ?_)
        · refine z_if_ne_t zi_169_61 (by omega) (by omega) ?_
          refine z_iinc zi_169_64 rfl rfl ?_
          refine z_goto zi_169_65 ?_
          refine z_loc (lv' := [(7, .int (zi ((i + 1 : Nat) : Int))), (6, .int (zi (24 * (m : Int) + f))), (0, .ref 50), (4, .int (zi N))]) rfl ?_
          refine ih (i + 1) (by omega) (fun i' hi' => ?_)
          rcases (by omega : i' < i ∨ i' = i) with z | z
          · exact hi i' z
          · rw [z]; exact ⟨q4, q5⟩
        · refine z_if_ne_f zi_169_61 (by omega) (by omega) ?_
          refine z_bipush zi_169_62 (by decide) ?_
          refine z_ireturn zi_169_63 rfl (no (fun z => q5 z.2))
      · refine z_if_eq_t zi_169_46 (by omega) (by omega) ?_
        refine z_bipush zi_169_62 (by decide) ?_
        refine z_ireturn zi_169_63 rfl (no (fun z => q4 z.1))
  refine z_bipush zi_169_25 (by decide) ?_
  refine z_iload_n zi_169_26 rfl ?_
  refine z_imul zi_169_27 ?_
  refine z_iload_n zi_169_28 rfl ?_
  refine z_iadd zi_169_29 ?_
  refine z_istore zi_169_30 rfl ?_
  refine z_iconst zi_169_31 ?_
  refine z_istore zi_169_32 rfl ?_
  refine z_loc (lv' := [(7, .int (zi ((0 : Nat) : Int))), (6, .int (zi (24 * (m : Int) + f))), (0, .ref 50), (4, .int (zi N))]) rfl ?_
  exact chk N 0 (by omega) (fun i' hi' => by omega)
end
