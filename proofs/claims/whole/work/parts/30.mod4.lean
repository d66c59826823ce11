/-! the model: around, up, point -/
def garh (g : zG) : Nat → Nat
  | 0 => 1
  | n + 1 => Nat.lcm (garh g n) (gTn g (gR g (n / 2)) (n % 2))
theorem garh_2 (g : zG) : ∀ n, garh g (2 * n) = gar g n
  | 0 => rfl
  | n + 1 => by
    have e : 2 * (n + 1) = 2 * n + 1 + 1 := by omega
    rw [e]
    show Nat.lcm (Nat.lcm (garh g (2 * n)) (gTn g (gR g (2 * n / 2)) (2 * n % 2))) (gTn g (gR g ((2 * n + 1) / 2)) ((2 * n + 1) % 2)) = _
    rw [garh_2 g n, show 2 * n / 2 = n by omega, show 2 * n % 2 = 0 by omega, show (2 * n + 1) / 2 = n by omega, show (2 * n + 1) % 2 = 1 by omega]
    rfl
theorem garh_dvd {g : zG} (h : gWF g) : ∀ n, n ≤ 2 * gL g → garh g n ∣ 2520
  | 0, _ => Nat.one_dvd 2520
  | n + 1, hn => by
    have hr := h.r (p := n / 2) (by omega)
    exact Nat.lcm_dvd (garh_dvd h n (by omega)) (gTn_dvd h hr.1 (by omega))
theorem garh_mono (g : zG) (n : Nat) : ∀ k, garh g n ∣ garh g (n + k)
  | 0 => Nat.dvd_refl _
  | k + 1 => Nat.dvd_trans (garh_mono g n k) (Nat.dvd_lcm_left _ _)
theorem gTn_gar {g : zG} {i : Nat} (hi : i < 2 * gL g) : gTn g (gR g (i / 2)) (i % 2) ∣ gar g (gL g) := by
  rw [← garh_2]
  have h1 := garh_mono g (i + 1) (2 * gL g - (i + 1))
  rw [show i + 1 + (2 * gL g - (i + 1)) = 2 * gL g by omega] at h1
  exact Nat.dvd_trans (Nat.dvd_lcm_right _ _) h1
theorem gU_dvd {g : zG} (hw : gWF g) {i : Nat} (hi : i < 2 * gL g) : gTn g (gR g (i / 2)) (gU g i) ∣ gar g (gL g) := by
  have hr := hw.r (p := i / 2) (by omega)
  have h0 := gTn_gar (g := g) (i := 2 * (i / 2)) (by omega)
  have h1 := gTn_gar (g := g) (i := 2 * (i / 2) + 1) (by omega)
  rw [show 2 * (i / 2) / 2 = i / 2 by omega, show 2 * (i / 2) % 2 = 0 by omega] at h0
  rw [show (2 * (i / 2) + 1) / 2 = i / 2 by omega, show (2 * (i / 2) + 1) % 2 = 1 by omega] at h1
  have hu : gU g i = 0 ∨ gU g i = 1 := by
    unfold gU
    split <;> omega
  rcases hu with e | e <;> rw [e]
  · exact h0
  · exact h1
theorem gUp_mod {g : zG} (hw : gWF g) {x : Nat} (h : gUp g (2 * gL g) x) : gUp g (2 * gL g) (x % gar g (gL g)) := fun i hi => by
  refine gC_down (gV_pm g i) (h i hi) (Nat.mod_le _ _) (Nat.dvd_trans (gU_dvd hw hi) ?_)
  exact Nat.dvd_sub_mod x
theorem zuc {m v : Int} {T x : Nat} (hv : v = 1 ∨ v = -1) (hT : 0 < T) : (x : Int) % (T : Int) = (0 + v * (0 - m)) % (T : Int) ↔ gC m v T x := by
  unfold gC
  rw [Int.emod_eq_emod_iff_emod_sub_eq_zero]
  rcases hv with rfl | rfl
  · rw [show (x : Int) - (0 + 1 * (0 - m)) = m + 1 * (x : Int) by omega]
  · rw [show (x : Int) - (0 + -1 * (0 - m)) = -(m + -1 * (x : Int)) by omega]
    constructor
    · intro h
      exact Int.emod_eq_zero_of_dvd (Int.dvd_neg.mp (Int.dvd_of_emod_eq_zero h))
    · intro h
      exact Int.emod_eq_zero_of_dvd (Int.dvd_neg.mpr (Int.dvd_of_emod_eq_zero h))
section
variable {d : Nat} {t : zMI} {g : zG} {sh : gSh} {K : Int → zMI → Prop} {Kv : zMI → Prop}
theorem m_isForwardLocked (h : zRS t g) (hw : gWF g) (kt : ∀ t', gLk g 1 ≠ 0 → zWy t' 1 g (gL g) → (∀ q, q ≠ 57 → q ≠ 58 → t' q = t q) → K 1 t') (kf : ∀ t', gLk g 1 = 0 → zWy t' 1 g (gL g) → (∀ q, q ≠ 57 → q ≠ 58 → t' q = t q) → K 0 t') : ZX (d + 3) 147 0 [(0, .ref 50)] [] t (zKi K) := by
  refine z_aload_n zi_147_0 rfl ?_
  refine z_iconst zi_147_1 ?_
  refine z_cv1v zi_147_2 rfl rfl ⟨rfl, Nat.le_of_ble_eq_true rfl, Nat.le_of_ble_eq_true rfl⟩ (m_findWays h hw (Or.inl rfl) (fun t1 y1 f1 => ?_))
  have h1 := zRS_w h f1
  refine z_aload_n zi_147_3 rfl ?_
  refine z_cv0i zi_147_4  rfl ⟨rfl, Nat.le_of_ble_eq_true rfl, Nat.le_of_ble_eq_true rfl⟩ (m_isLocked h1 hw (Or.inl rfl) y1 (fun q => ?_) (fun q => ?_))
  · refine z_zreturn zi_147_5 rfl (by omega) (kt t1 q y1 f1)
  · refine z_zreturn zi_147_5 rfl (by omega) (kf t1 q y1 f1)
theorem m_common {x y : Int} {a b : Nat} (hx : x = (a : Int)) (hy : y = (b : Int)) (ha : a < 1000000) (hb : b < 1000000) (k : K (Nat.gcd a b : Nat) t) : ZX d 148 0 [(0, .int (zi x)), (1, .int (zi y))] [] t (zKi K) := by
  subst hx hy
  have loop : ∀ (n b' a' : Nat), b' ≤ n → a' < 1000000 → b' < 1000000 → Nat.gcd a' b' = Nat.gcd a b → ZX d 148 4 [(3, .int (zi b')), (2, .int (zi a'))] [] t (zKi K) := by
    intro n
    induction n with
    | zero =>
      intro b' a' hn h1 h2 e
      have e1 : b' = 0 := by omega
      subst e1
      refine z_iload_n zi_148_4 rfl ?_
      refine z_if_eq_t zi_148_5 (by omega) (by omega) ?_
      refine z_iload_n zi_148_15 rfl ?_
      rw [Nat.gcd_zero_right] at e
      rw [← e] at k
      refine z_ireturn zi_148_16 rfl k
    | succ n ih =>
      intro b' a' hn h1 h2 e
      refine z_iload_n zi_148_4 rfl ?_
      refine z_if_eq zi_148_5 (by omega) (fun c => ?_) (fun c => ?_)
      · have e1 : b' = 0 := by omega
        subst e1
        refine z_iload_n zi_148_15 rfl ?_
        rw [Nat.gcd_zero_right] at e
        rw [← e] at k
        refine z_ireturn zi_148_16 rfl k
      · have hlt := Nat.mod_lt a' (show 0 < b' by omega)
        refine z_iload_n zi_148_6 rfl ?_
        refine z_iload_n zi_148_7 rfl ?_
        refine z_irem zi_148_8 (by omega) ?_
        rw [show (a' : Int).tmod b' = ((a' % b' : Nat) : Int) from (Int.ofNat_tmod a' b').symm]
        refine z_istore zi_148_9 rfl ?_
        refine z_iload_n zi_148_10 rfl ?_
        refine z_istore_n zi_148_11 rfl ?_
        refine z_iload zi_148_12 rfl ?_
        refine z_istore_n zi_148_13 rfl ?_
        refine z_goto zi_148_14 ?_
        refine z_loc (lv' := [(3, .int (zi ((a' % b' : Nat) : Int))), (2, .int (zi b'))]) rfl ?_
        refine ih (a' % b') b' (by omega) h2 (by omega) ?_
        rw [Nat.gcd_comm, ← Nat.gcd_rec, Nat.gcd_comm]
        exact e
  refine z_iload_n zi_148_0 rfl ?_
  refine z_istore_n zi_148_1 rfl ?_
  refine z_iload_n zi_148_2 rfl ?_
  refine z_istore_n zi_148_3 rfl ?_
  refine z_loc (lv' := [(3, .int (zi b)), (2, .int (zi a))]) rfl ?_
  exact loop b b a (Nat.le_refl _) ha hb rfl
theorem m_roundOf (h : zRS t g) (hw : gWF g) (k : K (gar g (gL g)) t) : ZX (d + 1) 149 0 [(0, .ref 50)] [] t (zKi K) := by
  have hn := hw.n
  have loop : ∀ (j n : Nat), n + j = 2 * gL g → ZX (d + 1) 149 4 [(2, .int (zi n)), (1, .int (zi (garh g n))), (0, .ref 50)] [] t (zKi K) := by
    intro j
    induction j with
    | zero =>
      intro n e
      have e1 : n = 2 * gL g := by omega
      subst e1
      refine z_iload_n zi_149_4 rfl ?_
      refine z_iconst zi_149_5 ?_
      refine z_aload_n zi_149_6 rfl ?_
      refine z_getfield zi_149_7 zm_f4 ?_
      rw [h.l]
      refine z_imul zi_149_8 ?_
      refine z_icmp_ge_t zi_149_9 (by omega) (by omega) ?_
      refine z_iload_n zi_149_32 rfl ?_
      rw [garh_2]
      refine z_ireturn zi_149_33 rfl k
    | succ j ih =>
      intro n e
      have hr := hw.r (p := n / 2) (by omega)
      have hT := gTn_eq hw (s := gR g (n / 2)) (w := n % 2) hr.1 (by omega)
      have hd := dvd_rng (garh_dvd hw n (by omega))
      have e1 : (n : Int).tdiv 2 = ((n / 2 : Nat) : Int) := (Int.ofNat_tdiv n 2).symm
      have e2 : (n : Int).tmod 2 = ((n % 2 : Nat) : Int) := (Int.ofNat_tmod n 2).symm
      have eS : garh g (n + 1) = Nat.lcm (garh g n) (gTn g (gR g (n / 2)) (n % 2)) := rfl
      refine z_iload_n zi_149_4 rfl ?_
      refine z_iconst zi_149_5 ?_
      refine z_aload_n zi_149_6 rfl ?_
      refine z_getfield zi_149_7 zm_f4 ?_
      rw [h.l]
      refine z_imul zi_149_8 ?_
      refine z_icmp_ge_f zi_149_9 (by omega) (by omega) ?_
      refine z_aload_n zi_149_10 rfl ?_
      refine z_aload_n zi_149_11 rfl ?_
      refine z_getfield zi_149_12 zm_f2 ?_
      refine z_iload_n zi_149_13 rfl ?_
      refine z_iconst zi_149_14 ?_
      refine z_idiv zi_149_15 (by omega) ?_
      rw [e1]
      refine z_iaload (n := n / 2) zi_149_16 rfl (by omega) (by omega) (by omega) ?_
      rw [h.r (by omega)]
      refine z_iload_n zi_149_17 rfl ?_
      refine z_iconst zi_149_18 ?_
      refine z_irem zi_149_19 (by omega) ?_
      rw [e2]
      refine z_cv2i zi_149_20 rfl rfl rfl ⟨rfl, Nat.le_of_ble_eq_true rfl, Nat.le_of_ble_eq_true rfl⟩ (m_teeth (s := gR g (n / 2)) (w := n % 2) h hw rfl hr.1 rfl (by omega) ?_)
      rw [hT.1]
      refine z_istore_n zi_149_21 rfl ?_
      refine z_iload_n zi_149_22 rfl ?_
      refine z_iload_n zi_149_23 rfl ?_
      refine z_iload_n zi_149_24 rfl ?_
      refine z_cs2i zi_149_25 rfl rfl ⟨by decide, rfl, Nat.le_of_ble_eq_true rfl, Nat.le_of_ble_eq_true rfl⟩ (m_common rfl rfl (by omega) (by omega) ?_)
      have hg := Nat.gcd_pos_of_pos_left (gTn g (gR g (n / 2)) (n % 2)) hd.1
      have hgl := Nat.le_of_dvd hd.1 (Nat.gcd_dvd_left (garh g n) (gTn g (gR g (n / 2)) (n % 2)))
      have e3 : ((garh g n : Nat) : Int).tdiv ((Nat.gcd (garh g n) (gTn g (gR g (n / 2)) (n % 2)) : Nat) : Int) = ((garh g n / Nat.gcd (garh g n) (gTn g (gR g (n / 2)) (n % 2)) : Nat) : Int) := (Int.ofNat_tdiv _ _).symm
      have e4 : garh g n / Nat.gcd (garh g n) (gTn g (gR g (n / 2)) (n % 2)) * gTn g (gR g (n / 2)) (n % 2) = Nat.lcm (garh g n) (gTn g (gR g (n / 2)) (n % 2)) := Nat.div_mul_right_comm (Nat.gcd_dvd_left _ _) _
      refine z_idiv zi_149_26 (by omega) ?_
      rw [e3]
      refine z_iload_n zi_149_27 rfl ?_
      refine z_imul zi_149_28 ?_
      have e5 : ((garh g n / Nat.gcd (garh g n) (gTn g (gR g (n / 2)) (n % 2)) : Nat) : Int) * ((gTn g (gR g (n / 2)) (n % 2) : Nat) : Int) = ((garh g (n + 1) : Nat) : Int) := by
        rw [eS, ← e4, Int.natCast_mul]
      rw [e5]
      refine z_istore_n zi_149_29 rfl ?_
      refine z_iinc zi_149_30 rfl rfl ?_
      refine z_goto zi_149_31 ?_
      refine z_loc (lv' := [(2, .int (zi ((n + 1 : Nat) : Int))), (1, .int (zi (garh g (n + 1)))), (0, .ref 50)]) rfl ?_
      exact ih (n + 1) (by omega)
  refine z_iconst zi_149_0 ?_
  refine z_istore_n zi_149_1 rfl ?_
  refine z_iconst zi_149_2 ?_
  refine z_istore_n zi_149_3 rfl ?_
  refine z_loc (lv' := [(2, .int (zi ((0 : Nat) : Int))), (1, .int (zi (garh g 0))), (0, .ref 50)]) rfl ?_
  exact loop (2 * gL g) 0 (by omega)
theorem m_around (h : zRS t g) (hw : gWF g) (k : ∀ t', zRS t' g → zFA t t' → K (oAround g) t') : ZX (d + 4) 150 0 [(0, .ref 50)] [] t (zKi K) := by
  have hn := hw.n
  unfold oAround at k
  refine z_aload_n zi_150_0 rfl ?_
  refine z_getfield zi_150_1 zm_f4 ?_
  rw [h.l]
  refine z_if_ne zi_150_2 (by omega) (fun c => ?_) (fun c => ?_)
  · rw [if_neg (by omega)] at k
    refine z_aload_n zi_150_5 rfl ?_
    refine z_cv0i zi_150_6  rfl ⟨rfl, Nat.le_of_ble_eq_true rfl, Nat.le_of_ble_eq_true rfl⟩ (m_isForwardLocked h hw (fun t1 q y1 f1 => ?_) (fun t1 q y1 f1 => ?_))
    · rw [if_pos q] at k
      refine z_if_eq_f zi_150_7 (by omega) (by omega) ?_
      refine z_bipush zi_150_8 (by decide) ?_
      refine z_goto zi_150_9 ?_
      refine z_ireturn zi_150_12 rfl (k t1 (zRS_w h f1) ((zFz.w (a := 61) (L := 0) f1).a (by omega)))
    · rw [if_neg (fun z => z q)] at k
      refine z_if_eq_t zi_150_7 (by omega) (by omega) ?_
      refine z_aload_n zi_150_10 rfl ?_
      refine z_cv0i zi_150_11  rfl ⟨rfl, Nat.le_of_ble_eq_true rfl, Nat.le_of_ble_eq_true rfl⟩ (m_roundOf (zRS_w h f1) hw ?_)
      refine z_ireturn zi_150_12 rfl (k t1 (zRS_w h f1) ((zFz.w (a := 61) (L := 0) f1).a (by omega)))
  · rw [if_pos (by omega)] at k
    refine z_bipush zi_150_3 (by decide) ?_
    refine z_goto zi_150_4 ?_
    refine z_ireturn zi_150_12 rfl (k t h zFA.rf)
theorem m_teethTo {a b v n : Int} (h1 : -1000000 ≤ v * (b - a) ∧ v * (b - a) ≤ 1000000) (h2 : 0 < n ∧ n < 1000000) (k : K ((0 + v * (b - a)) % n) t) : ZX (d + 1) 151 0 [(0, .ref 50), (1, .int (zi a)), (2, .int (zi b)), (3, .int (zi v)), (4, .int (zi n))] [] t (zKi K) := by
  refine z_iconst zi_151_0 ?_
  refine z_iload_n zi_151_1 rfl ?_
  refine z_iload_n zi_151_2 rfl ?_
  refine z_iload_n zi_151_3 rfl ?_
  refine z_isub zi_151_4 ?_
  refine z_imul zi_151_5 ?_
  refine z_iload zi_151_6 rfl ?_
  refine z_cs3i zi_151_7 rfl rfl rfl ⟨by decide, rfl, Nat.le_of_ble_eq_true rfl, Nat.le_of_ble_eq_true rfl⟩ (m_round (by omega) h2 ?_)
  refine z_ireturn zi_151_8 rfl k
theorem m_isUpBehind {a : Int} {x : Nat} (h : zRS t g) (hw : gWF g) (hy : zWy t 1 g (gL g)) (ha : a = (x : Int)) (hx : x < 100000) (kt : gUp g (2 * gL g) x → K 1 t) (kf : ¬ gUp g (2 * gL g) x → K 0 t) : ZX (d + 2) 152 0 [(0, .ref 50), (1, .int (zi a))] [] t (zKi K) := by
  subst ha
  have hn := hw.n
  have loop : ∀ (j n : Nat), n + j = gL g → gUp g (2 * n) x → ZX (d + 2) 152 4 [(3, .int (zi n)), (2, .int (zi 1)), (0, .ref 50), (1, .int (zi x))] [] t (zKi K) := by
    intro j
    induction j with
    | zero =>
      intro n e hu
      have e1 : n = gL g := by omega
      subst e1
      refine z_iload_n zi_152_4 rfl ?_
      refine z_aload_n zi_152_5 rfl ?_
      refine z_getfield zi_152_6 zm_f4 ?_
      rw [h.l]
      refine z_icmp_ge_t zi_152_7 (by omega) (by omega) ?_
      refine z_iload_n zi_152_86 rfl ?_
      refine z_zreturn zi_152_87 rfl (by omega) (kt hu)
    | succ j ih =>
      intro n e hu
      have hr := hw.r (p := n) (by omega)
      have hT0 := gTn_eq hw (s := gR g n) (w := gF g n) hr.1 hr.2
      have hT1 := gTn_eq hw (s := gR g n) (w := 1 - gF g n) hr.1 (by omega)
      have t0 := hw.t (s := gR g n) (w := gF g n) hr.1 hr.2
      have t1 := hw.t (s := gR g n) (w := 1 - gF g n) hr.1 (by omega)
      have m0 : t 51 (6 * gR g n + 3 + gF g n) = gM g (gR g n) (gF g n) := h.m (s := gR g n) (w := gF g n) hr.1 hr.2
      have m1 : t 51 (6 * gR g n + 3 + (1 - gF g n)) = gM g (gR g n) (1 - gF g n) := h.m (s := gR g n) (w := 1 - gF g n) hr.1 (by omega)
      have hA := gA_pm g n
      have hB := gB_pm g n
      have u1 : gUp g (2 * n + 1) x ↔ gUp g (2 * n) x ∧ gC (gM g (gR g n) (gF g n)) (gA g n) (gTn g (gR g n) (gF g n)) x := by
        rw [gUp_s, show 2 * n / 2 = n by omega, show gU g (2 * n) = gF g n by unfold gU; rw [if_pos (by omega), show 2 * n / 2 = n by omega], show gV g (2 * n) = gA g n by unfold gV; rw [if_pos (by omega), show 2 * n / 2 = n by omega]]
      have u2 : gUp g (2 * n + 1 + 1) x ↔ gUp g (2 * n + 1) x ∧ gC (gM g (gR g n) (1 - gF g n)) (gB g n) (gTn g (gR g n) (1 - gF g n)) x := by
        rw [gUp_s, show (2 * n + 1) / 2 = n by omega, show gU g (2 * n + 1) = 1 - gF g n by unfold gU; rw [if_neg (by omega), show (2 * n + 1) / 2 = n by omega], show gV g (2 * n + 1) = gB g n by unfold gV; rw [if_neg (by omega), show (2 * n + 1) / 2 = n by omega]]
      have no : ¬ gUp g (2 * n + 1 + 1) x → ZX (d + 2) 152 82 [(5, .int (zi (gF g n))), (4, .int (zi (gR g n))), (3, .int (zi n)), (2, .int (zi 1)), (0, .ref 50), (1, .int (zi x))] [] t (zKi K) := by
        intro q
        have q2 : ¬ gUp g (2 * gL g) x := fun z => q (fun i hi => z i (by omega))
        refine z_iconst zi_152_82 ?_
        refine z_istore_n zi_152_83 rfl ?_
        refine z_iinc zi_152_84 rfl rfl ?_
        refine z_loc (lv' := [(3, .int (zi ((n + 1 : Nat) : Int))), (2, .int (zi 0)), (0, .ref 50), (1, .int (zi x))]) rfl ?_
        refine z_goto zi_152_85 ?_
        refine z_iload_n zi_152_4 rfl ?_
        refine z_aload_n zi_152_5 rfl ?_
        refine z_getfield zi_152_6 zm_f4 ?_
        rw [h.l]
        refine z_icmp_ge zi_152_7 (by omega) (fun w => ?_) (fun w => ?_)
        · refine z_iload_n zi_152_86 rfl ?_
          refine z_zreturn zi_152_87 rfl (by omega) (kf q2)
        · refine z_iload_n zi_152_8 rfl ?_
          refine z_if_eq_t zi_152_9 (by omega) (by omega) ?_
          refine z_iload_n zi_152_86 rfl ?_
          refine z_zreturn zi_152_87 rfl (by omega) (kf q2)
      have pm : ∀ v m : Int, (v = 1 ∨ v = -1) → 0 ≤ m ∧ m ≤ 9 → -1000000 ≤ v * (0 - m) ∧ v * (0 - m) ≤ 1000000 := fun v m hv hm => by
        rcases hv with rfl | rfl <;> omega
      have ex : ∀ T : Nat, (x : Int).tmod (T : Int) = ((x % T : Nat) : Int) := fun T => (Int.ofNat_tmod x T).symm
      refine z_iload_n zi_152_4 rfl ?_
      refine z_aload_n zi_152_5 rfl ?_
      refine z_getfield zi_152_6 zm_f4 ?_
      rw [h.l]
      refine z_icmp_ge_f zi_152_7 (by omega) (by omega) ?_
      refine z_iload_n zi_152_8 rfl ?_
      refine z_if_eq_f zi_152_9 (by omega) (by omega) ?_
      refine z_aload_n zi_152_10 rfl ?_
      refine z_getfield zi_152_11 zm_f2 ?_
      refine z_iload_n zi_152_12 rfl ?_
      refine z_iaload (n := n) zi_152_13 rfl (by omega) (by omega) (by omega) ?_
      rw [h.r (by omega)]
      refine z_istore zi_152_14 rfl ?_
      refine z_aload_n zi_152_15 rfl ?_
      refine z_getfield zi_152_16 zm_f3 ?_
      refine z_iload_n zi_152_17 rfl ?_
      refine z_iaload (n := n) zi_152_18 rfl (by omega) (by omega) (by omega) ?_
      rw [h.f (by omega)]
      refine z_istore zi_152_19 rfl ?_
      refine z_iload_n zi_152_20 rfl ?_
      refine z_aload_n zi_152_21 rfl ?_
      refine z_iload zi_152_22 rfl ?_
      refine z_iload zi_152_23 rfl ?_
      refine z_cv2i zi_152_24 rfl rfl rfl ⟨rfl, Nat.le_of_ble_eq_true rfl, Nat.le_of_ble_eq_true rfl⟩ (m_teeth (s := gR g n) (w := gF g n) h hw rfl hr.1 rfl hr.2 ?_)
      rw [hT0.1]
      refine z_irem zi_152_25 (by omega) ?_
      rw [ex]
      refine z_aload_n zi_152_26 rfl ?_
      refine z_aload_n zi_152_27 rfl ?_
      refine z_getfield zi_152_28 zm_f0 ?_
      refine z_bipush zi_152_29 (by decide) ?_
      refine z_iload zi_152_30 rfl ?_
      refine z_imul zi_152_31 ?_
      refine z_iconst zi_152_32 ?_
      refine z_iadd zi_152_33 ?_
      refine z_iload zi_152_34 rfl ?_
      refine z_iadd zi_152_35 ?_
      refine z_iaload (n := 6 * gR g n + 3 + gF g n) zi_152_36 rfl (by omega) (by omega) (by omega) ?_
      rw [m0]
      refine z_iconst zi_152_37 ?_
      refine z_aload_n zi_152_38 rfl ?_
      refine z_getfield zi_152_39 zm_f13 ?_
      refine z_iload_n zi_152_40 rfl ?_
      refine z_iaload (n := n) zi_152_41 rfl (by omega) (by omega) (by omega) ?_
      rw [(hy n (by omega)).1, Int.one_mul]
      refine z_aload_n zi_152_42 rfl ?_
      refine z_iload zi_152_43 rfl ?_
      refine z_iload zi_152_44 rfl ?_
      refine z_cv2i zi_152_45 rfl rfl rfl ⟨rfl, Nat.le_of_ble_eq_true rfl, Nat.le_of_ble_eq_true rfl⟩ (m_teeth (s := gR g n) (w := gF g n) h hw rfl hr.1 rfl hr.2 ?_)
      rw [hT0.1]
      refine z_cv4i zi_152_46 rfl rfl rfl rfl rfl ⟨rfl, Nat.le_of_ble_eq_true rfl, Nat.le_of_ble_eq_true rfl⟩ (m_teethTo (pm _ _ hA (by omega)) (by omega) ?_)
      have c0 := zuc (m := gM g (gR g n) (gF g n)) (v := gA g n) (T := gTn g (gR g n) (gF g n)) (x := x) hA (by omega)
      have b0 := Int.emod_nonneg (0 + gA g n * (0 - gM g (gR g n) (gF g n))) (show ((gTn g (gR g n) (gF g n) : Nat) : Int) ≠ 0 by omega)
      have b1 := Int.emod_lt_of_pos (0 + gA g n * (0 - gM g (gR g n) (gF g n))) (show (0 : Int) < ((gTn g (gR g n) (gF g n) : Nat) : Int) by omega)
      have b2 := Nat.mod_lt x (show gTn g (gR g n) (gF g n) > 0 by omega)
      have ec : ((x % gTn g (gR g n) (gF g n) : Nat) : Int) = (x : Int) % ((gTn g (gR g n) (gF g n) : Nat) : Int) := Int.natCast_emod _ _
      rw [← ec] at c0
      generalize (0 + gA g n * (0 - gM g (gR g n) (gF g n))) % ((gTn g (gR g n) (gF g n) : Nat) : Int) = y0 at c0 b0 b1 ⊢
      refine z_icmp_ne zi_152_47 (by omega) (fun w => ?_) (fun w => ?_)
      · exact no (fun z => w (c0.mpr (u1.mp (u2.mp z).1).2))
      · have w1 := c0.mp (by omega)
        refine z_iload_n zi_152_48 rfl ?_
        refine z_aload_n zi_152_49 rfl ?_
        refine z_iload zi_152_50 rfl ?_
        refine z_iconst zi_152_51 ?_
        refine z_iload zi_152_52 rfl ?_
        refine z_isub zi_152_53 ?_
        refine z_cv2i zi_152_54 rfl rfl rfl ⟨rfl, Nat.le_of_ble_eq_true rfl, Nat.le_of_ble_eq_true rfl⟩ (m_teeth (s := gR g n) (w := 1 - gF g n) h hw rfl hr.1 (by omega) (by omega) ?_)
        rw [hT1.1]
        refine z_irem zi_152_55 (by omega) ?_
        rw [ex]
        refine z_aload_n zi_152_56 rfl ?_
        refine z_aload_n zi_152_57 rfl ?_
        refine z_getfield zi_152_58 zm_f0 ?_
        refine z_bipush zi_152_59 (by decide) ?_
        refine z_iload zi_152_60 rfl ?_
        refine z_imul zi_152_61 ?_
        refine z_iconst zi_152_62 ?_
        refine z_iadd zi_152_63 ?_
        refine z_iload zi_152_64 rfl ?_
        refine z_isub zi_152_65 ?_
        refine z_iaload (n := 6 * gR g n + 3 + (1 - gF g n)) zi_152_66 rfl (by omega) (by omega) (by omega) ?_
        rw [m1]
        refine z_iconst zi_152_67 ?_
        refine z_aload_n zi_152_68 rfl ?_
        refine z_getfield zi_152_69 zm_f14 ?_
        refine z_iload_n zi_152_70 rfl ?_
        refine z_iaload (n := n) zi_152_71 rfl (by omega) (by omega) (by omega) ?_
        rw [(hy n (by omega)).2, Int.one_mul]
        refine z_aload_n zi_152_72 rfl ?_
        refine z_iload zi_152_73 rfl ?_
        refine z_iconst zi_152_74 ?_
        refine z_iload zi_152_75 rfl ?_
        refine z_isub zi_152_76 ?_
        refine z_cv2i zi_152_77 rfl rfl rfl ⟨rfl, Nat.le_of_ble_eq_true rfl, Nat.le_of_ble_eq_true rfl⟩ (m_teeth (s := gR g n) (w := 1 - gF g n) h hw rfl hr.1 (by omega) (by omega) ?_)
        rw [hT1.1]
        refine z_cv4i zi_152_78 rfl rfl rfl rfl rfl ⟨rfl, Nat.le_of_ble_eq_true rfl, Nat.le_of_ble_eq_true rfl⟩ (m_teethTo (pm _ _ hB (by omega)) (by omega) ?_)
        have c1 := zuc (m := gM g (gR g n) (1 - gF g n)) (v := gB g n) (T := gTn g (gR g n) (1 - gF g n)) (x := x) hB (by omega)
        have b3 := Int.emod_nonneg (0 + gB g n * (0 - gM g (gR g n) (1 - gF g n))) (show ((gTn g (gR g n) (1 - gF g n) : Nat) : Int) ≠ 0 by omega)
        have b4 := Int.emod_lt_of_pos (0 + gB g n * (0 - gM g (gR g n) (1 - gF g n))) (show (0 : Int) < ((gTn g (gR g n) (1 - gF g n) : Nat) : Int) by omega)
        have b5 := Nat.mod_lt x (show gTn g (gR g n) (1 - gF g n) > 0 by omega)
        have ec1 : ((x % gTn g (gR g n) (1 - gF g n) : Nat) : Int) = (x : Int) % ((gTn g (gR g n) (1 - gF g n) : Nat) : Int) := Int.natCast_emod _ _
        rw [← ec1] at c1
        generalize (0 + gB g n * (0 - gM g (gR g n) (1 - gF g n))) % ((gTn g (gR g n) (1 - gF g n) : Nat) : Int) = y1 at c1 b3 b4 ⊢
        refine z_icmp_ne zi_152_79 (by omega) (fun w2 => ?_) (fun w2 => ?_)
        · exact no (fun z => w2 (c1.mpr (u2.mp z).2))
        · have w3 := c1.mp (by omega)
          refine z_iconst zi_152_80 ?_
          refine z_goto zi_152_81 ?_
          refine z_istore_n zi_152_83 rfl ?_
          refine z_iinc zi_152_84 rfl rfl ?_
          refine z_goto zi_152_85 ?_
          refine z_loc (lv' := [(3, .int (zi ((n + 1 : Nat) : Int))), (2, .int (zi 1)), (0, .ref 50), (1, .int (zi x))]) rfl ?_
          exact ih (n + 1) (by omega) (u2.mpr ⟨u1.mpr ⟨hu, w1⟩, w3⟩)
  refine z_iconst zi_152_0 ?_
  refine z_istore_n zi_152_1 rfl ?_
  refine z_iconst zi_152_2 ?_
  refine z_istore_n zi_152_3 rfl ?_
  refine z_loc (lv' := [(3, .int (zi ((0 : Nat) : Int))), (2, .int (zi 1)), (0, .ref 50), (1, .int (zi x))]) rfl ?_
  exact loop (gL g) 0 (by omega) (fun i hi => by omega)
theorem m_up (h : zRS t g) (hw : gWF g) (k : ∀ v t', oUp g v → zRS t' g → zFA t t' → K v t') : ZX (d + 4) 153 0 [(0, .ref 50)] [] t (zKi K) := by
  have hn := hw.n
  unfold oUp at k
  refine z_aload_n zi_153_0 rfl ?_
  refine z_getfield zi_153_1 zm_f4 ?_
  rw [h.l]
  refine z_if_ne zi_153_2 (by omega) (fun c => ?_) (fun c => ?_)
  · simp only [if_neg (show ¬ gL g = 0 by omega)] at k
    refine z_aload_n zi_153_5 rfl ?_
    refine z_cv0i zi_153_6  rfl ⟨rfl, Nat.le_of_ble_eq_true rfl, Nat.le_of_ble_eq_true rfl⟩ (m_isForwardLocked h hw (fun t1 q y1 f1 => ?_) (fun t1 q y1 f1 => ?_))
    · simp only [if_pos q] at k
      refine z_if_eq_f zi_153_7 (by omega) (by omega) ?_
      refine z_bipush zi_153_8 (by decide) ?_
      refine z_ireturn zi_153_9 rfl (k _ t1 rfl (zRS_w h f1) ((zFz.w (a := 61) (L := 0) f1).a (by omega)))
    · simp only [if_neg (show ¬ gLk g 1 ≠ 0 from fun z => z q)] at k
      have h1 := zRS_w h f1
      have k := fun v hv => k v t1 hv h1 ((zFz.w (a := 61) (L := 0) f1).a (by omega))
      have hd := dvd_rng (gar_dvd hw (gL g) (Nat.le_refl _))
      refine z_if_eq_t zi_153_7 (by omega) (by omega) ?_
      refine z_aload_n zi_153_10 rfl ?_
      refine z_cv0i zi_153_11  rfl ⟨rfl, Nat.le_of_ble_eq_true rfl, Nat.le_of_ble_eq_true rfl⟩ (m_roundOf h1 hw ?_)
      have loop : ∀ (j n : Nat), n + j = gar g (gL g) → (∀ y, y < n → ¬ gUp g (2 * gL g) y) → ZX (d + 4) 153 15 [(2, .int (zi n)), (1, .int (zi (gar g (gL g)))), (0, .ref 50)] [] t1 (zKi K) := by
        intro j
        induction j with
        | zero =>
          intro n e hu
          have e1 : n = gar g (gL g) := by omega
          refine z_iload_n zi_153_15 rfl ?_
          refine z_iload_n zi_153_16 rfl ?_
          refine z_icmp_ge_t zi_153_17 (by omega) (by omega) ?_
          refine z_bipush zi_153_26 (by decide) ?_
          refine z_ireturn zi_153_27 rfl (k _ (Or.inr ⟨rfl, fun x z => hu (x % gar g (gL g)) ?_ (gUp_mod hw z)⟩))
          have := Nat.mod_lt x (show gar g (gL g) > 0 by omega)
          omega
        | succ j ih =>
          intro n e hu
          refine z_iload_n zi_153_15 rfl ?_
          refine z_iload_n zi_153_16 rfl ?_
          refine z_icmp_ge_f zi_153_17 (by omega) (by omega) ?_
          refine z_aload_n zi_153_18 rfl ?_
          refine z_iload_n zi_153_19 rfl ?_
          refine z_cv1i zi_153_20 rfl rfl ⟨rfl, Nat.le_of_ble_eq_true rfl, Nat.le_of_ble_eq_true rfl⟩ (m_isUpBehind h1 hw y1 rfl (by omega) (fun z => ?_) (fun z => ?_))
          · refine z_if_eq_f zi_153_21 (by omega) (by omega) ?_
            refine z_iload_n zi_153_22 rfl ?_
            refine z_ireturn zi_153_23 rfl (k _ (Or.inl ⟨n, rfl, z, hu⟩))
          · refine z_if_eq_t zi_153_21 (by omega) (by omega) ?_
            refine z_iinc zi_153_24 rfl rfl ?_
            refine z_goto zi_153_25 ?_
            refine z_loc (lv' := [(2, .int (zi ((n + 1 : Nat) : Int))), (1, .int (zi (gar g (gL g)))), (0, .ref 50)]) rfl ?_
            refine ih (n + 1) (by omega) (fun y hy => ?_)
            rcases (by omega : y < n ∨ y = n) with w | w
            · exact hu y w
            · rw [w]; exact z
      refine z_istore_n zi_153_12 rfl ?_
      refine z_iconst zi_153_13 ?_
      refine z_istore_n zi_153_14 rfl ?_
      refine z_loc (lv' := [(2, .int (zi ((0 : Nat) : Int))), (1, .int (zi (gar g (gL g)))), (0, .ref 50)]) rfl ?_
      exact loop (gar g (gL g)) 0 (by omega) (fun y hy => by omega)
  · simp only [if_pos (show gL g = 0 by omega)] at k
    refine z_bipush zi_153_3 (by decide) ?_
    refine z_ireturn zi_153_4 rfl (k _ t rfl h zFA.rf)
theorem m_point {s m : Int} (h : zRS t g) (hw : gWF g) (r1 : -2147483648 ≤ s ∧ s < 2147483648) (r2 : -2147483648 ≤ m ∧ m < 2147483648) (k : ∀ t', zRS t' g → zFA t t' → K (oPoint g s m) t') : ZX (d + 4) 154 0 [(0, .ref 50), (1, .int (zi s)), (2, .int (zi m))] [] t (zKi K) := by
  have hn := hw.n
  have bad : ∀ (P : Int), oPoint g s m = -1 → P = -4 → ZX (d + 4) 154 10 [(3, .int (zi P)), (0, .ref 50), (1, .int (zi s)), (2, .int (zi m))] [] t (zKi K) := by
    intro P q e
    have k := k t h zFA.rf
    rw [q] at k
    refine z_iload_n zi_154_10 rfl ?_
    refine z_if_lt_t zi_154_11 (by omega) (by omega) ?_
    refine z_iconst zi_154_29 ?_
    refine z_ireturn zi_154_30 rfl k
  refine z_aload_n zi_154_0 rfl ?_
  refine z_iload_n zi_154_1 rfl ?_
  refine z_cv1i zi_154_2 rfl rfl ⟨rfl, Nat.le_of_ble_eq_true rfl, Nat.le_of_ble_eq_true rfl⟩ (m_isStone h hw r1 (fun q1 => ?_) (fun q1 => ?_))
  · refine z_if_eq_f zi_154_3 (by omega) (by omega) ?_
    obtain ⟨s, rfl⟩ : ∃ s' : Nat, s = s' := ⟨s.toNat, by omega⟩
    have hs : s < gN g := by omega
    refine z_aload_n zi_154_4 rfl ?_
    refine z_iload_n zi_154_5 rfl ?_
    refine z_cv1i zi_154_6 rfl rfl ⟨rfl, Nat.le_of_ble_eq_true rfl, Nat.le_of_ble_eq_true rfl⟩ (m_placeOf h hw rfl (by omega) ?_)
    refine z_goto zi_154_7 ?_
    refine z_istore_n zi_154_9 rfl ?_
    unfold oPoint at k bad
    rw [if_pos q1, Int.toNat_natCast] at k bad
    cases e : gP g s with
    | none =>
      rw [e] at k bad
      have e2 : gPi g s = -4 := by unfold gPi; rw [e]
      exact bad _ rfl e2
    | some p =>
      rw [e] at k
      dsimp only at k
      have e2 : gPi g s = (p : Int) := by unfold gPi; rw [e]
      obtain ⟨hp, hRp⟩ := gP_some e
      have hr := hw.r hp
      have t1 := hw.t (s := s) (w := 1 - gF g p) hs (by omega)
      rw [e2]
      refine z_iload_n zi_154_10 rfl ?_
      refine z_if_lt_f zi_154_11 (by omega) (by omega) ?_
      refine z_iload_n zi_154_12 rfl ?_
      refine z_i2l zi_154_13 (by omega) ?_
      refine z_lconst (v := 0) zi_154_14 (by decide) ?_
      refine z_aload_n zi_154_15 rfl ?_
      refine z_iload_n zi_154_16 rfl ?_
      refine z_iconst zi_154_17 ?_
      refine z_aload_n zi_154_18 rfl ?_
      refine z_getfield zi_154_19 zm_f3 ?_
      refine z_iload_n zi_154_20 rfl ?_
      refine z_iaload (n := p) zi_154_21 rfl (by omega) (by omega) (by omega) ?_
      rw [h.f hp]
      refine z_isub zi_154_22 ?_
      refine z_cv2i zi_154_23 rfl rfl rfl ⟨rfl, Nat.le_of_ble_eq_true rfl, Nat.le_of_ble_eq_true rfl⟩ (m_teeth (s := s) (w := 1 - gF g p) h hw rfl hs (by omega) (by omega) ?_)
      refine z_iconst zi_154_24 ?_
      refine z_isub zi_154_25 ?_
      refine z_i2l zi_154_26 (by omega) ?_
      refine z_in zi_154_27 (by omega) (Nat.le_of_ble_eq_true rfl) (fun q2 => ?_) (fun q2 => ?_)
      · rw [if_pos q2] at k
        refine z_if_ne_t zi_154_28 (by omega) (by omega) ?_
        refine z_aload_n zi_154_31 rfl ?_
        refine z_cv0i zi_154_32  rfl ⟨rfl, Nat.le_of_ble_eq_true rfl, Nat.le_of_ble_eq_true rfl⟩ (m_isForwardLocked h hw (fun t1 q y1 f1 => ?_) (fun t1 q y1 f1 => ?_))
        · rw [if_pos q] at k
          refine z_if_eq_f zi_154_33 (by omega) (by omega) ?_
          refine z_bipush zi_154_34 (by decide) ?_
          refine z_ireturn zi_154_35 rfl (k t1 (zRS_w h f1) ((zFz.w (a := 61) (L := 0) f1).a (by omega)))
        · rw [if_neg (fun z => z q)] at k
          have h1 := zRS_w h f1
          have k := k t1 h1 ((zFz.w (a := 61) (L := 0) f1).a (by omega))
          have hB := gB_pm g p
          refine z_if_eq_t zi_154_33 (by omega) (by omega) ?_
          refine z_iconst zi_154_36 ?_
          refine z_aload_n zi_154_37 rfl ?_
          refine z_getfield zi_154_38 zm_f3 ?_
          refine z_iload_n zi_154_39 rfl ?_
          refine z_iaload (n := p) zi_154_40 rfl (by omega) (by omega) (by omega) ?_
          rw [h1.f hp]
          refine z_isub zi_154_41 ?_
          refine z_istore zi_154_42 rfl ?_
          refine z_aload_n zi_154_43 rfl ?_
          refine z_aload_n zi_154_44 rfl ?_
          refine z_getfield zi_154_45 zm_f0 ?_
          refine z_bipush zi_154_46 (by decide) ?_
          refine z_iload_n zi_154_47 rfl ?_
          refine z_imul zi_154_48 ?_
          refine z_iconst zi_154_49 ?_
          refine z_iadd zi_154_50 ?_
          refine z_iload zi_154_51 rfl ?_
          refine z_iadd zi_154_52 ?_
          refine z_iaload (n := 6 * s + 3 + (1 - gF g p)) zi_154_53 rfl (by omega) (by omega) (by omega) ?_
          rw [h1.m (s := s) (w := 1 - gF g p) hs (by omega)]
          refine z_iload_n zi_154_54 rfl ?_
          refine z_aload_n zi_154_55 rfl ?_
          refine z_getfield zi_154_56 zm_f14 ?_
          refine z_iload_n zi_154_57 rfl ?_
          refine z_iaload (n := p) zi_154_58 rfl (by omega) (by omega) (by omega) ?_
          rw [(y1 p (by omega)).2, Int.one_mul]
          refine z_aload_n zi_154_59 rfl ?_
          refine z_iload_n zi_154_60 rfl ?_
          refine z_iload zi_154_61 rfl ?_
          refine z_cv2i zi_154_62 rfl rfl rfl ⟨rfl, Nat.le_of_ble_eq_true rfl, Nat.le_of_ble_eq_true rfl⟩ (m_teeth (s := s) (w := 1 - gF g p) h1 hw rfl hs (by omega) (by omega) ?_)
          refine z_cv [.int (zi (gM g s (1 - gF g p))), .int (zi m), .int (zi (gB g p)), .int (zi (gT g s (1 - gF g p)))] [] zi_154_63 rfl rfl (Nat.le_of_ble_eq_true rfl) rfl (Nat.le_of_ble_eq_true rfl) (m_teethTo (K := fun v t' => v = (0 + gB g p * (m - gM g s (1 - gF g p))) % gT g s (1 - gF g p) ∧ t' = t1) ?_ (by omega) ⟨rfl, rfl⟩) ?_
          · rcases hB with z | z <;> rw [z] <;> omega
          · rintro r t2 ⟨v, rfl, rfl, rfl⟩
            show ZX (d + 4) 154 64 _ (.int (zi ((0 + gB g p * (m - gM g s (1 - gF g p))) % gT g s (1 - gF g p))) :: []) _ _
            rw [Int.zero_add]
            refine z_ireturn zi_154_64 rfl k
      · rw [if_neg q2] at k
        refine z_if_ne_f zi_154_28 (by omega) (by omega) ?_
        refine z_iconst zi_154_29 ?_
        refine z_ireturn zi_154_30 rfl (k t h zFA.rf)
  · refine z_if_eq_t zi_154_3 (by omega) (by omega) ?_
    refine z_bipush zi_154_8 (by decide) ?_
    refine z_istore_n zi_154_9 rfl ?_
    exact bad (-4) (by unfold oPoint; rw [if_neg q1]) rfl
end
