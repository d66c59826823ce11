/-! after how many teeth all marks are up -/
def gC (m v : Int) (T : Nat) (x : Nat) : Prop := (m + v * (x : Int)) % (T : Int) = 0
theorem gC_sub {m v : Int} {T x y : Nat} (hv : v = 1 ∨ v = -1) (hx : gC m v T x) (hy : gC m v T y) (h : y ≤ x) : T ∣ x - y := by
  have h1 := Int.dvd_of_emod_eq_zero hx
  have h2 := Int.dvd_of_emod_eq_zero hy
  have h3 : (T : Int) ∣ (m + v * (x : Int)) - (m + v * (y : Int)) := Int.dvd_sub h1 h2
  have h4 : (T : Int) ∣ ((x - y : Nat) : Int) := by
    rcases hv with rfl | rfl
    · have e : ((x - y : Nat) : Int) = (m + 1 * (x : Int)) - (m + 1 * (y : Int)) := by omega
      rw [e]; exact h3
    · have e : ((x - y : Nat) : Int) = -((m + -1 * (x : Int)) - (m + -1 * (y : Int))) := by omega
      rw [e]; exact Int.dvd_neg.mpr h3
  exact Int.natCast_dvd_natCast.mp h4
theorem gC_add {m v : Int} {T x y : Nat} (hv : v = 1 ∨ v = -1) (hy : gC m v T y) (h : y ≤ x) (hd : T ∣ x - y) : gC m v T x := by
  have h2 := Int.dvd_of_emod_eq_zero hy
  have h3 : (T : Int) ∣ ((x - y : Nat) : Int) := Int.natCast_dvd_natCast.mpr hd
  refine Int.emod_eq_zero_of_dvd ?_
  rcases hv with rfl | rfl
  · have e : m + 1 * (x : Int) = (m + 1 * (y : Int)) + ((x - y : Nat) : Int) := by omega
    rw [e]; exact Int.dvd_add h2 h3
  · have e : m + -1 * (x : Int) = (m + -1 * (y : Int)) - ((x - y : Nat) : Int) := by omega
    rw [e]; exact Int.dvd_sub h2 h3
theorem gC_down {m v : Int} {T x y : Nat} (hv : v = 1 ∨ v = -1) (hx : gC m v T x) (h : y ≤ x) (hd : T ∣ x - y) : gC m v T y := by
  have h2 := Int.dvd_of_emod_eq_zero hx
  have h3 : (T : Int) ∣ ((x - y : Nat) : Int) := Int.natCast_dvd_natCast.mpr hd
  refine Int.emod_eq_zero_of_dvd ?_
  rcases hv with rfl | rfl
  · have e : m + 1 * (y : Int) = (m + 1 * (x : Int)) - ((x - y : Nat) : Int) := by omega
    rw [e]; exact Int.dvd_sub h2 h3
  · have e : m + -1 * (y : Int) = (m + -1 * (x : Int)) + ((x - y : Nat) : Int) := by omega
    rw [e]; exact Int.dvd_add h2 h3
theorem gsieve_no {m v : Int} {T f s : Nat} (hv : v = 1 ∨ v = -1) (hT : 0 < T) (hn : ∀ j, j < T → ¬ gC m v T (f + j * s)) : ∀ x, ¬ ((f ≤ x ∧ s ∣ x - f) ∧ gC m v T x) := by
  rintro x ⟨⟨hx, j, hj⟩, hc⟩
  have hm := Nat.mod_lt j hT
  refine hn (j % T) hm (gC_down hv hc ?_ ?_)
  · have : j % T * s ≤ s * j := by rw [Nat.mul_comm s j]; exact Nat.mul_le_mul_right s (Nat.mod_le j T)
    omega
  · have e : x - (f + j % T * s) = T * (j / T * s) := by
      have h1 : s * j = T * (j / T * s) + j % T * s := by
        rw [← Nat.mul_assoc, ← Nat.add_mul, Nat.div_add_mod, Nat.mul_comm]
      omega
    rw [e]
    exact Nat.dvd_mul_right T _
theorem gsieve_yes {m v : Int} {T f s j : Nat} (hv : v = 1 ∨ v = -1) (hT : 0 < T) (hs : 0 < s) (hf : f < s) (hj : j < T) (hc : gC m v T (f + j * s)) (hn : ∀ i, i < j → ¬ gC m v T (f + i * s)) :
    f + j * s < Nat.lcm s T ∧ ∀ x, ((f ≤ x ∧ s ∣ x - f) ∧ gC m v T x) ↔ (f + j * s ≤ x ∧ Nat.lcm s T ∣ x - (f + j * s)) := by
  obtain ⟨q, hq⟩ := Nat.dvd_lcm_left s T
  have hlp := Nat.lcm_pos hs hT
  have hq0 : 0 < q := by
    rcases Nat.eq_zero_or_pos q with z | z
    · rw [z, Nat.mul_zero] at hq; omega
    · exact z
  refine ⟨?_, fun x => ⟨?_, ?_⟩⟩
  · have hjq : j < q := by
      rcases Nat.lt_or_ge j q with z | z
      · exact z
      · exfalso
        refine hn (j - q) (by omega) (gC_down hv hc ?_ ?_)
        · have := Nat.mul_le_mul_right s (Nat.sub_le j q)
          omega
        · have e : f + j * s - (f + (j - q) * s) = Nat.lcm s T := by
            rw [hq, Nat.sub_mul, Nat.mul_comm s q]
            have := Nat.mul_le_mul_right s z
            omega
          rw [e]
          exact Nat.dvd_lcm_right s T
    have h1 : (j + 1) * s ≤ q * s := Nat.mul_le_mul_right s hjq
    rw [Nat.succ_mul] at h1
    rw [hq, Nat.mul_comm s q]
    omega
  · rintro ⟨⟨hx, i, hi⟩, hcx⟩
    have hji : j ≤ i := by
      rcases Nat.lt_or_ge i j with z | z
      · exfalso
        refine hn i z ?_
        have e : f + i * s = x := by rw [Nat.mul_comm i s]; omega
        rw [e]; exact hcx
      · exact z
    have h1 := Nat.mul_le_mul_right s hji
    have e : x = f + i * s := by rw [Nat.mul_comm i s]; omega
    refine ⟨by omega, Nat.lcm_dvd ?_ (gC_sub hv hcx hc (by omega))⟩
    refine ⟨i - j, ?_⟩
    rw [Nat.mul_comm s (i - j), Nat.sub_mul]
    omega
  · rintro ⟨hx, hd⟩
    have h1 := Nat.dvd_trans (Nat.dvd_lcm_left s T) hd
    have h2 := Nat.dvd_trans (Nat.dvd_lcm_right s T) hd
    refine ⟨⟨by omega, ?_⟩, gC_add hv hc hx h2⟩
    have e : x - f = (x - (f + j * s)) + s * j := by rw [Nat.mul_comm s j]; omega
    rw [e]
    exact Nat.dvd_add h1 (Nat.dvd_mul_right s j)
def gU (g : zG) (i : Nat) : Nat := if i % 2 = 0 then gF g (i / 2) else 1 - gF g (i / 2)
def gV (g : zG) (i : Nat) : Int := if i % 2 = 0 then gA g (i / 2) else gB g (i / 2)
def gUp (g : zG) (n x : Nat) : Prop := ∀ i, i < n → gC (gM g (gR g (i / 2)) (gU g i)) (gV g i) (gTn g (gR g (i / 2)) (gU g i)) x
theorem gUp_s {g : zG} {n x : Nat} : gUp g (n + 1) x ↔ gUp g n x ∧ gC (gM g (gR g (n / 2)) (gU g n)) (gV g n) (gTn g (gR g (n / 2)) (gU g n)) x := by
  refine ⟨fun h => ⟨fun i hi => h i (by omega), h n (by omega)⟩, fun h i hi => ?_⟩
  rcases (by omega : i < n ∨ i = n) with z | z
  · exact h.1 i z
  · rw [z]; exact h.2
theorem gV_pm (g : zG) (i : Nat) : gV g i = 1 ∨ gV g i = -1 := by
  unfold gV
  split
  · exact gA_pm g _
  · exact gB_pm g _
section
variable {d T : Nat} {t : zMI} {g : zG} {K : Int → zMI → Prop} {Kv : zMI → Prop}
theorem s_teethUntilUp (hT : zTa T) (h : zTB T t g) (hw : gWF g) (kS : ∀ x : Nat, gUp g (2 * gL g) x → (∀ y, y < x → ¬ gUp g (2 * gL g) y) → K x t) (kN : (∀ x, ¬ gUp g (2 * gL g) x) → K (-4) t) : ZX (d + 3) 51 0 [(0, .ref T)] [] t (zKi K) := by
  have hn12 := hw.n
  have loop : ∀ (j n f s : Nat), n + j = 2 * gL g → s ∣ 2520 → f < s → (∀ x, gUp g n x ↔ (f ≤ x ∧ s ∣ x - f)) → ∀ w : Int, (n % 2 = 0 → w = -(gA g (n / 2))) → (n % 2 = 1 → w = gA g (n / 2)) → ZX (d + 3) 51 8 [(4, .int (zi n)), (3, .int (zi w)), (2, .int (zi s)), (1, .int (zi f)), (0, .ref T)] [] t (zKi K) := by
    intro j
    induction j with
    | zero =>
      intro n f s e hs hf hx w hw0 hw1
      have e1 : n = 2 * gL g := by omega
      subst e1
      refine z_iload zi_51_8 rfl ?_
      refine z_iconst zi_51_9 ?_
      refine z_aload_n zi_51_10 rfl ?_
      refine z_getfield zi_51_11 (zt_f7 hT) ?_
      rw [h.l]
      refine z_imul zi_51_12 ?_
      refine z_icmp_ge_t zi_51_13 (by omega) (by omega) ?_
      refine z_iload_n zi_51_69 rfl ?_
      refine z_ireturn zi_51_70 rfl (kS f ((hx f).mpr ⟨Nat.le_refl _, by rw [Nat.sub_self]; exact Nat.dvd_zero s⟩) (fun y hy z => by have := (hx y).mp z; omega))
    | succ j ih =>
      intro n f s e hs hf hx w hw0 hw1
      have hpl : n / 2 < gL g := by omega
      have hr := hw.r hpl
      have hs2 := dvd_rng hs
      have hV := gV_pm g n
      have hUl : gU g n < 2 := by unfold gU; split <;> omega
      have eF : gFi g (gR g (n / 2)) = (gF g (n / 2) : Int) := by
        unfold gFi
        rw [gPi_at hw hpl]
      have hT2 := gTn_eq hw hr.1 hUl
      have hTd := gTn_dvd hw hr.1 hUl
      have e2 : (n : Int).tdiv 2 = ((n / 2 : Nat) : Int) := (Int.ofNat_tdiv n 2).symm
      have e3 : (n : Int).tmod 2 = ((n % 2 : Nat) : Int) := (Int.ofNat_tmod n 2).symm
      -- what follows once wheel and way are known
      have tl : ∀ b : Int, ZX (d + 3) 51 47 [(7, .int (zi (gU g n))), (6, .int (zi b)), (5, .int (zi (gR g (n / 2)))), (4, .int (zi n)), (3, .int (zi w)), (2, .int (zi s)), (1, .int (zi f)), (0, .ref T)] [.int (zi (gV g n))] t (zKi K) := by
        intro b
        refine z_istore_n zi_51_47 rfl ?_
        refine z_aload_n zi_51_48 rfl ?_
        refine z_iload zi_51_49 rfl ?_
        refine z_iload zi_51_50 rfl ?_
        refine z_iload_n zi_51_51 rfl ?_
        refine z_iload_n zi_51_52 rfl ?_
        refine z_iload_n zi_51_53 rfl ?_
        refine z_cv5i zi_51_54 rfl rfl rfl rfl rfl (zt_c hT) ⟨rfl, Nat.le_of_ble_eq_true rfl, Nat.le_of_ble_eq_true rfl⟩ (s_firstUp (s := gR g (n / 2)) (w := gU g n) (f := f) (st := s) hT h hw rfl hr.1 rfl hUl hV rfl (by omega) rfl (by omega) (fun q hq hc hno => ?_) (fun hno => ?_))
        · rw [hT2.1] at hc
          have hc' : gC (gM g (gR g (n / 2)) (gU g n)) (gV g n) (gTn g (gR g (n / 2)) (gU g n)) (f + q * s) := by
            unfold gC
            rw [show ((f + q * s : Nat) : Int) = (f : Int) + q * s by rw [Int.natCast_add, Int.natCast_mul]]
            exact hc
          have hno' : ∀ i, i < q → ¬ gC (gM g (gR g (n / 2)) (gU g n)) (gV g n) (gTn g (gR g (n / 2)) (gU g n)) (f + i * s) := fun i hi z => by
            unfold gC at z
            rw [show ((f + i * s : Nat) : Int) = (f : Int) + i * s by rw [Int.natCast_add, Int.natCast_mul]] at z
            rw [← hT2.1] at z
            exact hno i hi z
          obtain ⟨g1, g2⟩ := gsieve_yes hV (by omega) hs2.1 hf hq hc' hno'
          have hld := Nat.lcm_dvd hs hTd
          have hl2 := dvd_rng hld
          have e4 : (f : Int) + q * s = ((f + q * s : Nat) : Int) := by rw [Int.natCast_add, Int.natCast_mul]
          rw [e4]
          refine z_istore_n zi_51_55 rfl ?_
          refine z_iload_n zi_51_56 rfl ?_
          refine z_if_ge_t zi_51_57 (by omega) (by omega) ?_
          refine z_iload_n zi_51_60 rfl ?_
          refine z_aload_n zi_51_61 rfl ?_
          refine z_iload zi_51_62 rfl ?_
          refine z_iload zi_51_63 rfl ?_
          refine z_cv2i zi_51_64 rfl rfl (zt_c hT) ⟨rfl, Nat.le_of_ble_eq_true rfl, Nat.le_of_ble_eq_true rfl⟩ (s_teethOf (s := gR g (n / 2)) (w := gU g n) hT h hw rfl hr.1 rfl hUl ?_)
          refine z_cs2i zi_51_65 rfl rfl ⟨by decide, rfl, Nat.le_of_ble_eq_true rfl, Nat.le_of_ble_eq_true rfl⟩ (s_commonMultiple rfl hT2.1 (by omega) (by omega) ?_)
          refine z_istore_n zi_51_66 rfl ?_
          refine z_iinc zi_51_67 rfl rfl ?_
          refine z_goto zi_51_68 ?_
          refine z_loc (lv' := [(4, .int (zi ((n + 1 : Nat) : Int))), (3, .int (zi (gV g n))), (2, .int (zi (Nat.lcm s (gTn g (gR g (n / 2)) (gU g n)) : Nat))), (1, .int (zi ((f + q * s : Nat) : Int))), (0, .ref T)]) rfl ?_
          refine ih (n + 1) _ _ (by omega) hld g1 (fun x => ?_) _ (fun z => ?_) (fun z => ?_)
          · rw [gUp_s, hx, g2]
          · unfold gV
            rw [if_neg (by omega), show (n + 1) / 2 = n / 2 + 1 by omega, gA_s]
            omega
          · unfold gV
            rw [if_pos (by omega), show (n + 1) / 2 = n / 2 by omega]
        · have hno' : ∀ i, i < gTn g (gR g (n / 2)) (gU g n) → ¬ gC (gM g (gR g (n / 2)) (gU g n)) (gV g n) (gTn g (gR g (n / 2)) (gU g n)) (f + i * s) := fun i hi z => by
            unfold gC at z
            rw [show ((f + i * s : Nat) : Int) = (f : Int) + i * s by rw [Int.natCast_add, Int.natCast_mul]] at z
            rw [← hT2.1] at z
            exact hno i hi z
          refine z_istore_n zi_51_55 rfl ?_
          refine z_iload_n zi_51_56 rfl ?_
          refine z_if_ge_f zi_51_57 (by omega) (by omega) ?_
          refine z_bipush zi_51_58 (by decide) ?_
          refine z_ireturn zi_51_59 rfl (kN (fun x z => ?_))
          refine gsieve_no hV (by omega) hno' x ⟨(hx x).mp (fun i hi => z i (by omega)), z n (by omega)⟩
      refine z_iload zi_51_8 rfl ?_
      refine z_iconst zi_51_9 ?_
      refine z_aload_n zi_51_10 rfl ?_
      refine z_getfield zi_51_11 (zt_f7 hT) ?_
      rw [h.l]
      refine z_imul zi_51_12 ?_
      refine z_icmp_ge_f zi_51_13 (by omega) (by omega) ?_
      refine z_aload_n zi_51_14 rfl ?_
      refine z_iload zi_51_15 rfl ?_
      refine z_iconst zi_51_16 ?_
      refine z_idiv zi_51_17 (by omega) ?_
      rw [e2]
      refine z_cv1i zi_51_18 rfl (zt_c hT) ⟨rfl, Nat.le_of_ble_eq_true rfl, Nat.le_of_ble_eq_true rfl⟩ (s_stoneInTrain (p := n / 2) hT h hw rfl hpl ?_)
      refine z_istore zi_51_19 rfl ?_
      refine z_iload zi_51_20 rfl ?_
      refine z_iconst zi_51_21 ?_
      refine z_irem zi_51_22 (by omega) ?_
      rw [e3]
      rcases (by omega : n % 2 = 0 ∨ n % 2 = 1) with par | par
      · have eU : (gFi g (gR g (n / 2))) = ((gU g n : Nat) : Int) := by rw [eF]; unfold gU; rw [if_pos par]
        have eV : -w = gV g n := by rw [hw0 par]; unfold gV; rw [if_pos par]; omega
        refine z_if_ne_f zi_51_23 (by omega) (by omega) ?_
        refine z_iconst zi_51_24 ?_
        refine z_goto zi_51_25 ?_
        refine z_istore zi_51_27 rfl ?_
        refine z_iload zi_51_28 rfl ?_
        refine z_if_eq_f zi_51_29 (by omega) (by omega) ?_
        refine z_aload_n zi_51_30 rfl ?_
        refine z_iload zi_51_31 rfl ?_
        refine z_cv1i zi_51_32 rfl (zt_c hT) ⟨rfl, Nat.le_of_ble_eq_true rfl, Nat.le_of_ble_eq_true rfl⟩ (s_frontOf (s := gR g (n / 2)) hT h hw rfl hr.1 ?_)
        refine z_goto zi_51_33 ?_
        refine z_istore zi_51_37 rfl ?_
        refine z_iload zi_51_38 rfl ?_
        refine z_if_eq_f zi_51_39 (by omega) (by omega) ?_
        refine z_iload_n zi_51_40 rfl ?_
        refine z_ineg zi_51_41 ?_
        refine z_goto zi_51_42 ?_
        rw [eV, eU]
        refine z_loc (lv' := [(7, .int (zi (gU g n))), (6, .int (zi 1)), (5, .int (zi (gR g (n / 2)))), (4, .int (zi n)), (3, .int (zi w)), (2, .int (zi s)), (1, .int (zi f)), (0, .ref T)]) rfl ?_
        exact tl 1
      · have eU : 1 - (gFi g (gR g (n / 2))) = ((gU g n : Nat) : Int) := by rw [eF]; unfold gU; rw [if_neg (by omega)]; omega
        refine z_if_ne_t zi_51_23 (by omega) (by omega) ?_
        refine z_iconst zi_51_26 ?_
        refine z_istore zi_51_27 rfl ?_
        refine z_iload zi_51_28 rfl ?_
        refine z_if_eq_t zi_51_29 (by omega) (by omega) ?_
        refine z_aload_n zi_51_34 rfl ?_
        refine z_iload zi_51_35 rfl ?_
        refine z_cv1i zi_51_36 rfl (zt_c hT) ⟨rfl, Nat.le_of_ble_eq_true rfl, Nat.le_of_ble_eq_true rfl⟩ (s_backOf (s := gR g (n / 2)) hT h hw rfl hr.1 ?_)
        refine z_istore zi_51_37 rfl ?_
        refine z_iload zi_51_38 rfl ?_
        refine z_if_eq_t zi_51_39 (by omega) (by omega) ?_
        refine z_aload_n zi_51_43 rfl ?_
        refine z_iload zi_51_44 rfl ?_
        refine z_iload_n zi_51_45 rfl ?_
        refine z_cv2i zi_51_46 rfl rfl (zt_c hT) ⟨rfl, Nat.le_of_ble_eq_true rfl, Nat.le_of_ble_eq_true rfl⟩ (s_backWay (p := n / 2) hT h hw hpl rfl ?_)
        have eV : (if gK g (gR g (n / 2)) = 2 then w else -w) = gV g n := by
          rw [hw1 par]
          unfold gV
          rw [if_neg (show ¬ n % 2 = 0 by omega), gB_eq]
        rw [eV, eU]
        refine z_loc (lv' := [(7, .int (zi (gU g n))), (6, .int (zi 0)), (5, .int (zi (gR g (n / 2)))), (4, .int (zi n)), (3, .int (zi w)), (2, .int (zi s)), (1, .int (zi f)), (0, .ref T)]) rfl ?_
        exact tl 0
  refine z_iconst zi_51_0 ?_
  refine z_istore_n zi_51_1 rfl ?_
  refine z_iconst zi_51_2 ?_
  refine z_istore_n zi_51_3 rfl ?_
  refine z_iconst zi_51_4 ?_
  refine z_istore_n zi_51_5 rfl ?_
  refine z_iconst zi_51_6 ?_
  refine z_istore zi_51_7 rfl ?_
  refine z_loc (lv' := [(4, .int (zi ((0 : Nat) : Int))), (3, .int (zi (-1))), (2, .int (zi ((1 : Nat) : Int))), (1, .int (zi ((0 : Nat) : Int))), (0, .ref T)]) rfl ?_
  exact loop (2 * gL g) 0 0 1 (by omega) (Nat.one_dvd _) (by omega) (fun x => ⟨fun _ => ⟨Nat.zero_le _, Nat.one_dvd _⟩, fun _ i hi => by omega⟩) (-1) (fun _ => rfl) (fun z => by omega)
end
