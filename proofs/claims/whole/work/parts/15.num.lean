/-! a table: drawn lays, common multiples, the teeth until all is up -/
theorem zmask {x : Int} : zi x &&& zi 2147483647 = zi (x % 2147483648) := by
  rw [pk_and (zi x) (m := zi 2147483647) 31 (by decide)]
  have e : (zi x).toBitVec.toNat = (x % 4294967296).toNat := by
    show (BitVec.ofInt 32 x).toNat = _
    rw [BitVec.toNat_ofInt]
    rfl
  rw [e]
  show Int32.ofNat _ = Int32.ofInt _
  have e2 : ((x % 4294967296).toNat % 2 ^ 31 : Nat) = (x % 2147483648).toNat := by omega
  rw [e2]
  have e3 : x % 2147483648 = ((x % 2147483648).toNat : Int) := by omega
  rw [e3, Int.toNat_natCast]
  rfl
def gdr (g : zG) : Int := (gD g * 1103515245 + 12345) % 2147483648
theorem gdr_rng (g : zG) : 0 ≤ gdr g ∧ gdr g < 2147483648 := by unfold gdr; omega
theorem gsD_wf {g : zG} {v : Int} (h : gWF g) (hv : 0 ≤ v ∧ v < 2147483648) : gWF (gsD g v) := ⟨h.1, h.2.1, h.2.2.1, h.2.2.2.1, h.2.2.2.2.1, h.2.2.2.2.2.1, h.2.2.2.2.2.2.1, hv⟩
theorem glp_free {g : zG} (hh : gWH g) {hd : Int} (hd0 : hd = 0 ∨ hd = 1) {q : Nat} (h : glp g hd q) : gP g (q / 2) = none := by
  cases e : gP g (q / 2) with
  | none => rfl
  | some p =>
    have h1 := hh p (gP_some e).1
    rw [(gP_some e).2, h.2.1] at h1
    omega
section
variable {d T : Nat} {t : zMI} {g : zG} {K : Int → zMI → Prop} {Kv : zMI → Prop}
theorem s_layDrawn {hd : Int} (hT : zTa T) (h : zTB T t g) (hw : gWF g) (hh : gWH g) (ho : gO g = 0) (hd0 : hd = 0 ∨ hd = 1) (k0 : gcl g hd 24 = 0 → K 0 t)
    (k1 : ∀ q t', q < 24 → 0 < gcl g hd 24 → glp g hd q → (gcl g hd q : Int) = (gdr g / 65536) % (gcl g hd 24 : Int) → zTB T t' (glay (gsD g (gdr g)) (q / 2) (q % 2)) → zFr T t t' → K 1 t') : ZX (d + 5) 54 0 [(0, .ref T), (1, .int (zi hd))] [] t (zKi K) := by
  have hle := gcl_le g hd 24
  have hdr := gdr_rng g
  refine z_aload_n zi_54_0 rfl ?_
  refine z_iload_n zi_54_1 rfl ?_
  refine z_cv1i zi_54_2 rfl (zt_c hT) ⟨rfl, Nat.le_of_ble_eq_true rfl, Nat.le_of_ble_eq_true rfl⟩ (s_countLays hT h hw hd0 ?_)
  refine z_istore_n zi_54_3 rfl ?_
  refine z_iload_n zi_54_4 rfl ?_
  refine z_if_ne zi_54_5 (by omega) (fun c => ?_) (fun c => ?_)
  · refine z_aload_n zi_54_8 rfl ?_
    refine z_aload_n zi_54_9 rfl ?_
    refine z_getfield zi_54_10 (zt_f11 hT) ?_
    rw [h.d]
    refine z_ldc (v := 1103515245) zi_54_11 rfl ?_
    refine z_imul zi_54_12 ?_
    refine z_sipush zi_54_13 (by decide) ?_
    refine z_iadd zi_54_14 ?_
    refine z_ldc (v := 2147483647) zi_54_15 rfl ?_
    refine z_iand zi_54_16 zmask ?_
    refine z_putfield zi_54_17 (zt_i11 hT) (Or.inl rfl) ?_
    refine z_aload_n zi_54_18 rfl ?_
    refine z_getfield zi_54_19 (zt_f11 hT) ?_
    rw [zup_s]
    have h1 : zTB T (zup t T 11 (gdr g)) (gsD g (gdr g)) := zTB_D h _
    have w1 := gsD_wf hw hdr
    have f1 : zFr T t (zup t T 11 (gdr g)) := zFr.rf.up (by omega)
    have e1 : (gD g * 1103515245 + 12345) % 2147483648 = gdr g := rfl
    rw [e1]
    generalize zup t T 11 (gdr g) = t1 at h1 f1 ⊢
    refine z_ldc (v := 65536) zi_54_20 rfl ?_
    have e2 : (gdr g).tdiv 65536 = gdr g / 65536 := Int.tdiv_eq_ediv_of_nonneg hdr.1
    refine z_idiv zi_54_21 (by omega) ?_
    rw [e2]
    refine z_iload_n zi_54_22 rfl ?_
    refine z_cs2i zi_54_23 rfl rfl ⟨by decide, rfl, Nat.le_of_ble_eq_true rfl, Nat.le_of_ble_eq_true rfl⟩ (s_remainder (by omega) (by omega) ?_)
    have hm0 := Int.emod_nonneg (gdr g / 65536) (show (gcl g hd 24 : Int) ≠ 0 by omega)
    have hm1 := Int.emod_lt_of_pos (gdr g / 65536) (show (0 : Int) < (gcl g hd 24 : Int) by omega)
    generalize hq0 : (gdr g / 65536) % (gcl g hd 24 : Int) = q0 at hm0 hm1 k1 ⊢
    have loop : ∀ (j n : Nat), n + j = 24 → (gcl g hd n : Int) ≤ q0 → ZX (d + 5) 54 27 [(4, .int (zi n)), (3, .int (zi (q0 - gcl g hd n))), (0, .ref T), (1, .int (zi hd))] [] t1 (zKi K) := by
      intro j
      induction j with
      | zero =>
        intro n e hq
        rw [show n = 24 by omega] at hq
        omega
      | succ j ih =>
        intro n e hq
        refine z_iload zi_54_27 rfl ?_
        refine z_bipush zi_54_28 (by decide) ?_
        refine z_icmp_ge_f zi_54_29 (by omega) (by omega) ?_
        refine z_aload_n zi_54_30 rfl ?_
        refine z_iload_n zi_54_31 rfl ?_
        refine z_iload zi_54_32 rfl ?_
        refine z_cv2i zi_54_33 rfl rfl (zt_c hT) ⟨rfl, Nat.le_of_ble_eq_true rfl, Nat.le_of_ble_eq_true rfl⟩ (s_mayLay (n := n) hT h1 w1 hd0 rfl (by omega) (fun q1 q2 q3 => ?_) (fun q => ?_))
        · have hp : glp g hd n := ⟨q1, q2, q3⟩
          have e3 : gcl g hd (n + 1) = gcl g hd n + 1 := by
            show gcl g hd n + (if glp g hd n then 1 else 0) = _
            rw [if_pos hp]
          refine z_if_eq_f zi_54_34 (by omega) (by omega) ?_
          refine z_iload_n zi_54_35 rfl ?_
          refine z_if_ne zi_54_36 (by omega) (fun c2 => ?_) (fun c2 => ?_)
          · refine z_iinc zi_54_48 rfl rfl ?_
            refine z_iinc zi_54_49 rfl rfl ?_
            refine z_goto zi_54_50 ?_
            have e4 : q0 - (gcl g hd n : Int) + -1 = q0 - (gcl g hd (n + 1) : Nat) := by omega
            rw [e4]
            refine z_loc (lv' := [(4, .int (zi ((n + 1 : Nat) : Int))), (3, .int (zi (q0 - (gcl g hd (n + 1) : Nat)))), (0, .ref T), (1, .int (zi hd))]) rfl ?_
            exact ih (n + 1) (by omega) (by omega)
          · refine z_aload_n zi_54_37 rfl ?_
            refine z_iload zi_54_38 rfl ?_
            refine z_iconst zi_54_39 ?_
            refine z_idiv zi_54_40 (by omega) ?_
            have e5 : (n : Int).tdiv 2 = ((n / 2 : Nat) : Int) := (Int.ofNat_tdiv n 2).symm
            have e6 : (n : Int).tmod 2 = ((n % 2 : Nat) : Int) := (Int.ofNat_tmod n 2).symm
            rw [e5]
            refine z_iload zi_54_41 rfl ?_
            refine z_iconst zi_54_42 ?_
            refine z_irem zi_54_43 (by omega) ?_
            rw [e6]
            refine z_cv2i zi_54_44 rfl rfl (zt_c hT) ⟨rfl, Nat.le_of_ble_eq_true rfl, Nat.le_of_ble_eq_true rfl⟩ (s_layDown (s := n / 2) (f := n % 2) hT h1 w1 rfl q1 rfl (by omega) (glp_free hh hd0 hp) ho (fun t2 h2 f2 => ?_))
            refine z_pop zi_54_45 rfl ?_
            refine z_iconst zi_54_46 ?_
            refine z_zreturn zi_54_47 rfl (by omega) (k1 n t2 (by omega) (by omega) hp (by omega) h2 (f1.tr f2))
        · refine z_if_eq_t zi_54_34 (by omega) (by omega) ?_
          refine z_iinc zi_54_49 rfl rfl ?_
          refine z_goto zi_54_50 ?_
          have e3 : gcl g hd (n + 1) = gcl g hd n := by
            show gcl g hd n + (if glp g hd n then 1 else 0) = _
            rw [if_neg (show ¬ glp g hd n from q)]; rfl
          refine z_loc (lv' := [(4, .int (zi ((n + 1 : Nat) : Int))), (3, .int (zi (q0 - gcl g hd n))), (0, .ref T), (1, .int (zi hd))]) rfl ?_
          rw [← e3]
          exact ih (n + 1) (by omega) (by rw [e3]; exact hq)
    refine z_istore_n zi_54_24 rfl ?_
    refine z_iconst zi_54_25 ?_
    refine z_istore zi_54_26 rfl ?_
    refine z_loc (lv' := [(4, .int (zi ((0 : Nat) : Int))), (3, .int (zi q0)), (0, .ref T), (1, .int (zi hd))]) rfl ?_
    refine z_lv (lv' := [(4, .int (zi ((0 : Nat) : Int))), (3, .int (zi (q0 - gcl g hd 0))), (0, .ref T), (1, .int (zi hd))]) (by rw [show q0 - ((gcl g hd 0 : Nat) : Int) = q0 from Int.sub_zero q0]) ?_
    exact loop 24 0 (by omega) hm0
  · refine z_iconst zi_54_6 ?_
    refine z_zreturn zi_54_7 rfl (by omega) (k0 (by omega))
theorem glcm_least {a b i : Nat} (ha : 0 < a) (hb : 0 < b) (hd : b ∣ a * i) (hi : 0 < i) (hn : ∀ j, 0 < j → j < i → ¬ b ∣ a * j) : Nat.lcm a b = a * i := by
  obtain ⟨k, hk⟩ := Nat.dvd_lcm_left a b
  have h1 : Nat.lcm a b ∣ a * i := Nat.lcm_dvd (Nat.dvd_mul_right a i) hd
  have h2 := Nat.le_of_dvd (Nat.mul_pos ha hi) h1
  have hpos := Nat.lcm_pos ha hb
  have hk0 : 0 < k := by
    rcases Nat.eq_zero_or_pos k with q | q
    · rw [q, Nat.mul_zero] at hk
      omega
    · exact q
  have h3 : k ≤ i := by
    rw [hk] at h2
    exact Nat.le_of_mul_le_mul_left h2 ha
  rcases Nat.lt_or_ge k i with q | q
  · exact absurd (by rw [← hk]; exact Nat.dvd_lcm_right a b) (hn k hk0 q)
  · rw [hk, show k = i by omega]
theorem s_commonMultiple {x y : Int} {a b : Nat} (hx : x = (a : Int)) (hy : y = (b : Int)) (ha : 0 < a ∧ a ≤ 5040) (hb : 2 ≤ b ∧ b ≤ 9) (k : K (Nat.lcm a b : Nat) t) : ZX (d + 2) 50 0 [(0, .int (zi x)), (1, .int (zi y))] [] t (zKi K) := by
  subst hx hy
  have loop : ∀ (j i : Nat), i + j = b → 0 < i → (∀ q, 0 < q → q < i → ¬ b ∣ a * q) → ZX (d + 2) 50 4 [(3, .int (zi i)), (2, .int (zi ((a * i : Nat) : Int))), (0, .int (zi a)), (1, .int (zi b))] [] t (zKi K) := by
    intro j
    induction j with
    | zero =>
      intro i e h0 hn
      have e1 : i = b := by omega
      subst e1
      rw [glcm_least ha.1 h0 (Nat.dvd_mul_left i a) h0 hn] at k
      refine z_iload_n zi_50_4 rfl ?_
      refine z_iload_n zi_50_5 rfl ?_
      refine z_icmp_ge_t zi_50_6 (by omega) (by omega) ?_
      refine z_iload_n zi_50_17 rfl ?_
      refine z_ireturn zi_50_18 rfl k
    | succ j ih =>
      intro i e h0 hn
      have hbnd : a * i ≤ 5040 * 9 := Nat.mul_le_mul ha.2 (by omega)
      refine z_iload_n zi_50_4 rfl ?_
      refine z_iload_n zi_50_5 rfl ?_
      refine z_icmp_ge_f zi_50_6 (by omega) (by omega) ?_
      refine z_iload_n zi_50_7 rfl ?_
      refine z_iload_n zi_50_8 rfl ?_
      refine z_cs2i zi_50_9 rfl rfl ⟨by decide, rfl, Nat.le_of_ble_eq_true rfl, Nat.le_of_ble_eq_true rfl⟩ (s_remainder (by omega) (by omega) ?_)
      have e2 : ((a * i : Nat) : Int) % (b : Int) = ((a * i % b : Nat) : Int) := (Int.natCast_emod _ _).symm
      rw [e2]
      have h3 : a * i % b < b := Nat.mod_lt _ (by omega)
      refine z_if_eq zi_50_10 (by omega) (fun c => ?_) (fun c => ?_)
      · rw [glcm_least ha.1 (by omega) (Nat.dvd_of_mod_eq_zero (by omega)) h0 hn] at k
        refine z_iload_n zi_50_17 rfl ?_
        refine z_ireturn zi_50_18 rfl k
      · refine z_iload_n zi_50_11 rfl ?_
        refine z_iload_n zi_50_12 rfl ?_
        refine z_iadd zi_50_13 ?_
        refine z_istore_n zi_50_14 rfl ?_
        refine z_iinc zi_50_15 rfl rfl ?_
        refine z_goto zi_50_16 ?_
        have e4 : ((a * i : Nat) : Int) + a = ((a * (i + 1) : Nat) : Int) := by rw [Nat.mul_succ]; omega
        rw [e4]
        refine z_loc (lv' := [(3, .int (zi ((i + 1 : Nat) : Int))), (2, .int (zi ((a * (i + 1) : Nat) : Int))), (0, .int (zi a)), (1, .int (zi b))]) rfl ?_
        refine ih (i + 1) (by omega) (by omega) (fun q hq hq2 => ?_)
        rcases (by omega : q < i ∨ q = i) with z | z
        · exact hn q hq z
        · subst z
          intro z2
          exact c (by rw [Nat.mod_eq_zero_of_dvd z2]; rfl)
  refine z_iload_n zi_50_0 rfl ?_
  refine z_istore_n zi_50_1 rfl ?_
  refine z_iconst zi_50_2 ?_
  refine z_istore_n zi_50_3 rfl ?_
  refine z_loc (lv' := [(3, .int (zi ((1 : Nat) : Int))), (2, .int (zi (a : Int))), (0, .int (zi a)), (1, .int (zi b))]) rfl ?_
  refine z_lv (lv' := [(3, .int (zi ((1 : Nat) : Int))), (2, .int (zi ((a * 1 : Nat) : Int))), (0, .int (zi a)), (1, .int (zi b))]) (by rw [Nat.mul_one]) ?_
  exact loop (b - 1) 1 (by omega) (by omega) (fun q _ _ => by omega)
def gTn (g : zG) (s w : Nat) : Nat := (gT g s w).toNat
theorem gTn_eq {g : zG} (h : gWF g) {s w : Nat} (hs : s < gN g) (hw : w < 2) : gT g s w = (gTn g s w : Int) ∧ 3 ≤ gTn g s w ∧ gTn g s w ≤ 9 := by
  have := h.t hs hw
  unfold gTn
  omega
theorem gTn_dvd {g : zG} (h : gWF g) {s w : Nat} (hs : s < gN g) (hw : w < 2) : gTn g s w ∣ 2520 := by
  have h1 := gTn_eq h hs hw
  generalize gTn g s w = n at h1
  have : n = 3 ∨ n = 4 ∨ n = 5 ∨ n = 6 ∨ n = 7 ∨ n = 8 ∨ n = 9 := by omega
  rcases this with rfl | rfl | rfl | rfl | rfl | rfl | rfl <;> decide
def gar (g : zG) : Nat → Nat
  | 0 => 1
  | n + 1 => Nat.lcm (Nat.lcm (gar g n) (gTn g (gR g n) 0)) (gTn g (gR g n) 1)
theorem gar_dvd {g : zG} (h : gWF g) : ∀ n, n ≤ gL g → gar g n ∣ 2520
  | 0, _ => Nat.one_dvd 2520
  | n + 1, hn => by
    have hr := h.r (p := n) (by omega)
    exact Nat.lcm_dvd (Nat.lcm_dvd (gar_dvd h n (by omega)) (gTn_dvd h hr.1 (by omega))) (gTn_dvd h hr.1 (by omega))
theorem dvd_rng {n : Nat} (h : n ∣ 2520) : 0 < n ∧ n ≤ 2520 := ⟨Nat.pos_of_dvd_of_pos h (by omega), Nat.le_of_dvd (by omega) h⟩
theorem s_teethAround (hT : zTa T) (h : zTB T t g) (hw : gWF g) (k : K (gar g (gL g)) t) : ZX (d + 3) 49 0 [(0, .ref T)] [] t (zKi K) := by
  have hn12 := hw.n
  have loop : ∀ (j n : Nat), n + j = gL g → ZX (d + 3) 49 4 [(2, .int (zi n)), (1, .int (zi (gar g n))), (0, .ref T)] [] t (zKi K) := by
    intro j
    induction j with
    | zero =>
      intro n e
      have e1 : n = gL g := by omega
      subst e1
      refine z_iload_n zi_49_4 rfl ?_
      refine z_aload_n zi_49_5 rfl ?_
      refine z_getfield zi_49_6 (zt_f7 hT) ?_
      rw [h.l]
      refine z_icmp_ge_t zi_49_7 (by omega) (by omega) ?_
      refine z_iload_n zi_49_28 rfl ?_
      refine z_ireturn zi_49_29 rfl k
    | succ j ih =>
      intro n e
      have hr := hw.r (p := n) (by omega)
      have h0 := gTn_eq hw hr.1 (show 0 < 2 by omega)
      have h1 := gTn_eq hw hr.1 (show 1 < 2 by omega)
      have hg := dvd_rng (gar_dvd hw n (by omega))
      have hg2 := dvd_rng (Nat.lcm_dvd (gar_dvd hw n (by omega)) (gTn_dvd hw hr.1 (show 0 < 2 by omega)))
      refine z_iload_n zi_49_4 rfl ?_
      refine z_aload_n zi_49_5 rfl ?_
      refine z_getfield zi_49_6 (zt_f7 hT) ?_
      rw [h.l]
      refine z_icmp_ge_f zi_49_7 (by omega) (by omega) ?_
      refine z_aload_n zi_49_8 rfl ?_
      refine z_iload_n zi_49_9 rfl ?_
      refine z_cv1i zi_49_10 rfl (zt_c hT) ⟨rfl, Nat.le_of_ble_eq_true rfl, Nat.le_of_ble_eq_true rfl⟩ (s_stoneInTrain (p := n) hT h hw rfl (by omega) ?_)
      refine z_istore_n zi_49_11 rfl ?_
      refine z_iload_n zi_49_12 rfl ?_
      refine z_aload_n zi_49_13 rfl ?_
      refine z_iload_n zi_49_14 rfl ?_
      refine z_iconst zi_49_15 ?_
      refine z_cv2i zi_49_16 rfl rfl (zt_c hT) ⟨rfl, Nat.le_of_ble_eq_true rfl, Nat.le_of_ble_eq_true rfl⟩ (s_teethOf (s := gR g n) (w := 0) hT h hw rfl hr.1 rfl (by omega) ?_)
      refine z_cs2i zi_49_17 rfl rfl ⟨by decide, rfl, Nat.le_of_ble_eq_true rfl, Nat.le_of_ble_eq_true rfl⟩ (s_commonMultiple rfl h0.1 (by omega) (by omega) ?_)
      refine z_istore_n zi_49_18 rfl ?_
      refine z_iload_n zi_49_19 rfl ?_
      refine z_aload_n zi_49_20 rfl ?_
      refine z_iload_n zi_49_21 rfl ?_
      refine z_iconst zi_49_22 ?_
      refine z_cv2i zi_49_23 rfl rfl (zt_c hT) ⟨rfl, Nat.le_of_ble_eq_true rfl, Nat.le_of_ble_eq_true rfl⟩ (s_teethOf (s := gR g n) (w := 1) hT h hw rfl hr.1 rfl (by omega) ?_)
      refine z_cs2i zi_49_24 rfl rfl ⟨by decide, rfl, Nat.le_of_ble_eq_true rfl, Nat.le_of_ble_eq_true rfl⟩ (s_commonMultiple rfl h1.1 (by omega) (by omega) ?_)
      refine z_istore_n zi_49_25 rfl ?_
      refine z_iinc zi_49_26 rfl rfl ?_
      refine z_goto zi_49_27 ?_
      refine z_loc (lv' := [(2, .int (zi ((n + 1 : Nat) : Int))), (1, .int (zi (gar g (n + 1)))), (0, .ref T)]) rfl ?_
      exact ih (n + 1) (by omega)
  refine z_iconst zi_49_0 ?_
  refine z_istore_n zi_49_1 rfl ?_
  refine z_iconst zi_49_2 ?_
  refine z_istore_n zi_49_3 rfl ?_
  refine z_loc (lv' := [(2, .int (zi ((0 : Nat) : Int))), (1, .int (zi (gar g 0))), (0, .ref T)]) rfl ?_
  exact loop (gL g) 0 (by omega)
theorem s_firstUp {x y v p q : Int} {s w f st : Nat} (hT : zTa T) (h : zTB T t g) (hw : gWF g) (hx : x = (s : Int)) (hs : s < gN g) (hy : y = (w : Int)) (hw2 : w < 2) (hv : v = 1 ∨ v = -1) (hp : p = (f : Int)) (hf : f ≤ 2520) (hq : q = (st : Int)) (hst : st ≤ 2520)
    (kS : ∀ j : Nat, j < gTn g s w → (gM g s w + v * ((f : Int) + j * st)) % gT g s w = 0 → (∀ i : Nat, i < j → ¬ (gM g s w + v * ((f : Int) + i * st)) % gT g s w = 0) → K ((f : Int) + j * st) t)
    (kN : (∀ j : Nat, j < gTn g s w → ¬ (gM g s w + v * ((f : Int) + j * st)) % gT g s w = 0) → K (-4) t) : ZX (d + 2) 52 0 [(0, .ref T), (1, .int (zi x)), (2, .int (zi y)), (3, .int (zi v)), (4, .int (zi p)), (5, .int (zi q))] [] t (zKi K) := by
  have hT2 := gTn_eq hw hs hw2
  have hm := hw.t hs hw2
  have hn12 := hw.n
  subst hx hy hp hq
  have loop : ∀ (j n : Nat), n + j = gTn g s w → (∀ i : Nat, i < n → ¬ (gM g s w + v * ((f : Int) + i * st)) % gT g s w = 0) → ZX (d + 2) 52 12 [(8, .int (zi n)), (7, .int (zi (gM g s w))), (6, .int (zi (gT g s w))), (0, .ref T), (1, .int (zi s)), (2, .int (zi w)), (3, .int (zi v)), (4, .int (zi f)), (5, .int (zi st))] [] t (zKi K) := by
    intro j
    induction j with
    | zero =>
      intro n e hno
      refine z_iload zi_52_12 rfl ?_
      refine z_iload zi_52_13 rfl ?_
      refine z_icmp_ge_t zi_52_14 (by omega) (by omega) ?_
      refine z_bipush zi_52_33 (by decide) ?_
      refine z_ireturn zi_52_34 rfl (kN (fun i hi => hno i (by omega)))
    | succ j ih =>
      intro n e hno
      have hb1 : n * st ≤ 9 * 2520 := Nat.mul_le_mul (by omega) hst
      have hb2 : ((n * st : Nat) : Int) = (n : Int) * st := Int.natCast_mul n st
      have hX : 0 ≤ (f : Int) + n * st ∧ (f : Int) + n * st ≤ 30000 := by omega
      have hvX : -30000 ≤ v * ((f : Int) + n * st) ∧ v * ((f : Int) + n * st) ≤ 30000 := by rcases hv with rfl | rfl <;> omega
      refine z_iload zi_52_12 rfl ?_
      refine z_iload zi_52_13 rfl ?_
      refine z_icmp_ge_f zi_52_14 (by omega) (by omega) ?_
      refine z_iload zi_52_15 rfl ?_
      refine z_iload zi_52_16 rfl ?_
      refine z_iload zi_52_17 rfl ?_
      refine z_imul zi_52_18 ?_
      refine z_iadd zi_52_19 ?_
      refine z_istore zi_52_20 rfl ?_
      refine z_iload zi_52_21 rfl ?_
      refine z_iload_n zi_52_22 rfl ?_
      refine z_iload zi_52_23 rfl ?_
      refine z_imul zi_52_24 ?_
      refine z_iadd zi_52_25 ?_
      refine z_iload zi_52_26 rfl ?_
      refine z_cs2i zi_52_27 rfl rfl ⟨by decide, rfl, Nat.le_of_ble_eq_true rfl, Nat.le_of_ble_eq_true rfl⟩ (s_remainder (by omega) (by omega) ?_)
      have hz := Int.emod_nonneg (gM g s w + v * ((f : Int) + n * st)) (show gT g s w ≠ 0 by omega)
      have hz2 := Int.emod_lt_of_pos (gM g s w + v * ((f : Int) + n * st)) (show 0 < gT g s w by omega)
      refine z_if_ne zi_52_28 (by omega) (fun c => ?_) (fun c => ?_)
      · refine z_iinc zi_52_31 rfl rfl ?_
        refine z_goto zi_52_32 ?_
        refine z_loc (lv' := [(8, .int (zi ((n + 1 : Nat) : Int))), (7, .int (zi (gM g s w))), (6, .int (zi (gT g s w))), (0, .ref T), (1, .int (zi s)), (2, .int (zi w)), (3, .int (zi v)), (4, .int (zi f)), (5, .int (zi st))]) rfl ?_
        refine ih (n + 1) (by omega) (fun i hi => ?_)
        rcases (by omega : i < n ∨ i = n) with z | z
        · exact hno i z
        · subst z; exact c
      · refine z_iload zi_52_29 rfl ?_
        refine z_ireturn zi_52_30 rfl (kS n (by omega) (by omega) hno)
  refine z_aload_n zi_52_0 rfl ?_
  refine z_iload_n zi_52_1 rfl ?_
  refine z_iload_n zi_52_2 rfl ?_
  refine z_cv2i zi_52_3 rfl rfl (zt_c hT) ⟨rfl, Nat.le_of_ble_eq_true rfl, Nat.le_of_ble_eq_true rfl⟩ (s_teethOf hT h hw rfl hs rfl hw2 ?_)
  refine z_istore zi_52_4 rfl ?_
  refine z_aload_n zi_52_5 rfl ?_
  refine z_iload_n zi_52_6 rfl ?_
  refine z_iload_n zi_52_7 rfl ?_
  refine z_cv2i zi_52_8 rfl rfl (zt_c hT) ⟨rfl, Nat.le_of_ble_eq_true rfl, Nat.le_of_ble_eq_true rfl⟩ (s_markOf hT h hw rfl hs rfl hw2 ?_)
  refine z_istore zi_52_9 rfl ?_
  refine z_iconst zi_52_10 ?_
  refine z_istore zi_52_11 rfl ?_
  refine z_loc (lv' := [(8, .int (zi ((0 : Nat) : Int))), (7, .int (zi (gM g s w))), (6, .int (zi (gT g s w))), (0, .ref T), (1, .int (zi s)), (2, .int (zi w)), (3, .int (zi v)), (4, .int (zi f)), (5, .int (zi st))]) rfl ?_
  exact loop (gTn g s w) 0 (by omega) (fun i hi => by omega)
theorem s_teethUntilPoint {x mk : Int} {s p : Nat} (hT : zTa T) (h : zTB T t g) (hw : gWF g) (hx : x = (s : Int)) (hs : s < gN g) (hp : gP g s = some p) (hm : 0 ≤ mk ∧ mk < 10) (k : K ((gB g p * (mk - gM g s (1 - gF g p))) % gT g s (1 - gF g p)) t) : ZX (d + 3) 53 0 [(0, .ref T), (1, .int (zi x)), (2, .int (zi mk))] [] t (zKi K) := by
  have hpl := (gP_some hp).1
  have hr := hw.r hpl
  have hB := gB_pm g p
  have h2 := hw.t hs (show 1 - gF g p < 2 by omega)
  have eF : 1 - gFi g s = ((1 - gF g p : Nat) : Int) := by
    unfold gFi
    rw [hp]
    show 1 - ((gF g p : Nat) : Int) = _
    omega
  have eP : gPi g s = (p : Int) := by
    unfold gPi
    rw [hp]
  refine z_aload_n zi_53_0 rfl ?_
  refine z_iload_n zi_53_1 rfl ?_
  refine z_cv1i zi_53_2 rfl (zt_c hT) ⟨rfl, Nat.le_of_ble_eq_true rfl, Nat.le_of_ble_eq_true rfl⟩ (s_backOf hT h hw hx hs ?_)
  rw [eF]
  refine z_istore_n zi_53_3 rfl ?_
  refine z_iload_n zi_53_4 rfl ?_
  refine z_aload_n zi_53_5 rfl ?_
  refine z_iload_n zi_53_6 rfl ?_
  refine z_iload_n zi_53_7 rfl ?_
  refine z_cv2i zi_53_8 rfl rfl (zt_c hT) ⟨rfl, Nat.le_of_ble_eq_true rfl, Nat.le_of_ble_eq_true rfl⟩ (s_markOf (w := 1 - gF g p) hT h hw hx hs rfl (by omega) ?_)
  refine z_isub zi_53_9 ?_
  refine z_istore zi_53_10 rfl ?_
  refine z_aload_n zi_53_11 rfl ?_
  refine z_aload_n zi_53_12 rfl ?_
  refine z_iload_n zi_53_13 rfl ?_
  refine z_cv1i zi_53_14 rfl (zt_c hT) ⟨rfl, Nat.le_of_ble_eq_true rfl, Nat.le_of_ble_eq_true rfl⟩ (s_placeOf hT h hw hx hs ?_)
  refine z_cv1i zi_53_15 rfl (zt_c hT) ⟨rfl, Nat.le_of_ble_eq_true rfl, Nat.le_of_ble_eq_true rfl⟩ (s_backWayAt hT h hw eP hpl ?_)
  refine z_iload zi_53_16 rfl ?_
  refine z_imul zi_53_17 ?_
  refine z_aload_n zi_53_18 rfl ?_
  refine z_iload_n zi_53_19 rfl ?_
  refine z_iload_n zi_53_20 rfl ?_
  refine z_cv2i zi_53_21 rfl rfl (zt_c hT) ⟨rfl, Nat.le_of_ble_eq_true rfl, Nat.le_of_ble_eq_true rfl⟩ (s_teethOf (w := 1 - gF g p) hT h hw hx hs rfl (by omega) ?_)
  have hb : -100 ≤ gB g p * (mk - gM g s (1 - gF g p)) ∧ gB g p * (mk - gM g s (1 - gF g p)) ≤ 100 := by rcases hB with q | q <;> rw [q] <;> omega
  refine z_cs2i zi_53_22 rfl rfl ⟨by decide, rfl, Nat.le_of_ble_eq_true rfl, Nat.le_of_ble_eq_true rfl⟩ (s_remainder (by omega) (by omega) ?_)
  refine z_ireturn zi_53_23 rfl k
end
