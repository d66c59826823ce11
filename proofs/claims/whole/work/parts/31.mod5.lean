/-! the model: best, match, seed -/
theorem glk_c {g g' : zG} (hk : gK g' = gK g) (hr : gR g' = gR g) (w : Int) : ∀ n, glk g' w n = glk g w n
  | 0 => rfl
  | n + 1 => by
    have ha : ∀ i, gA g' i = gA g i := fun i => by unfold gA; rw [hk, hr]
    have hb : ∀ i, gB g' i = gB g i := fun i => by unfold gB; rw [ha]
    unfold glk
    rw [hk, hr, ha, hb, glk_c hk hr w n]
abbrev gHS (g : zG) (S H : Nat → Int) : zG := gsH (gsS g S) H
theorem gLk_HS (g : zG) (S H : Nat → Int) (w : Int) : gLk (gHS g S H) w = gLk g w := by
  unfold gLk
  rw [glk_c (g := g) (g' := gHS g S H) rfl rfl w]
  rfl
theorem gpre_HS (g : zG) (S H : Nat → Int) : gpre (gHS g S H) = gHS (gpre g) S H := by
  unfold gpre
  rw [gLk_HS]
  show (if gL g = 0 then _ else if gLk g (gB g (gL g - 1)) = 0 then _ else _) = _
  by_cases c : gL g = 0
  · rw [if_pos c, if_pos c]
  · rw [if_neg c, if_neg c]
    by_cases c2 : gLk g (gB g (gL g - 1)) = 0
    · rw [if_pos c2, if_pos c2]; rfl
    · rw [if_neg c2, if_neg c2]
theorem gsc_HS (g : zG) (S H : Nat → Int) (a b : Nat) : gsc (gput (gHS g S H) a b) = gsc (gput g a b) := by
  unfold gput
  rw [gpre_HS]
  exact gsc_c rfl rfl rfl rfl
theorem gGr_lay {g : zG} {hd : Int} {s f : Nat} (h : gH g s = hd) (hd0 : hd = 0 ∨ hd = 1) : ∀ n, gGr (glay g s f) (1 - hd) n = gGr (gput g s f) (1 - hd) n
  | 0 => rfl
  | n + 1 => by
    have e1 : glay g s f = gHS (gput g s f) (fun h => if gH g s = (h : Int) then gS g h + gsc (gput g s f) else gS g h) (fup (gH g) s (-4)) := rfl
    have e2 : glp (glay g s f) (1 - hd) n ↔ glp (gput g s f) (1 - hd) n := by
      show (n / 2 < gN (gput g s f) ∧ fup (gH g) s (-4) (n / 2) = 1 - hd ∧ gfit (gput g s f) (n / 2) (n % 2)) ↔ (n / 2 < gN (gput g s f) ∧ gH (gput g s f) (n / 2) = 1 - hd ∧ gfit (gput g s f) (n / 2) (n % 2))
      rw [gput_H]
      unfold fup
      by_cases z : n / 2 = s
      · rw [if_pos z, z, h]
        constructor
        · rintro ⟨_, q, _⟩; omega
        · rintro ⟨_, q, _⟩; omega
      · rw [if_neg z]
    have e3 : gsc (gput (glay g s f) (n / 2) (n % 2)) = gsc (gput (gput g s f) (n / 2) (n % 2)) := by rw [e1]; exact gsc_HS _ _ _ _ _
    unfold gGr
    rw [gGr_lay h hd0 n, e3]
    by_cases c : glp (gput g s f) (1 - hd) n
    · rw [if_pos c, if_pos (e2.mpr c)]
    · rw [if_neg c, if_neg (fun z => c (e2.mp z))]
theorem gGr_end (g : zG) (hd : Int) : ∀ k, gGr g hd (2 * gN g + k) = gGr g hd (2 * gN g)
  | 0 => rfl
  | k + 1 => by
    show (if glp g hd (2 * gN g + k) then _ else gGr g hd (2 * gN g + k)) = _
    rw [if_neg (fun z => by have := z.1; omega)]
    exact gGr_end g hd k
theorem gBs_end (g : zG) (hd : Int) : ∀ k, gBs g hd (2 * gN g + k) = gBs g hd (2 * gN g)
  | 0 => rfl
  | k + 1 => by
    show (if glp g hd (2 * gN g + k) then _ else gBs g hd (2 * gN g + k)) = _
    rw [if_neg (fun z => by have := z.1; omega)]
    exact gBs_end g hd k
theorem gcl_end (g : zG) (hd : Int) : ∀ k, gcl g hd (2 * gN g + k) = gcl g hd (2 * gN g)
  | 0 => rfl
  | k + 1 => by
    show gcl g hd (2 * gN g + k) + (if glp g hd (2 * gN g + k) then 1 else 0) = _
    rw [if_neg (fun z => by have := z.1; omega)]
    exact gcl_end g hd k
theorem gcl_D (g : zG) (v hd : Int) : ∀ n, gcl (gsD g v) hd n = gcl g hd n
  | 0 => rfl
  | n + 1 => by
    show gcl (gsD g v) hd n + (if glp (gsD g v) hd n then 1 else 0) = _
    rw [gcl_D g v hd n]
    rfl
theorem gcl_ex (g : zG) (hd : Int) (kk : Nat) : ∀ n, kk < gcl g hd n → ∃ q, q < n ∧ glp g hd q ∧ gcl g hd q = kk
  | 0, h => by unfold gcl at h; omega
  | n + 1, h => by
    have e : gcl g hd (n + 1) = gcl g hd n + (if glp g hd n then 1 else 0) := rfl
    rcases Nat.lt_or_ge kk (gcl g hd n) with z | z
    · obtain ⟨q, q1, q2⟩ := gcl_ex g hd kk n z
      exact ⟨q, by omega, q2⟩
    · by_cases c : glp g hd n
      · rw [if_pos c] at e
        exact ⟨n, by omega, c, by omega⟩
      · rw [if_neg c] at e
        omega
theorem zRS_back {t0 t' : zMI} {g : zG} (h : zRS t0 g) (hN : gN g ≤ 12) (h1 : ∀ i, i < 72 → t' 51 i = t0 51 i) (h2 : t' 50 4 = (gL g : Int)) (h3 : ∀ n, n ≠ 4 → t' 50 n = t0 50 n) (h4 : ∀ p, p < gL g → t' 52 p = t0 52 p ∧ t' 53 p = t0 53 p) (h5 : t' 54 = t0 54) : zRS t' g := by
  refine ⟨⟨?_, h2, ?_, ?_⟩, fun s hs => ?_, fun s w hs hw => ?_, fun p hp => ?_, ?_, ?_⟩
  · rw [h3 1 (by omega)]; exact h.n
  · rw [h3 6 (by omega)]; exact h.o
  · rw [h3 7 (by omega)]; exact h.d
  · rw [h1 _ (by omega), h1 _ (by omega)]; exact ⟨h.k hs, h.h hs⟩
  · rw [h1 _ (by omega), h1 _ (by omega)]; exact ⟨h.t hs hw, h.m hs hw⟩
  · rw [(h4 p hp).1, (h4 p hp).2]; exact ⟨h.r hp, h.f hp⟩
  · rw [h5]; exact h.s (w := 0) (by omega)
  · rw [h5]; exact h.s (w := 1) (by omega)
theorem zmask64 {x : Int} (hx : 0 ≤ x ∧ x < 9223372036854775808) : zj x &&& zj 2147483647 = zj (x % 2147483648) := by
  rw [← Int64.toBitVec_inj, Int64.toBitVec_and]
  show BitVec.ofInt 64 x &&& BitVec.ofInt 64 2147483647 = BitVec.ofInt 64 (x % 2147483648)
  apply BitVec.eq_of_toNat_eq
  rw [BitVec.toNat_and, BitVec.toNat_ofInt, BitVec.toNat_ofInt, BitVec.toNat_ofInt]
  show (x % 18446744073709551616).toNat &&& 2147483647 = (x % 2147483648 % 18446744073709551616).toNat
  have e := Nat.and_two_pow_sub_one_eq_mod (x % 18446744073709551616).toNat 31
  rw [show (2 : Nat) ^ 31 - 1 = 2147483647 from rfl, show (2 : Nat) ^ 31 = 2147483648 from rfl] at e
  rw [e]
  omega
theorem zl2i {v : Int} (hv : -2147483648 ≤ v ∧ v < 2147483648) : (zj v).toInt32 = zi v := by
  rw [← Int32.toInt_inj, Int64.toInt_toInt32, zj_toInt (by omega), zi_toInt hv]
  rw [Int.bmod_def]
  split <;> omega
section
variable {d : Nat} {t : zMI} {g : zG} {sh : gSh} {K : Int → zMI → Prop} {Kv : zMI → Prop}
theorem m_keepIn {c : Nat} (hy : zLy[c]? = some (.inl 72)) (hc : c ≠ 51) (k : ∀ t', (∀ i, i < 72 → t' c i = t 51 i) → (∀ q, q ≠ c → t' q = t q) → Kv t') : ZX d 155 0 [(0, .ref 50), (1, .ref c)] [] t (zKv Kv) := by
  have loop : ∀ (j n : Nat) (t' : zMI), n + j = 72 → (∀ i, i < n → t' c i = t 51 i) → (∀ q, q ≠ c → t' q = t q) → ZX d 155 2 [(2, .int (zi n)), (0, .ref 50), (1, .ref c)] [] t' (zKv Kv) := by
    intro j
    induction j with
    | zero =>
      intro n t' e h1 f1
      have e1 : n = 72 := by omega
      subst e1
      refine z_iload_n zi_155_2 rfl ?_
      refine z_bipush zi_155_3 (by decide) ?_
      refine z_icmp_ge_t zi_155_4 (by omega) (by omega) ?_
      refine z_vreturn zi_155_14 rfl (k t' h1 f1)
    | succ j ih =>
      intro n t' e h1 f1
      refine z_iload_n zi_155_2 rfl ?_
      refine z_bipush zi_155_3 (by decide) ?_
      refine z_icmp_ge_f zi_155_4 (by omega) (by omega) ?_
      refine z_aload_n zi_155_5 rfl ?_
      refine z_iload_n zi_155_6 rfl ?_
      refine z_aload_n zi_155_7 rfl ?_
      refine z_getfield zi_155_8 zm_f0 ?_
      refine z_iload_n zi_155_9 rfl ?_
      refine z_iaload (n := n) zi_155_10 rfl (by omega) (by omega) (by omega) ?_
      rw [f1 51 (fun z => hc z.symm)]
      refine z_iastore (n := n) zi_155_11 hy (by omega) (by omega) (by omega) ?_
      refine z_iinc zi_155_12 rfl rfl ?_
      refine z_goto zi_155_13 ?_
      refine z_loc (lv' := [(2, .int (zi ((n + 1 : Nat) : Int))), (0, .ref 50), (1, .ref c)]) rfl ?_
      refine ih (n + 1) _ (by omega) (fun i hi => ?_) (fun q hq => by rw [zup_o hq]; exact f1 q hq)
      rw [zup_at]
      by_cases z : i = n
      · rw [if_pos z, z]
      · rw [if_neg z]; exact h1 i (by omega)
  refine z_iconst zi_155_0 ?_
  refine z_istore_n zi_155_1 rfl ?_
  refine z_loc (lv' := [(2, .int (zi ((0 : Nat) : Int))), (0, .ref 50), (1, .ref c)]) rfl ?_
  exact loop 72 0 t (by omega) (fun i hi => by omega) (fun _ _ => rfl)
theorem m_bringBack {c : Nat} {v : Int} (hy : zLy[c]? = some (.inl 72)) (hc : c ≠ 51) (hc2 : c ≠ 50) (k : ∀ t', (∀ i, i < 72 → t' 51 i = t c i) → t' 50 4 = v → (∀ n, n ≠ 4 → t' 50 n = t 50 n) → (∀ q, q ≠ 50 → q ≠ 51 → t' q = t q) → Kv t') : ZX d 156 0 [(0, .ref 50), (1, .ref c), (2, .int (zi v))] [] t (zKv Kv) := by
  have loop : ∀ (j n : Nat) (t' : zMI), n + j = 72 → (∀ i, i < n → t' 51 i = t c i) → (∀ q, q ≠ 51 → t' q = t q) → ZX d 156 2 [(3, .int (zi n)), (0, .ref 50), (1, .ref c), (2, .int (zi v))] [] t' (zKv Kv) := by
    intro j
    induction j with
    | zero =>
      intro n t' e h1 f1
      have e1 : n = 72 := by omega
      subst e1
      refine z_iload_n zi_156_2 rfl ?_
      refine z_bipush zi_156_3 (by decide) ?_
      refine z_icmp_ge_t zi_156_4 (by omega) (by omega) ?_
      refine z_aload_n zi_156_14 rfl ?_
      refine z_iload_n zi_156_15 rfl ?_
      refine z_putfield zi_156_16 rfl (Or.inl rfl) ?_
      refine z_vreturn zi_156_17 rfl (k _ (fun i hi => ?_) ?_ (fun n hn => ?_) (fun q q1 q2 => ?_))
      · rw [zup_o (by omega)]; exact h1 i hi
      · rw [zup_s]
      · rw [zup_n hn, f1 50 (by omega)]
      · rw [zup_o q1, f1 q q2]
    | succ j ih =>
      intro n t' e h1 f1
      refine z_iload_n zi_156_2 rfl ?_
      refine z_bipush zi_156_3 (by decide) ?_
      refine z_icmp_ge_f zi_156_4 (by omega) (by omega) ?_
      refine z_aload_n zi_156_5 rfl ?_
      refine z_getfield zi_156_6 zm_f0 ?_
      refine z_iload_n zi_156_7 rfl ?_
      refine z_aload_n zi_156_8 rfl ?_
      refine z_iload_n zi_156_9 rfl ?_
      refine z_iaload (n := n) zi_156_10 hy (by omega) (by omega) (by omega) ?_
      rw [f1 c hc]
      refine z_iastore (n := n) zi_156_11 rfl (by omega) (by omega) (by omega) ?_
      refine z_iinc zi_156_12 rfl rfl ?_
      refine z_goto zi_156_13 ?_
      refine z_loc (lv' := [(3, .int (zi ((n + 1 : Nat) : Int))), (0, .ref 50), (1, .ref c), (2, .int (zi v))]) rfl ?_
      refine ih (n + 1) _ (by omega) (fun i hi => ?_) (fun q hq => by rw [zup_o hq]; exact f1 q hq)
      rw [zup_at]
      by_cases z : i = n
      · rw [if_pos z, z]
      · rw [if_neg z]; exact h1 i (by omega)
  refine z_iconst zi_156_0 ?_
  refine z_istore_n zi_156_1 rfl ?_
  refine z_loc (lv' := [(3, .int (zi ((0 : Nat) : Int))), (0, .ref 50), (1, .ref c), (2, .int (zi v))]) rfl ?_
  exact loop 72 0 t (by omega) (fun i hi => by omega) (fun _ _ => rfl)
theorem m_greatestOf {hd : Int} (h : zRS t g) (hw : gWF g) (ho : gO g = 0) (hd0 : hd = 0 ∨ hd = 1) (hfree : ∀ s, s < gN g → gH g s = hd → gP g s = none) (k : ∀ t', zRS t' g → zFz 60 (gL g) t t' → K (gGr g hd 24) t') : ZX (d + 4) 157 0 [(0, .ref 50), (1, .int (zi hd))] [] t (zKi K) := by
  have hn := hw.n
  have hend := gGr_end g hd (24 - 2 * gN g)
  rw [show 2 * gN g + (24 - 2 * gN g) = 24 by omega] at hend
  rw [hend] at k
  have hsc : ∀ n, glp g hd n → gsc (gput g (n / 2) (n % 2)) ≤ 24 ∧ 0 ≤ gsc (gput g (n / 2) (n % 2)) := fun n hp => by
    have := gsc_rng (gput_wf hw (s := n / 2) (f := n % 2) hp.1 (by omega) (gpl_none (hfree _ hp.1 hp.2.1)) ho)
    omega
  have hrng := gGr_rng g hd hsc
  have loop : ∀ (j n : Nat) (t' : zMI) (x5 : Int), n + j = 2 * gN g → zRS t' g → zFz 60 (gL g) t t' → (∀ i, i < 72 → t' 60 i = t 51 i) → ZX (d + 4) 157 11 [(4, .int (zi n)), (3, .int (zi (gL g))), (2, .int (zi (gGr g hd n))), (0, .ref 50), (1, .int (zi hd))] [] t' (zKi K) := by
    intro j
    induction j with
    | zero =>
      intro n t' x5 e h' f' h60
      have e1 : n = 2 * gN g := by omega
      subst e1
      refine z_iload zi_157_11 rfl ?_
      refine z_iconst zi_157_12 ?_
      refine z_aload_n zi_157_13 rfl ?_
      refine z_getfield zi_157_14 zm_f1 ?_
      rw [h'.n]
      refine z_imul zi_157_15 ?_
      refine z_icmp_ge_t zi_157_16 (by omega) (by omega) ?_
      refine z_iload_n zi_157_67 rfl ?_
      refine z_ireturn zi_157_68 rfl (k t' h' f')
    | succ j ih =>
      intro n t' x5 e h' f' h60
      have hh := hw.h (s := n / 2) (by omega)
      have hg := hrng n
      have e1 : (n : Int).tdiv 2 = ((n / 2 : Nat) : Int) := (Int.ofNat_tdiv n 2).symm
      have e2 : (n : Int).tmod 2 = ((n % 2 : Nat) : Int) := (Int.ofNat_tmod n 2).symm
      have eS : gGr g hd (n + 1) = if glp g hd n then (if gGr g hd n < gsc (gput g (n / 2) (n % 2)) then gsc (gput g (n / 2) (n % 2)) else gGr g hd n) else gGr g hd n := rfl
      refine z_iload zi_157_11 rfl ?_
      refine z_iconst zi_157_12 ?_
      refine z_aload_n zi_157_13 rfl ?_
      refine z_getfield zi_157_14 zm_f1 ?_
      rw [h'.n]
      refine z_imul zi_157_15 ?_
      refine z_icmp_ge_f zi_157_16 (by omega) (by omega) ?_
      have next : ¬ glp g hd n → ZX (d + 4) 157 65 [(4, .int (zi n)), (3, .int (zi (gL g))), (2, .int (zi (gGr g hd n))), (0, .ref 50), (1, .int (zi hd))] [] t' (zKi K) := by
        intro q
        rw [if_neg q] at eS
        refine z_iinc zi_157_65 rfl rfl ?_
        refine z_goto zi_157_66 ?_
        refine z_loc (lv' := [(4, .int (zi ((n + 1 : Nat) : Int))), (3, .int (zi (gL g))), (2, .int (zi (gGr g hd n))), (0, .ref 50), (1, .int (zi hd))]) rfl ?_
        rw [← eS]
        exact ih (n + 1) t' 0 (by omega) h' f' h60
      refine z_aload_n zi_157_17 rfl ?_
      refine z_getfield zi_157_18 zm_f0 ?_
      refine z_bipush zi_157_19 (by decide) ?_
      refine z_iload zi_157_20 rfl ?_
      refine z_iconst zi_157_21 ?_
      refine z_idiv zi_157_22 (by omega) ?_
      rw [e1]
      refine z_imul zi_157_23 ?_
      refine z_iconst zi_157_24 ?_
      refine z_iadd zi_157_25 ?_
      refine z_iaload (n := 6 * (n / 2) + 5) zi_157_26 rfl (by omega) (by omega) (by omega) ?_
      rw [h'.h (by omega)]
      refine z_iload_n zi_157_27 rfl ?_
      refine z_icmp_ne zi_157_28 (by omega) (fun c => ?_) (fun c => ?_)
      · exact next (fun z => c z.2.1)
      · have hfr := hfree (n / 2) (by omega) (by omega)
        have hPi : gPi g (n / 2) = -4 := by unfold gPi; rw [hfr]
        refine z_aload_n zi_157_29 rfl ?_
        refine z_iload zi_157_30 rfl ?_
        refine z_iconst zi_157_31 ?_
        refine z_idiv zi_157_32 (by omega) ?_
        rw [e1]
        refine z_cv1i zi_157_33 rfl rfl ⟨rfl, Nat.le_of_ble_eq_true rfl, Nat.le_of_ble_eq_true rfl⟩ (m_placeOf h' hw rfl (by omega) ?_)
        rw [hPi]
        refine z_if_ge_f zi_157_34 (by omega) (by omega) ?_
        refine z_aload_n zi_157_35 rfl ?_
        refine z_iload zi_157_36 rfl ?_
        refine z_iconst zi_157_37 ?_
        refine z_idiv zi_157_38 (by omega) ?_
        rw [e1]
        refine z_iload zi_157_39 rfl ?_
        refine z_iconst zi_157_40 ?_
        refine z_irem zi_157_41 (by omega) ?_
        rw [e2]
        refine z_cv2i zi_157_42 rfl rfl rfl ⟨rfl, Nat.le_of_ble_eq_true rfl, Nat.le_of_ble_eq_true rfl⟩ (m_mayLay h' hw rfl (by omega) rfl (by omega) (fun q => ?_) (fun q => ?_))
        · have hp : glp g hd n := ⟨by omega, by omega, q⟩
          have hs := hsc n hp
          rw [if_pos hp] at eS
          refine z_if_eq_f zi_157_43 (by omega) (by omega) ?_
          refine z_aload_n zi_157_44 rfl ?_
          refine z_iload zi_157_45 rfl ?_
          refine z_iconst zi_157_46 ?_
          refine z_idiv zi_157_47 (by omega) ?_
          rw [e1]
          refine z_iload zi_157_48 rfl ?_
          refine z_iconst zi_157_49 ?_
          refine z_irem zi_157_50 (by omega) ?_
          rw [e2]
          refine z_cv2i zi_157_51 rfl rfl rfl ⟨rfl, Nat.le_of_ble_eq_true rfl, Nat.le_of_ble_eq_true rfl⟩ (m_put h' hw rfl (by omega) rfl (by omega) hfr ho (fun t2 h2 f2 => ?_))
          have fin : ∀ y : Int, y = gGr g hd (n + 1) → ZX (d + 4) 157 60 [(5, .int (zi (gsc (gput g (n / 2) (n % 2))))), (4, .int (zi n)), (3, .int (zi (gL g))), (2, .int (zi y)), (0, .ref 50), (1, .int (zi hd))] [] t2 (zKi K) := by
            intro y hy
            refine z_aload_n zi_157_60 rfl ?_
            refine z_aload_n zi_157_61 rfl ?_
            refine z_getfield zi_157_62 zm_f16 ?_
            refine z_iload_n zi_157_63 rfl ?_
            refine z_cv2v zi_157_64 rfl rfl rfl ⟨rfl, Nat.le_of_ble_eq_true rfl, Nat.le_of_ble_eq_true rfl⟩ (m_bringBack rfl (by omega) (by omega) (fun t3 b1 b2 b3 b4 => ?_))
            refine z_iinc zi_157_65 rfl rfl ?_
            refine z_goto zi_157_66 ?_
            refine z_loc (lv' := [(4, .int (zi ((n + 1 : Nat) : Int))), (3, .int (zi (gL g))), (2, .int (zi y)), (0, .ref 50), (1, .int (zi hd))]) rfl ?_
            rw [hy]
            have f3 : zFz 60 (gL g) t t3 := ⟨fun q x1 x2 x3 => by rw [b4 q (by omega) (by omega), f2.1 q x1 x2 (by omega)]; exact f'.1 q x1 x2 x3, fun i hi => by rw [b3 i hi, f2.2.1 i hi]; exact f'.2.1 i hi, fun p hp => by rw [b4 52 (by omega) (by omega), b4 53 (by omega) (by omega), (f2.2.2 p hp).1, (f2.2.2 p hp).2]; exact f'.2.2 p hp⟩
            refine ih (n + 1) t3 0 (by omega) (zRS_back h hn.1 (fun i hi => ?_) b2 f3.2.1 f3.2.2 (f3.1 54 (by omega) (by omega) (by omega))) f3 (fun i hi => ?_)
            · rw [b1 i hi, f2.1 60 (by omega) (by omega) (by omega)]; exact h60 i hi
            · rw [b4 60 (by omega) (by omega), f2.1 60 (by omega) (by omega) (by omega)]; exact h60 i hi
          refine z_istore zi_157_52 rfl ?_
          refine z_iload zi_157_53 rfl ?_
          refine z_iload_n zi_157_54 rfl ?_
          refine z_icmp_le zi_157_55 (by omega) (fun c2 => ?_) (fun c2 => ?_)
          · rw [if_neg (by omega)] at eS
            refine z_iload_n zi_157_58 rfl ?_
            refine z_istore_n zi_157_59 rfl ?_
            refine z_loc (lv' := [(5, .int (zi (gsc (gput g (n / 2) (n % 2))))), (4, .int (zi n)), (3, .int (zi (gL g))), (2, .int (zi (gGr g hd n))), (0, .ref 50), (1, .int (zi hd))]) rfl ?_
            exact fin _ eS.symm
          · rw [if_pos (by omega)] at eS
            refine z_iload zi_157_56 rfl ?_
            refine z_goto zi_157_57 ?_
            refine z_istore_n zi_157_59 rfl ?_
            refine z_loc (lv' := [(5, .int (zi (gsc (gput g (n / 2) (n % 2))))), (4, .int (zi n)), (3, .int (zi (gL g))), (2, .int (zi (gsc (gput g (n / 2) (n % 2))))), (0, .ref 50), (1, .int (zi hd))]) rfl ?_
            exact fin _ eS.symm
        · refine z_if_eq_t zi_157_43 (by omega) (by omega) ?_
          exact next (fun z => q z.2.2)
  refine z_iconst zi_157_0 ?_
  refine z_istore_n zi_157_1 rfl ?_
  refine z_aload_n zi_157_2 rfl ?_
  refine z_getfield zi_157_3 zm_f4 ?_
  rw [h.l]
  refine z_istore_n zi_157_4 rfl ?_
  refine z_aload_n zi_157_5 rfl ?_
  refine z_aload_n zi_157_6 rfl ?_
  refine z_getfield zi_157_7 zm_f16 ?_
  refine z_cv1v zi_157_8 rfl rfl ⟨rfl, Nat.le_of_ble_eq_true rfl, Nat.le_of_ble_eq_true rfl⟩ (m_keepIn rfl (by omega) (fun t1 h1 f1 => ?_))
  refine z_iconst zi_157_9 ?_
  refine z_istore zi_157_10 rfl ?_
  refine z_loc (lv' := [(4, .int (zi ((0 : Nat) : Int))), (3, .int (zi (gL g))), (2, .int (zi (gGr g hd 0))), (0, .ref 50), (1, .int (zi hd))]) rfl ?_
  refine loop (2 * gN g) 0 t1 0 (by omega) (zRS_congr h (fun q _ _ => f1 q (by omega)) ?_ ?_ ?_ ?_) ⟨fun q x1 x2 x3 => f1 q (by omega), fun n _ => ?_, fun p _ => ?_⟩ h1
  all_goals first | rw [f1 50 (by omega)] | (rw [f1 52 (by omega), f1 53 (by omega)]; exact ⟨rfl, rfl⟩)
theorem m_best {hd w : Int} (h : zRS t g) (hg : gOK g) (r1 : -2147483648 ≤ hd ∧ hd < 2147483648) (r2 : -2147483648 ≤ w ∧ w < 2147483648) (k : ∀ t', zRS t' g → zFA t t' → K (oBest g hd w) t') : ZX (d + 5) 158 0 [(0, .ref 50), (1, .int (zi hd)), (2, .int (zi w))] [] t (zKi K) := by
  have hw := hg.1
  have hn := hw.n
  have ho := hw.o
  unfold oBest at k
  refine z_iload_n zi_158_0 rfl ?_
  refine z_i2l zi_158_1 (by omega) ?_
  refine z_lconst (v := 0) zi_158_2 (by decide) ?_
  refine z_lconst (v := 1) zi_158_3 (by decide) ?_
  refine z_in zi_158_4 (by omega) (Nat.le_of_ble_eq_true rfl) (fun q1 => ?_) (fun q1 => ?_)
  rotate_left
  · rw [if_neg (fun z => q1 z.1)] at k
    refine z_if_eq_t zi_158_5 (by omega) (by omega) ?_
    refine z_iconst zi_158_12 ?_
    refine z_ireturn zi_158_13 rfl (k t h zFA.rf)
  refine z_if_eq_f zi_158_5 (by omega) (by omega) ?_
  refine z_iload_n zi_158_6 rfl ?_
  refine z_i2l zi_158_7 (by omega) ?_
  refine z_lconst (v := 0) zi_158_8 (by decide) ?_
  refine z_ldc2_w (v := 2) zi_158_9 rfl ?_
  refine z_in zi_158_10 (by omega) (Nat.le_of_ble_eq_true rfl) (fun q2 => ?_) (fun q2 => ?_)
  rotate_left
  · rw [if_neg (fun z => q2 z.2)] at k
    refine z_if_ne_f zi_158_11 (by omega) (by omega) ?_
    refine z_iconst zi_158_12 ?_
    refine z_ireturn zi_158_13 rfl (k t h zFA.rf)
  rw [if_pos ⟨q1, q2⟩] at k
  refine z_if_ne_t zi_158_11 (by omega) (by omega) ?_
  refine z_aload_n zi_158_14 rfl ?_
  refine z_getfield zi_158_15 zm_f6 ?_
  rw [h.o]
  refine z_if_eq zi_158_16 (by omega) (fun c => ?_) (fun c => ?_)
  rotate_left
  · rw [if_pos (by omega)] at k
    refine z_bipush zi_158_17 (by decide) ?_
    refine z_ireturn zi_158_18 rfl (k t h zFA.rf)
  have ho0 : gO g = 0 := c
  have hd0 : hd = 0 ∨ hd = 1 := by omega
  rw [if_neg (by omega)] at k
  have hend := gBs_end g hd (24 - 2 * gN g)
  rw [show 2 * gN g + (24 - 2 * gN g) = 24 by omega] at hend
  rw [hend] at k
  have loop : ∀ (j n : Nat) (t' : zMI) (y : Int), n + j = 2 * gN g → y = (if (gBs g hd n).1 = -4 then -999 else (gBs g hd n).2) → zRS t' g → zFz 59 (gL g) t t' → (∀ i, i < 72 → t' 59 i = t 51 i) → ZX (d + 5) 158 32 [(6, .int (zi n)), (5, .int (zi (gL g))), (4, .int (zi y)), (3, .int (zi (gBs g hd n).1)), (0, .ref 50), (1, .int (zi hd)), (2, .int (zi w))] [] t' (zKi K) := by
    intro j
    induction j with
    | zero =>
      intro n t' y e hy h' f' h59
      have e1 : n = 2 * gN g := by omega
      subst e1
      have hr := gBs_rng hg ho0 hd0 (2 * gN g)
      have k := k t' h' (f'.a (by omega))
      refine z_iload zi_158_32 rfl ?_
      refine z_iconst zi_158_33 ?_
      refine z_aload_n zi_158_34 rfl ?_
      refine z_getfield zi_158_35 zm_f1 ?_
      rw [h'.n]
      refine z_imul zi_158_36 ?_
      refine z_icmp_ge_t zi_158_37 (by omega) (by omega) ?_
      refine z_iload_n zi_158_95 rfl ?_
      refine z_if_ge zi_158_96 (by omega) (fun c2 => ?_) (fun c2 => ?_)
      · rw [if_neg (by omega)] at k
        rw [if_neg (by omega)] at hy
        refine z_iload_n zi_158_99 rfl ?_
        refine z_if_ne zi_158_100 (by omega) (fun c3 => ?_) (fun c3 => ?_)
        · rw [if_neg c3] at k
          refine z_iload_n zi_158_105 rfl ?_
          refine z_iconst zi_158_106 ?_
          refine z_icmp_ne zi_158_107 (by omega) (fun c4 => ?_) (fun c4 => ?_)
          · rw [if_neg c4, ← hy] at k
            refine z_iload zi_158_112 rfl ?_
            refine z_bipush zi_158_113 (by decide) ?_
            refine z_iadd zi_158_114 ?_
            refine z_ireturn zi_158_115 rfl k
          · rw [if_pos (by omega)] at k
            have e2 : (gBs g hd (2 * gN g)).1.tmod 2 = (gBs g hd (2 * gN g)).1 % 2 := Int.tmod_eq_emod_of_nonneg (by omega)
            refine z_iload_n zi_158_108 rfl ?_
            refine z_iconst zi_158_109 ?_
            refine z_irem zi_158_110 (by omega) ?_
            rw [e2]
            refine z_goto zi_158_111 ?_
            refine z_ireturn zi_158_115 rfl k
        · rw [if_pos (by omega)] at k
          have e2 : (gBs g hd (2 * gN g)).1.tdiv 2 = (gBs g hd (2 * gN g)).1 / 2 := Int.tdiv_eq_ediv_of_nonneg (by omega)
          refine z_iload_n zi_158_101 rfl ?_
          refine z_iconst zi_158_102 ?_
          refine z_idiv zi_158_103 (by omega) ?_
          rw [e2]
          refine z_goto zi_158_104 ?_
          refine z_ireturn zi_158_115 rfl k
      · rw [if_pos (by omega)] at k
        refine z_bipush zi_158_97 (by decide) ?_
        refine z_goto zi_158_98 ?_
        refine z_ireturn zi_158_115 rfl k
    | succ j ih =>
      intro n t' y e hy h' f' h59
      have hh := hw.h (s := n / 2) (by omega)
      have hr := gBs_rng hg ho0 hd0 n
      have e1 : (n : Int).tdiv 2 = ((n / 2 : Nat) : Int) := (Int.ofNat_tdiv n 2).symm
      have e2 : (n : Int).tmod 2 = ((n % 2 : Nat) : Int) := (Int.ofNat_tmod n 2).symm
      have eS : gBs g hd (n + 1) = if glp g hd n then (if (gBs g hd n).1 = -4 ∨ (gBs g hd n).2 < gWo g hd n then ((n : Int), gWo g hd n) else gBs g hd n) else gBs g hd n := rfl
      have yr : -1000 ≤ y ∧ y ≤ 24 := by
        rw [hy]
        split <;> omega
      refine z_iload zi_158_32 rfl ?_
      refine z_iconst zi_158_33 ?_
      refine z_aload_n zi_158_34 rfl ?_
      refine z_getfield zi_158_35 zm_f1 ?_
      rw [h'.n]
      refine z_imul zi_158_36 ?_
      refine z_icmp_ge_f zi_158_37 (by omega) (by omega) ?_
      have next : ¬ glp g hd n → ZX (d + 5) 158 93 [(6, .int (zi n)), (5, .int (zi (gL g))), (4, .int (zi y)), (3, .int (zi (gBs g hd n).1)), (0, .ref 50), (1, .int (zi hd)), (2, .int (zi w))] [] t' (zKi K) := by
        intro q
        rw [if_neg q] at eS
        refine z_iinc zi_158_93 rfl rfl ?_
        refine z_goto zi_158_94 ?_
        refine z_loc (lv' := [(6, .int (zi ((n + 1 : Nat) : Int))), (5, .int (zi (gL g))), (4, .int (zi y)), (3, .int (zi (gBs g hd n).1)), (0, .ref 50), (1, .int (zi hd)), (2, .int (zi w))]) rfl ?_
        rw [← eS]
        exact ih (n + 1) t' y (by omega) (by rw [eS]; exact hy) h' f' h59
      refine z_aload_n zi_158_38 rfl ?_
      refine z_getfield zi_158_39 zm_f0 ?_
      refine z_bipush zi_158_40 (by decide) ?_
      refine z_iload zi_158_41 rfl ?_
      refine z_iconst zi_158_42 ?_
      refine z_idiv zi_158_43 (by omega) ?_
      rw [e1]
      refine z_imul zi_158_44 ?_
      refine z_iconst zi_158_45 ?_
      refine z_iadd zi_158_46 ?_
      refine z_iaload (n := 6 * (n / 2) + 5) zi_158_47 rfl (by omega) (by omega) (by omega) ?_
      rw [h'.h (by omega)]
      refine z_iload_n zi_158_48 rfl ?_
      refine z_icmp_ne zi_158_49 (by omega) (fun c1 => ?_) (fun c1 => ?_)
      · exact next (fun z => c1 z.2.1)
      · refine z_aload_n zi_158_50 rfl ?_
        refine z_iload zi_158_51 rfl ?_
        refine z_iconst zi_158_52 ?_
        refine z_idiv zi_158_53 (by omega) ?_
        rw [e1]
        refine z_iload zi_158_54 rfl ?_
        refine z_iconst zi_158_55 ?_
        refine z_irem zi_158_56 (by omega) ?_
        rw [e2]
        refine z_cv2i zi_158_57 rfl rfl rfl ⟨rfl, Nat.le_of_ble_eq_true rfl, Nat.le_of_ble_eq_true rfl⟩ (m_mayLay h' hw rfl (by omega) rfl (by omega) (fun q => ?_) (fun q => ?_))
        · have hp : glp g hd n := ⟨by omega, by omega, q⟩
          have hwr := gWo_rng hg ho0 hd0 hp
          have hfr := glp_free hg.2 hd0 hp
          rw [if_pos hp] at eS
          refine z_if_eq_f zi_158_58 (by omega) (by omega) ?_
          refine z_aload_n zi_158_59 rfl ?_
          refine z_iload zi_158_60 rfl ?_
          refine z_iconst zi_158_61 ?_
          refine z_idiv zi_158_62 (by omega) ?_
          rw [e1]
          refine z_iload zi_158_63 rfl ?_
          refine z_iconst zi_158_64 ?_
          refine z_irem zi_158_65 (by omega) ?_
          rw [e2]
          refine z_cv2i zi_158_66 rfl rfl rfl ⟨rfl, Nat.le_of_ble_eq_true rfl, Nat.le_of_ble_eq_true rfl⟩ (m_put h' hw rfl (by omega) rfl (by omega) hfr ho0 (fun t2 h2 f2 => ?_))
          have hsc := gsc_put hg ho0 hd0 hp
          have hWo : gsc (gput g (n / 2) (n % 2)) - gGr (gput g (n / 2) (n % 2)) (1 - hd) 24 = gWo g hd n := by
            unfold gWo
            rw [gGr_lay (by omega) hd0]
          have hw2 : gWF (gput g (n / 2) (n % 2)) := gput_wf hw hp.1 (by omega) (gpl_none hfr) ho0
          have hL2 : gL (gput g (n / 2) (n % 2)) = gL g + 1 := by
            show gL (gpre g) + 1 = _
            rw [gpre_L]
          have hO2 : gO (gput g (n / 2) (n % 2)) = 0 := by
            show gO (gpre g) = 0
            unfold gpre
            split
            · exact ho0
            · split <;> exact ho0
          have hfree2 : ∀ s', s' < gN (gput g (n / 2) (n % 2)) → gH (gput g (n / 2) (n % 2)) s' = 1 - hd → gP (gput g (n / 2) (n % 2)) s' = none := by
            intro s' hs' hH
            rw [gput_H] at hH
            rw [gput_N] at hs'
            refine gpl_of_none (fun p hpL e => ?_)
            have e' : fupN (gR (gpre g)) (gL (gpre g)) (n / 2) p = s' := e
            rw [gpre_R, gpre_L] at e'
            unfold fupN at e'
            by_cases z : p = gL g
            · rw [if_pos z] at e'
              rw [← e'] at hH
              omega
            · rw [if_neg z] at e'
              have := hg.2 p (by omega)
              rw [e'] at this
              omega
          refine z_aload_n zi_158_67 rfl ?_
          refine z_iconst zi_158_68 ?_
          refine z_iload_n zi_158_69 rfl ?_
          refine z_isub zi_158_70 ?_
          refine z_cv1i zi_158_71 rfl rfl ⟨rfl, Nat.le_of_ble_eq_true rfl, Nat.le_of_ble_eq_true rfl⟩ (m_greatestOf h2 hw2 hO2 (by omega) hfree2 (fun t3 h3 f3 => ?_))
          refine z_isub zi_158_72 ?_
          rw [hWo]
          have fin : ∀ (y' z' : Int), z' = (gBs g hd (n + 1)).1 → y' = (if (gBs g hd (n + 1)).1 = -4 then -999 else (gBs g hd (n + 1)).2) → ZX (d + 5) 158 88 [(7, .int (zi (gWo g hd n))), (6, .int (zi n)), (5, .int (zi (gL g))), (4, .int (zi y')), (3, .int (zi z')), (0, .ref 50), (1, .int (zi hd)), (2, .int (zi w))] [] t3 (zKi K) := by
            intro y' z' hz hy'
            refine z_aload_n zi_158_88 rfl ?_
            refine z_aload_n zi_158_89 rfl ?_
            refine z_getfield zi_158_90 zm_f15 ?_
            refine z_iload zi_158_91 rfl ?_
            refine z_cv2v zi_158_92 rfl rfl rfl ⟨rfl, Nat.le_of_ble_eq_true rfl, Nat.le_of_ble_eq_true rfl⟩ (m_bringBack rfl (by omega) (by omega) (fun t4 b1 b2 b3 b4 => ?_))
            refine z_iinc zi_158_93 rfl rfl ?_
            refine z_goto zi_158_94 ?_
            refine z_loc (lv' := [(6, .int (zi ((n + 1 : Nat) : Int))), (5, .int (zi (gL g))), (4, .int (zi y')), (3, .int (zi z')), (0, .ref 50), (1, .int (zi hd)), (2, .int (zi w))]) rfl ?_
            rw [hz]
            have f4 : zFz 59 (gL g) t t4 := ⟨fun q x1 x2 x3 => by rw [b4 q (by omega) (by omega), f3.1 q x1 x2 (by omega), f2.1 q x1 x2 (by omega)]; exact f'.1 q x1 x2 x3, fun i hi => by rw [b3 i hi, f3.2.1 i hi, f2.2.1 i hi]; exact f'.2.1 i hi, fun p hp => by rw [b4 52 (by omega) (by omega), b4 53 (by omega) (by omega), (f3.2.2 p (by omega)).1, (f3.2.2 p (by omega)).2, (f2.2.2 p hp).1, (f2.2.2 p hp).2]; exact f'.2.2 p hp⟩
            refine ih (n + 1) t4 y' (by omega) hy' (zRS_back h hn.1 (fun i hi => ?_) b2 f4.2.1 f4.2.2 (f4.1 54 (by omega) (by omega) (by omega))) f4 (fun i hi => ?_)
            · rw [b1 i hi, f3.1 59 (by omega) (by omega) (by omega), f2.1 59 (by omega) (by omega) (by omega)]; exact h59 i hi
            · rw [b4 59 (by omega) (by omega), f3.1 59 (by omega) (by omega) (by omega), f2.1 59 (by omega) (by omega) (by omega)]; exact h59 i hi
          refine z_istore zi_158_73 rfl ?_
          refine z_iload zi_158_74 rfl ?_
          refine z_iload zi_158_75 rfl ?_
          by_cases cc : (gBs g hd n).1 = -4 ∨ (gBs g hd n).2 < gWo g hd n
          · rw [if_pos cc] at eS
            have hlt : y < gWo g hd n := by
              rw [hy]
              split
              · omega
              · omega
            refine z_icmp_le_f zi_158_76 (by omega) (by omega) ?_
            refine z_iload zi_158_77 rfl ?_
            refine z_goto zi_158_78 ?_
            refine z_istore_n zi_158_80 rfl ?_
            refine z_iload zi_158_81 rfl ?_
            refine z_iload zi_158_82 rfl ?_
            refine z_icmp_le_f zi_158_83 (by omega) (by omega) ?_
            refine z_iload zi_158_84 rfl ?_
            refine z_goto zi_158_85 ?_
            refine z_istore zi_158_87 rfl ?_
            refine z_loc (lv' := [(7, .int (zi (gWo g hd n))), (6, .int (zi n)), (5, .int (zi (gL g))), (4, .int (zi (gWo g hd n))), (3, .int (zi n)), (0, .ref 50), (1, .int (zi hd)), (2, .int (zi w))]) rfl ?_
            exact fin _ _ (by rw [eS]) (by rw [eS]; dsimp only; rw [if_neg (by omega)])
          · rw [if_neg cc] at eS
            have hlt : gWo g hd n ≤ y := by
              rw [hy, if_neg (fun z => cc (Or.inl z))]
              omega
            refine z_icmp_le_t zi_158_76 (by omega) (by omega) ?_
            refine z_iload_n zi_158_79 rfl ?_
            refine z_istore_n zi_158_80 rfl ?_
            refine z_iload zi_158_81 rfl ?_
            refine z_iload zi_158_82 rfl ?_
            refine z_icmp_le_t zi_158_83 (by omega) (by omega) ?_
            refine z_iload zi_158_86 rfl ?_
            refine z_istore zi_158_87 rfl ?_
            refine z_loc (lv' := [(7, .int (zi (gWo g hd n))), (6, .int (zi n)), (5, .int (zi (gL g))), (4, .int (zi y)), (3, .int (zi (gBs g hd n).1)), (0, .ref 50), (1, .int (zi hd)), (2, .int (zi w))]) rfl ?_
            exact fin _ _ (by rw [eS]) (by rw [eS]; exact hy)
        · refine z_if_eq_t zi_158_58 (by omega) (by omega) ?_
          exact next (fun z => q z.2.2)
  refine z_bipush zi_158_19 (by decide) ?_
  refine z_istore_n zi_158_20 rfl ?_
  refine z_sipush zi_158_21 (by decide) ?_
  refine z_istore zi_158_22 rfl ?_
  refine z_aload_n zi_158_23 rfl ?_
  refine z_getfield zi_158_24 zm_f4 ?_
  rw [h.l]
  refine z_istore zi_158_25 rfl ?_
  refine z_aload_n zi_158_26 rfl ?_
  refine z_aload_n zi_158_27 rfl ?_
  refine z_getfield zi_158_28 zm_f15 ?_
  refine z_cv1v zi_158_29 rfl rfl ⟨rfl, Nat.le_of_ble_eq_true rfl, Nat.le_of_ble_eq_true rfl⟩ (m_keepIn rfl (by omega) (fun t1 h1 f1 => ?_))
  refine z_iconst zi_158_30 ?_
  refine z_istore zi_158_31 rfl ?_
  refine z_loc (lv' := [(6, .int (zi ((0 : Nat) : Int))), (5, .int (zi (gL g))), (4, .int (zi (-999))), (3, .int (zi (gBs g hd 0).1)), (0, .ref 50), (1, .int (zi hd)), (2, .int (zi w))]) rfl ?_
  refine loop (2 * gN g) 0 t1 (-999) (by omega) rfl (zRS_congr h (fun q _ _ => f1 q (by omega)) ?_ ?_ ?_ ?_) ⟨fun q x1 x2 x3 => f1 q (by omega), fun n _ => ?_, fun p _ => ?_⟩ h1
  all_goals first | rw [f1 50 (by omega)] | (rw [f1 52 (by omega), f1 53 (by omega)]; exact ⟨rfl, rfl⟩)
theorem m_laysOf {hd kk : Int} (h : zRS t g) (hw : gWF g) (hd0 : hd = 0 ∨ hd = 1) (hk : -1 ≤ kk ∧ kk ≤ 24) (kS : ∀ q, q < 24 → glp g hd q → (gcl g hd q : Int) = kk → K q t) (kN : (∀ q, q < 24 → glp g hd q → (gcl g hd q : Int) ≠ kk) → K (if kk < 0 then (gcl g hd 24 : Int) else -4) t) : ZX (d + 3) 159 0 [(0, .ref 50), (1, .int (zi hd)), (2, .int (zi kk))] [] t (zKi K) := by
  have hn := hw.n
  have hend := gcl_end g hd (24 - 2 * gN g)
  rw [show 2 * gN g + (24 - 2 * gN g) = 24 by omega] at hend
  have loop : ∀ (j n : Nat), n + j = 2 * gN g → (∀ q, q < n → glp g hd q → (gcl g hd q : Int) ≠ kk) → ZX (d + 3) 159 4 [(4, .int (zi n)), (3, .int (zi (gcl g hd n))), (0, .ref 50), (1, .int (zi hd)), (2, .int (zi kk))] [] t (zKi K) := by
    intro j
    induction j with
    | zero =>
      intro n e hno
      have e1 : n = 2 * gN g := by omega
      subst e1
      have kN := kN (fun q hq hp => hno q (by have := hp.1; omega) hp)
      have hle := gcl_le g hd (2 * gN g)
      refine z_iload zi_159_4 rfl ?_
      refine z_iconst zi_159_5 ?_
      refine z_aload_n zi_159_6 rfl ?_
      refine z_getfield zi_159_7 zm_f1 ?_
      rw [h.n]
      refine z_imul zi_159_8 ?_
      refine z_icmp_ge_t zi_159_9 (by omega) (by omega) ?_
      refine z_iload_n zi_159_39 rfl ?_
      refine z_if_ge zi_159_40 (by omega) (fun c => ?_) (fun c => ?_)
      · rw [if_neg (by omega)] at kN
        refine z_bipush zi_159_43 (by decide) ?_
        refine z_ireturn zi_159_44 rfl kN
      · rw [if_pos (by omega), hend] at kN
        refine z_iload_n zi_159_41 rfl ?_
        refine z_goto zi_159_42 ?_
        refine z_ireturn zi_159_44 rfl kN
    | succ j ih =>
      intro n e hno
      have hh := hw.h (s := n / 2) (by omega)
      have hle := gcl_le g hd n
      have e1 : (n : Int).tdiv 2 = ((n / 2 : Nat) : Int) := (Int.ofNat_tdiv n 2).symm
      have e2 : (n : Int).tmod 2 = ((n % 2 : Nat) : Int) := (Int.ofNat_tmod n 2).symm
      have eS : gcl g hd (n + 1) = gcl g hd n + (if glp g hd n then 1 else 0) := rfl
      have next : ¬ glp g hd n → ZX (d + 3) 159 37 [(4, .int (zi n)), (3, .int (zi (gcl g hd n))), (0, .ref 50), (1, .int (zi hd)), (2, .int (zi kk))] [] t (zKi K) := by
        intro q
        have eS : gcl g hd (n + 1) = gcl g hd n := by rw [eS, if_neg q]; rfl
        refine z_iinc zi_159_37 rfl rfl ?_
        refine z_goto zi_159_38 ?_
        refine z_loc (lv' := [(4, .int (zi ((n + 1 : Nat) : Int))), (3, .int (zi (gcl g hd n))), (0, .ref 50), (1, .int (zi hd)), (2, .int (zi kk))]) rfl ?_
        rw [← eS]
        refine ih (n + 1) (by omega) (fun q' hq' hp => ?_)
        rcases (by omega : q' < n ∨ q' = n) with z | z
        · exact hno q' z hp
        · rw [z] at hp; exact absurd hp q
      refine z_iload zi_159_4 rfl ?_
      refine z_iconst zi_159_5 ?_
      refine z_aload_n zi_159_6 rfl ?_
      refine z_getfield zi_159_7 zm_f1 ?_
      rw [h.n]
      refine z_imul zi_159_8 ?_
      refine z_icmp_ge_f zi_159_9 (by omega) (by omega) ?_
      refine z_aload_n zi_159_10 rfl ?_
      refine z_getfield zi_159_11 zm_f0 ?_
      refine z_bipush zi_159_12 (by decide) ?_
      refine z_iload zi_159_13 rfl ?_
      refine z_iconst zi_159_14 ?_
      refine z_idiv zi_159_15 (by omega) ?_
      rw [e1]
      refine z_imul zi_159_16 ?_
      refine z_iconst zi_159_17 ?_
      refine z_iadd zi_159_18 ?_
      refine z_iaload (n := 6 * (n / 2) + 5) zi_159_19 rfl (by omega) (by omega) (by omega) ?_
      rw [h.h (by omega)]
      refine z_iload_n zi_159_20 rfl ?_
      refine z_icmp_ne zi_159_21 (by omega) (fun c => ?_) (fun c => ?_)
      · exact next (fun z => c z.2.1)
      · refine z_aload_n zi_159_22 rfl ?_
        refine z_iload zi_159_23 rfl ?_
        refine z_iconst zi_159_24 ?_
        refine z_idiv zi_159_25 (by omega) ?_
        rw [e1]
        refine z_iload zi_159_26 rfl ?_
        refine z_iconst zi_159_27 ?_
        refine z_irem zi_159_28 (by omega) ?_
        rw [e2]
        refine z_cv2i zi_159_29 rfl rfl rfl ⟨rfl, Nat.le_of_ble_eq_true rfl, Nat.le_of_ble_eq_true rfl⟩ (m_mayLay h hw rfl (by omega) rfl (by omega) (fun q => ?_) (fun q => ?_))
        · have hp : glp g hd n := ⟨by omega, by omega, q⟩
          rw [if_pos hp] at eS
          refine z_if_eq_f zi_159_30 (by omega) (by omega) ?_
          refine z_iload_n zi_159_31 rfl ?_
          refine z_iload_n zi_159_32 rfl ?_
          refine z_icmp_ne zi_159_33 (by omega) (fun c2 => ?_) (fun c2 => ?_)
          · refine z_iinc zi_159_36 rfl rfl ?_
            refine z_iinc zi_159_37 rfl rfl ?_
            refine z_goto zi_159_38 ?_
            have e3 : (gcl g hd n : Int) + 1 = ((gcl g hd (n + 1) : Nat) : Int) := by omega
            rw [e3]
            refine z_loc (lv' := [(4, .int (zi ((n + 1 : Nat) : Int))), (3, .int (zi ((gcl g hd (n + 1) : Nat) : Int))), (0, .ref 50), (1, .int (zi hd)), (2, .int (zi kk))]) rfl ?_
            refine ih (n + 1) (by omega) (fun q' hq' hp => ?_)
            rcases (by omega : q' < n ∨ q' = n) with z | z
            · exact hno q' z hp
            · rw [z]; exact c2
          · refine z_iload zi_159_34 rfl ?_
            refine z_ireturn zi_159_35 rfl (kS n (by omega) hp (by omega))
        · refine z_if_eq_t zi_159_30 (by omega) (by omega) ?_
          exact next (fun z => q z.2.2)
  refine z_iconst zi_159_0 ?_
  refine z_istore_n zi_159_1 rfl ?_
  refine z_iconst zi_159_2 ?_
  refine z_istore zi_159_3 rfl ?_
  refine z_loc (lv' := [(4, .int (zi ((0 : Nat) : Int))), (3, .int (zi (gcl g hd 0))), (0, .ref 50), (1, .int (zi hd)), (2, .int (zi kk))]) rfl ?_
  exact loop (2 * gN g) 0 (by omega) (fun q hq => by omega)
theorem m_match {a : Int} (h : zRS t g) (hg : gOK g) (r1 : -2147483648 ≤ a ∧ a < 2147483648) (k : ∀ v g' t', oMatch g a v g' → zRS t' g' → zFA t t' → K v t') : ZX (d + 5) 160 0 [(0, .ref 50), (1, .int (zi a))] [] t (zKi K) := by
  have ho := hg.1.o
  refine z_iload_n zi_160_0 rfl ?_
  refine z_i2l zi_160_1 (by omega) ?_
  refine z_lconst (v := 1) zi_160_2 (by decide) ?_
  refine z_ldc2_w (v := 24) zi_160_3 rfl ?_
  refine z_in zi_160_4 (by omega) (Nat.le_of_ble_eq_true rfl) (fun q1 => ?_) (fun q1 => ?_)
  · refine z_if_ne_t zi_160_5 (by omega) (by omega) ?_
    refine z_aload_n zi_160_8 rfl ?_
    refine z_getfield zi_160_9 zm_f6 ?_
    rw [h.o]
    refine z_if_eq zi_160_10 (by omega) (fun c => ?_) (fun c => ?_)
    · have loop : ∀ (n i : Nat) (c : Int) (g1 : zG) (t1 : zMI), (i + n : Int) = a → gOK g1 → gO g1 = 0 → zRS t1 g1 → zFA t t1 → 0 ≤ c → c ≤ i → (∀ v g', gMt n i g1 c v g' → gMt a.toNat 0 g 0 v g') → ZX (d + 5) 160 17 [(3, .int (zi i)), (2, .int (zi c)), (0, .ref 50), (1, .int (zi a))] [] t1 (zKi K) := by
        intro n
        induction n with
        | zero =>
          intro i c g1 t1 e h1 ho1 h2 f2 hc hc2 hm
          refine z_iload_n zi_160_17 rfl ?_
          refine z_iload_n zi_160_18 rfl ?_
          refine z_icmp_ge_t zi_160_19 (by omega) (by omega) ?_
          refine z_iload_n zi_160_65 rfl ?_
          refine z_ireturn zi_160_66 rfl (k c g1 t1 (by unfold oMatch; rw [if_pos q1, if_neg (by omega)]; exact hm c g1 ⟨rfl, rfl⟩) h2 f2)
        | succ n ih =>
          intro i c g1 t1 e h1 ho1 h2 f2 hc hc2 hm
          have e3 : (i : Int).tmod 2 = ((i % 2 : Nat) : Int) := (Int.ofNat_tmod i 2).symm
          have hd0 : ((i % 2 : Nat) : Int) = 0 ∨ ((i % 2 : Nat) : Int) = 1 := by omega
          have hle := gcl_le g1 ((i % 2 : Nat) : Int) 24
          have hdg := h1.1.d
          have hdr := gdr_rng g1
          refine z_iload_n zi_160_17 rfl ?_
          refine z_iload_n zi_160_18 rfl ?_
          refine z_icmp_ge_f zi_160_19 (by omega) (by omega) ?_
          refine z_aload_n zi_160_20 rfl ?_
          refine z_iload_n zi_160_21 rfl ?_
          refine z_iconst zi_160_22 ?_
          refine z_irem zi_160_23 (by omega) ?_
          rw [e3]
          refine z_iconst zi_160_24 ?_
          generalize hhd : ((i % 2 : Nat) : Int) = hd at hd0 hle ⊢
          refine z_cv2i zi_160_25 rfl rfl rfl ⟨rfl, Nat.le_of_ble_eq_true rfl, Nat.le_of_ble_eq_true rfl⟩ (m_laysOf h2 h1.1 hd0 (by omega) (fun q _ _ z => by omega) (fun _ => ?_))
          rw [if_pos (show (-1 : Int) < 0 by omega)]
          refine z_istore zi_160_26 rfl ?_
          refine z_iload zi_160_27 rfl ?_
          refine z_if_le zi_160_28 (by omega) (fun c2 => ?_) (fun c2 => ?_)
          · refine z_iinc zi_160_63 rfl rfl ?_
            refine z_goto zi_160_64 ?_
            refine z_loc (lv' := [(3, .int (zi ((i + 1 : Nat) : Int))), (2, .int (zi c)), (0, .ref 50), (1, .int (zi a))]) rfl ?_
            exact ih (i + 1) c g1 t1 (by omega) h1 ho1 h2 f2 hc (by omega) (fun v g' z => hm v g' (Or.inl ⟨by rw [hhd]; omega, z⟩))
          · refine z_aload_n zi_160_29 rfl ?_
            refine z_aload_n zi_160_30 rfl ?_
            refine z_getfield zi_160_31 zm_f7 ?_
            rw [h2.d]
            refine z_i2l zi_160_32 (by omega) ?_
            refine z_ldc2_w (v := 1103515245) zi_160_33 rfl ?_
            refine z_lmul zi_160_34 ?_
            refine z_ldc2_w (v := 12345) zi_160_35 rfl ?_
            refine z_ladd zi_160_36 ?_
            refine z_ldc2_w (v := 2147483647) zi_160_37 rfl ?_
            refine z_land (v := gdr g1) zi_160_38 (zmask64 (by omega)) ?_
            refine z_l2i (v := gdr g1) zi_160_39 (zl2i (by omega)) ?_
            have w1 := gsD_wf h1.1 hdr
            have h3 : zRS (zup t1 50 7 (gdr g1)) (gsD g1 (gdr g1)) := zRS_D h2 _
            have f3 : zFA t (zup t1 50 7 (gdr g1)) := f2.up (by omega)
            refine z_putfield zi_160_40 rfl (Or.inl rfl) ?_
            refine z_aload_n zi_160_41 rfl ?_
            refine z_iload_n zi_160_42 rfl ?_
            refine z_iconst zi_160_43 ?_
            refine z_irem zi_160_44 (by omega) ?_
            rw [e3, hhd]
            refine z_aload_n zi_160_45 rfl ?_
            refine z_getfield zi_160_46 zm_f7 ?_
            rw [zup_s]
            generalize zup t1 50 7 (gdr g1) = t2 at h3 f3 ⊢
            refine z_ldc (v := 65536) zi_160_47 rfl ?_
            refine z_idiv zi_160_48 (by omega) ?_
            rw [show (gdr g1).tdiv 65536 = gdr g1 / 65536 from Int.tdiv_eq_ediv_of_nonneg hdr.1]
            refine z_iload zi_160_49 rfl ?_
            refine z_irem zi_160_50 (by omega) ?_
            rw [show (gdr g1 / 65536).tmod ((gcl g1 hd 24 : Nat) : Int) = (gdr g1 / 65536) % ((gcl g1 hd 24 : Nat) : Int) from Int.tmod_eq_emod_of_nonneg (by omega)]
            have hm0 := Int.emod_nonneg (gdr g1 / 65536) (show ((gcl g1 hd 24 : Nat) : Int) ≠ 0 by omega)
            have hm1 := Int.emod_lt_of_pos (gdr g1 / 65536) (show (0 : Int) < ((gcl g1 hd 24 : Nat) : Int) by omega)
            refine z_cv2i zi_160_51 rfl rfl rfl ⟨rfl, Nat.le_of_ble_eq_true rfl, Nat.le_of_ble_eq_true rfl⟩ (m_laysOf h3 w1 hd0 (by omega) (fun q y1 y2 y3 => ?_) (fun y => ?_))
            · rw [gcl_D] at y3
              have y2' : glp g1 hd q := y2
              have hfr := glp_free h1.2 hd0 y2'
              have f1 : (q : Int).tdiv 2 = ((q / 2 : Nat) : Int) := (Int.ofNat_tdiv q 2).symm
              have f2' : (q : Int).tmod 2 = ((q % 2 : Nat) : Int) := (Int.ofNat_tmod q 2).symm
              refine z_istore zi_160_52 rfl ?_
              refine z_aload_n zi_160_53 rfl ?_
              refine z_iload zi_160_54 rfl ?_
              refine z_iconst zi_160_55 ?_
              refine z_idiv zi_160_56 (by omega) ?_
              rw [f1]
              refine z_iload zi_160_57 rfl ?_
              refine z_iconst zi_160_58 ?_
              refine z_irem zi_160_59 (by omega) ?_
              rw [f2']
              refine z_cv2i zi_160_60 rfl rfl rfl ⟨rfl, Nat.le_of_ble_eq_true rfl, Nat.le_of_ble_eq_true rfl⟩ (m_layOne h3 w1 rfl y2'.1 rfl (by omega) hfr ho1 (fun t4 h4 f4 => ?_))
              refine z_pop zi_160_61 rfl ?_
              refine z_iinc zi_160_62 rfl rfl ?_
              refine z_iinc zi_160_63 rfl rfl ?_
              refine z_goto zi_160_64 ?_
              refine z_loc (lv' := [(3, .int (zi ((i + 1 : Nat) : Int))), (2, .int (zi (c + 1))), (0, .ref 50), (1, .int (zi a))]) rfl ?_
              refine ih (i + 1) (c + 1) _ t4 (by omega) ⟨glay_wf w1 y2'.1 (by omega) hfr ho1, glay_wh (g := gsD g1 (gdr g1)) h1.2⟩ (by rw [glay_O]; exact ho1) h4 (f3.tr f4) (by omega) (by omega) (fun v g' z => hm v g' (Or.inr ⟨q, y1, ?_, ?_, ?_, z⟩))
              · rw [hhd]; omega
              · rw [hhd]; exact y2'
              · rw [hhd]; exact y3
            · obtain ⟨q, q1, q2, q3⟩ := gcl_ex g1 hd ((gdr g1 / 65536) % ((gcl g1 hd 24 : Nat) : Int)).toNat 24 (by omega)
              refine absurd ?_ (y q q1 q2)
              rw [gcl_D]
              omega
      refine z_iconst zi_160_13 ?_
      refine z_istore_n zi_160_14 rfl ?_
      refine z_iconst zi_160_15 ?_
      refine z_istore_n zi_160_16 rfl ?_
      refine z_loc (lv' := [(3, .int (zi ((0 : Nat) : Int))), (2, .int (zi 0)), (0, .ref 50), (1, .int (zi a))]) rfl ?_
      exact loop a.toNat 0 0 g t (by omega) hg c h zFA.rf (by omega) (by omega) (fun _ _ z => z)
    · refine z_bipush zi_160_11 (by decide) ?_
      refine z_ireturn zi_160_12 rfl (k (-2) g t (by unfold oMatch; rw [if_pos q1, if_pos (by omega)]; exact ⟨rfl, rfl⟩) h zFA.rf)
  · refine z_if_ne_f zi_160_5 (by omega) (by omega) ?_
    refine z_iconst zi_160_6 ?_
    refine z_ireturn zi_160_7 rfl (k (-1) g t (by unfold oMatch; rw [if_neg q1]; exact ⟨rfl, rfl⟩) h zFA.rf)
theorem m_seed {v : Int} (h : zRS t g) (r1 : -2147483648 ≤ v ∧ v < 2147483648) (k : ∀ t', zRS t' (oSeed g v).2 → zFA t t' → K (oSeed g v).1 t') : ZX d 161 0 [(0, .ref 50), (1, .int (zi v))] [] t (zKi K) := by
  unfold oSeed at k
  refine z_iload_n zi_161_0 rfl ?_
  refine z_if_ge zi_161_1 (by omega) (fun c => ?_) (fun c => ?_)
  · rw [if_neg (by omega)] at k
    refine z_aload_n zi_161_4 rfl ?_
    refine z_getfield zi_161_5 zm_f7 ?_
    rw [h.d]
    refine z_istore_n zi_161_6 rfl ?_
    refine z_aload_n zi_161_7 rfl ?_
    refine z_iload_n zi_161_8 rfl ?_
    refine z_putfield zi_161_9 rfl (Or.inl rfl) ?_
    refine z_iload_n zi_161_10 rfl ?_
    refine z_ireturn zi_161_11 rfl (k _ (zRS_D h v) (zFA.rf.up (by omega)))
  · rw [if_pos (by omega)] at k
    refine z_iconst zi_161_2 ?_
    refine z_ireturn zi_161_3 rfl (k t h zFA.rf)
end
