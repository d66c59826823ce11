/-! the class's calls: best, judged -/
def gGr (g : zG) (hd : Int) : Nat → Int
  | 0 => 0
  | n + 1 => if glp g hd n then (if gGr g hd n < gsc (gput g (n / 2) (n % 2)) then gsc (gput g (n / 2) (n % 2)) else gGr g hd n) else gGr g hd n
def gWo (g : zG) (hd : Int) (n : Nat) : Int := gsc (gput g (n / 2) (n % 2)) - gGr (glay g (n / 2) (n % 2)) (1 - hd) 24
def gBs (g : zG) (hd : Int) : Nat → Int × Int
  | 0 => (-4, 0)
  | n + 1 => if glp g hd n then (if (gBs g hd n).1 = -4 ∨ (gBs g hd n).2 < gWo g hd n then ((n : Int), gWo g hd n) else gBs g hd n) else gBs g hd n
def oBest (g : zG) (hd what : Int) : Int := if (0 ≤ hd ∧ hd ≤ 1) ∧ (0 ≤ what ∧ what ≤ 2) then (if gO g = 1 then -2 else if (gBs g hd 24).1 = -4 then -4 else if what = 0 then (gBs g hd 24).1 / 2 else if what = 1 then (gBs g hd 24).1 % 2 else (gBs g hd 24).2 + 100) else -1
def gbad (g : zG) (st fr : Nat → Nat) (i : Nat) : Prop := (∃ j, j < i ∧ st j = st i) ∨ (0 < i ∧ ¬ (-1 ≤ gT g (st i) (fr i) - gT g (st (i - 1)) (1 - fr (i - 1)) ∧ gT g (st i) (fr i) - gT g (st (i - 1)) (1 - fr (i - 1)) ≤ 1))
def oJudged (g : zG) (sh : gSh) (s lane fr n v : Int) : Prop :=
  if (0 ≤ s ∧ s < 4) ∧ (0 ≤ lane ∧ lane ≤ 2) ∧ (1 ≤ n ∧ n ≤ 12) then
    (if gLack sh s.toNat lane fr (2 * n) ≠ 0 then v = gLack sh s.toNat lane fr (2 * n)
    else if ∀ k, k < n.toNat → (0 ≤ sh.2.2 s.toNat (fr.toNat + 2 * k) ∧ sh.2.2 s.toNat (fr.toNat + 2 * k) < gN g) ∧ (0 ≤ sh.2.2 s.toNat (fr.toNat + 2 * k + 1) ∧ sh.2.2 s.toNat (fr.toNat + 2 * k + 1) ≤ 1) then
      ((∃ i : Nat, v = i ∧ i < n.toNat ∧ gbad g (fun k => (sh.2.2 s.toNat (fr.toNat + 2 * k)).toNat) (fun k => (sh.2.2 s.toNat (fr.toNat + 2 * k + 1)).toNat) i ∧ ∀ j, j < i → ¬ gbad g (fun k => (sh.2.2 s.toNat (fr.toNat + 2 * k)).toNat) (fun k => (sh.2.2 s.toNat (fr.toNat + 2 * k + 1)).toNat) j) ∨
       (v = -4 ∧ ∀ i, i < n.toNat → ¬ gbad g (fun k => (sh.2.2 s.toNat (fr.toNat + 2 * k)).toNat) (fun k => (sh.2.2 s.toNat (fr.toNat + 2 * k + 1)).toNat) i))
    else v = -2)
  else v = -1
theorem oJudged_det {g : zG} {sh : gSh} {s lane fr n v w : Int} (h : oJudged g sh s lane fr n v) (h' : oJudged g sh s lane fr n w) : v = w := by
  unfold oJudged at h h'
  split at h
  · rename_i c1
    rw [if_pos c1] at h'
    split at h
    · rename_i c2
      rw [if_pos c2] at h'
      exact h.trans h'.symm
    · rename_i c2
      rw [if_neg c2] at h'
      split at h
      · rename_i c3
        rw [if_pos c3] at h'
        rcases h with ⟨x, e1, e2, e3, e4⟩ | ⟨e1, e2⟩ <;> rcases h' with ⟨y, f1, f2, f3, f4⟩ | ⟨f1, f2⟩
        · rcases Nat.lt_trichotomy x y with q | q | q
          · exact absurd e3 (f4 x q)
          · rw [e1, f1, q]
          · exact absurd f3 (e4 y q)
        · exact absurd e3 (f2 x e2)
        · exact absurd f3 (e2 y f2)
        · omega
      · rename_i c3
        rw [if_neg c3] at h'
        exact h.trans h'.symm
  · rename_i c1
    rw [if_neg c1] at h'
    exact h.trans h'.symm
def zF2 (t t' : zMI) : Prop := ∀ k, k < 19 ∨ 37 ≤ k → t' k = t k
theorem zF2.rf {t : zMI} : zF2 t t := fun _ _ => rfl
theorem zF2.tr {t t' t'' : zMI} (h : zF2 t t') (h' : zF2 t' t'') : zF2 t t'' := fun k hk => (h' k hk).trans (h k hk)
theorem zF2.a {t t' : zMI} (h : zFr 19 t t') : zF2 t t' := fun k hk => h k (by omega)
theorem zF2.b {t t' : zMI} (h : zFr 28 t t') : zF2 t t' := fun k hk => h k (by omega)
theorem zF2.g {t t' : zMI} (h : zF2 t t') : zFg t t' := fun k _ h2 _ => h k (by omega)
theorem gGr_rng (g : zG) (hd : Int) (hs : ∀ n, glp g hd n → gsc (gput g (n / 2) (n % 2)) ≤ 24 ∧ 0 ≤ gsc (gput g (n / 2) (n % 2))) : ∀ n, 0 ≤ gGr g hd n ∧ gGr g hd n ≤ 24
  | 0 => by unfold gGr; omega
  | n + 1 => by
    have := gGr_rng g hd hs n
    unfold gGr
    split
    · rename_i c
      have := hs n c
      split <;> omega
    · exact this
theorem gsc_put {g : zG} (h : gOK g) (ho : gO g = 0) {hd : Int} (hd0 : hd = 0 ∨ hd = 1) {n : Nat} (hp : glp g hd n) : gsc (gput g (n / 2) (n % 2)) ≤ 24 ∧ 0 ≤ gsc (gput g (n / 2) (n % 2)) := by
  have := gsc_rng (gput_wf h.1 (s := n / 2) (f := n % 2) hp.1 (by omega) (gpl_none (glp_free h.2 hd0 hp)) ho)
  omega
theorem glay_OK {g : zG} (h : gOK g) (ho : gO g = 0) {hd : Int} (hd0 : hd = 0 ∨ hd = 1) {n : Nat} (hp : glp g hd n) : gOK (glay g (n / 2) (n % 2)) :=
  ⟨glay_wf h.1 hp.1 (by omega) (glp_free h.2 hd0 hp) ho, glay_wh h.2⟩
theorem gWo_rng {g : zG} (h : gOK g) (ho : gO g = 0) {hd : Int} (hd0 : hd = 0 ∨ hd = 1) {n : Nat} (hp : glp g hd n) : -24 ≤ gWo g hd n ∧ gWo g hd n ≤ 24 := by
  have h1 := gsc_put h ho hd0 hp
  have h2 := gGr_rng (glay g (n / 2) (n % 2)) (1 - hd) (fun m hm => gsc_put (glay_OK h ho hd0 hp) (by rw [glay_O]; exact ho) (by omega) hm) 24
  unfold gWo
  omega
theorem gBs_rng {g : zG} (h : gOK g) (ho : gO g = 0) {hd : Int} (hd0 : hd = 0 ∨ hd = 1) : ∀ n : Nat, ((gBs g hd n).1 = -4 ∨ (0 ≤ (gBs g hd n).1 ∧ (gBs g hd n).1 < n)) ∧ -24 ≤ (gBs g hd n).2 ∧ (gBs g hd n).2 ≤ 24
  | 0 => by unfold gBs; exact ⟨Or.inl rfl, by dsimp only; omega, by dsimp only; omega⟩
  | n + 1 => by
    have h1 := gBs_rng h ho hd0 n
    unfold gBs
    split
    · rename_i c
      have h2 := gWo_rng h ho hd0 c
      split
      · exact ⟨Or.inr (by dsimp only; omega), h2.1, h2.2⟩
      · exact ⟨by omega, h1.2⟩
    · exact ⟨by omega, h1.2⟩
section
variable {d : Nat} {t : zMI} {g : zG} {sh : gSh} {K : Int → zMI → Prop} {Kv : zMI → Prop}
theorem s_worthOf {hd a : Int} {n : Nat} (h : zTB 1 t g) (hg : gOK g) (ho : gO g = 0) (hd0 : hd = 0 ∨ hd = 1) (ha : a = (n : Int)) (hn : n < 24) (hp : glp g hd n) (k : ∀ t', zF2 t t' → K (gWo g hd n) t') : ZX (d + 5) 101 0 [(0, .ref 0), (1, .int (zi hd)), (2, .int (zi a))] [] t (zKi K) := by
  subst ha
  have e1 : (n : Int).tdiv 2 = ((n / 2 : Nat) : Int) := (Int.ofNat_tdiv n 2).symm
  have e2 : (n : Int).tmod 2 = ((n % 2 : Nat) : Int) := (Int.ofNat_tmod n 2).symm
  have hfree := glp_free hg.2 hd0 hp
  have hT := zT19
  refine z_aload_n zi_101_0 rfl ?_
  refine z_getfield zi_101_1 rfl ?_
  refine z_aload_n zi_101_2 rfl ?_
  refine z_getfield zi_101_3 rfl ?_
  refine z_cv1v zi_101_4 rfl (zt_c hT) ⟨rfl, Nat.le_of_ble_eq_true rfl, Nat.le_of_ble_eq_true rfl⟩ (s_copyFrom zT19 zT1 (by omega) h hg.1 (fun t1 h1 f1 => ?_))
  refine z_aload_n zi_101_5 rfl ?_
  refine z_getfield zi_101_6 rfl ?_
  refine z_iload_n zi_101_7 rfl ?_
  refine z_iconst zi_101_8 ?_
  refine z_idiv zi_101_9 (by omega) ?_
  rw [e1]
  refine z_iload_n zi_101_10 rfl ?_
  refine z_iconst zi_101_11 ?_
  refine z_irem zi_101_12 (by omega) ?_
  rw [e2]
  refine z_cv2i zi_101_13 rfl rfl (zt_c hT) ⟨rfl, Nat.le_of_ble_eq_true rfl, Nat.le_of_ble_eq_true rfl⟩ (s_layDown (s := n / 2) (f := n % 2) zT19 h1 hg.1 rfl hp.1 rfl (by omega) hfree ho (fun t2 h2 f2 => ?_))
  have hg2 := glay_OK hg ho hd0 hp
  have ho2 : gO (glay g (n / 2) (n % 2)) = 0 := by rw [glay_O]; exact ho
  have hd1 : 1 - hd = 0 ∨ 1 - hd = 1 := by omega
  have eW : gWo g hd n = gsc (gput g (n / 2) (n % 2)) - gGr (glay g (n / 2) (n % 2)) (1 - hd) 24 := rfl
  have hsc := gsc_put hg ho hd0 hp
  rw [eW] at k
  generalize gsc (gput g (n / 2) (n % 2)) = sc at k hsc ⊢
  generalize glay g (n / 2) (n % 2) = g2 at k h2 hg2 ho2 ⊢
  have loop : ∀ (j i : Nat) (t' : zMI), i + j = 24 → zTB 19 t' g2 → zF2 t t' → ZX (d + 5) 101 19 [(5, .int (zi i)), (4, .int (zi (gGr g2 (1 - hd) i))), (3, .int (zi sc)), (0, .ref 0), (1, .int (zi hd))] [] t' (zKi K) := by
    intro j
    induction j with
    | zero =>
      intro i t' e h' f'
      have e1 : i = 24 := by omega
      subst e1
      have hr := gGr_rng g2 (1 - hd) (fun m hm => gsc_put hg2 ho2 hd1 hm) 24
      refine z_iload zi_101_19 rfl ?_
      refine z_bipush zi_101_20 (by decide) ?_
      refine z_icmp_ge_t zi_101_21 (by omega) (by omega) ?_
      refine z_iload_n zi_101_49 rfl ?_
      refine z_iload zi_101_50 rfl ?_
      refine z_isub zi_101_51 ?_
      refine z_ireturn zi_101_52 rfl (k t' f')
    | succ j ih =>
      intro i t' e h' f'
      have hr := gGr_rng g2 (1 - hd) (fun m hm => gsc_put hg2 ho2 hd1 hm) i
      refine z_iload zi_101_19 rfl ?_
      refine z_bipush zi_101_20 (by decide) ?_
      refine z_icmp_ge_f zi_101_21 (by omega) (by omega) ?_
      refine z_aload_n zi_101_22 rfl ?_
      refine z_getfield zi_101_23 rfl ?_
      refine z_iconst zi_101_24 ?_
      refine z_iload_n zi_101_25 rfl ?_
      refine z_isub zi_101_26 ?_
      refine z_iload zi_101_27 rfl ?_
      refine z_cv2i zi_101_28 rfl rfl (zt_c hT) ⟨rfl, Nat.le_of_ble_eq_true rfl, Nat.le_of_ble_eq_true rfl⟩ (s_mayLay (n := i) zT19 h' hg2.1 hd1 rfl (by omega) (fun q1 q2 q3 => ?_) (fun q => ?_))
      · have hpi : glp g2 (1 - hd) i := ⟨q1, q2, q3⟩
        have hfi := glp_free hg2.2 hd1 hpi
        have hsi := gsc_put hg2 ho2 hd1 hpi
        have e3 : (i : Int).tdiv 2 = ((i / 2 : Nat) : Int) := (Int.ofNat_tdiv i 2).symm
        have e4 : (i : Int).tmod 2 = ((i % 2 : Nat) : Int) := (Int.ofNat_tmod i 2).symm
        have e5 : gGr g2 (1 - hd) (i + 1) = (if gGr g2 (1 - hd) i < gsc (gput g2 (i / 2) (i % 2)) then gsc (gput g2 (i / 2) (i % 2)) else gGr g2 (1 - hd) i) := by
          show (if glp g2 (1 - hd) i then _ else _) = _
          rw [if_pos hpi]
        refine z_if_eq_f zi_101_29 (by omega) (by omega) ?_
        refine z_aload_n zi_101_30 rfl ?_
        refine z_getfield zi_101_31 rfl ?_
        refine z_aload_n zi_101_32 rfl ?_
        refine z_getfield zi_101_33 rfl ?_
        refine z_cv1v zi_101_34 rfl (zt_c zT28) ⟨rfl, Nat.le_of_ble_eq_true rfl, Nat.le_of_ble_eq_true rfl⟩ (s_copyFrom zT28 zT19 (by omega) h' hg2.1 (fun t3 h3 f3 => ?_))
        have h3' : zTB 19 t3 g2 := zTB_congr h' (fun q _ _ => f3 q (by omega))
        refine z_iload zi_101_35 rfl ?_
        refine z_aload_n zi_101_36 rfl ?_
        refine z_getfield zi_101_37 rfl ?_
        refine z_iload zi_101_38 rfl ?_
        refine z_iconst zi_101_39 ?_
        refine z_idiv zi_101_40 (by omega) ?_
        rw [e3]
        refine z_iload zi_101_41 rfl ?_
        refine z_iconst zi_101_42 ?_
        refine z_irem zi_101_43 (by omega) ?_
        rw [e4]
        refine z_cv2i zi_101_44 rfl rfl (zt_c zT28) ⟨rfl, Nat.le_of_ble_eq_true rfl, Nat.le_of_ble_eq_true rfl⟩ (s_layDown (s := i / 2) (f := i % 2) zT28 h3 hg2.1 rfl q1 rfl (by omega) hfi ho2 (fun t4 h4 f4 => ?_))
        have h4' : zTB 19 t4 g2 := zTB_congr h3' (fun q _ _ => f4 q (by omega))
        refine z_cs2i zi_101_45 rfl rfl ⟨by decide, rfl, Nat.le_of_ble_eq_true rfl, Nat.le_of_ble_eq_true rfl⟩ (s_max (by omega) ?_)
        refine z_istore zi_101_46 rfl ?_
        refine z_iinc zi_101_47 rfl rfl ?_
        refine z_goto zi_101_48 ?_
        rw [← e5]
        refine z_loc (lv' := [(5, .int (zi ((i + 1 : Nat) : Int))), (4, .int (zi (gGr g2 (1 - hd) (i + 1)))), (3, .int (zi sc)), (0, .ref 0), (1, .int (zi hd))]) rfl ?_
        exact ih (i + 1) t4 (by omega) h4' ((f'.tr (zF2.b f3)).tr (zF2.b f4))
      · have e5 : gGr g2 (1 - hd) (i + 1) = gGr g2 (1 - hd) i := by
          show (if glp g2 (1 - hd) i then _ else _) = _
          rw [if_neg (show ¬ glp g2 (1 - hd) i from q)]
        refine z_if_eq_t zi_101_29 (by omega) (by omega) ?_
        refine z_iinc zi_101_47 rfl rfl ?_
        refine z_goto zi_101_48 ?_
        refine z_loc (lv' := [(5, .int (zi ((i + 1 : Nat) : Int))), (4, .int (zi (gGr g2 (1 - hd) i))), (3, .int (zi sc)), (0, .ref 0), (1, .int (zi hd))]) rfl ?_
        rw [← e5]
        exact ih (i + 1) t' (by omega) h' f'
  refine z_istore_n zi_101_14 rfl ?_
  refine z_iconst zi_101_15 ?_
  refine z_istore zi_101_16 rfl ?_
  refine z_iconst zi_101_17 ?_
  refine z_istore zi_101_18 rfl ?_
  refine z_loc (lv' := [(5, .int (zi ((0 : Nat) : Int))), (4, .int (zi (gGr g2 (1 - hd) 0))), (3, .int (zi sc)), (0, .ref 0), (1, .int (zi hd))]) rfl ?_
  exact loop 24 0 t2 (by omega) h2 ((zF2.a f1).tr (zF2.a f2))
theorem s_best {hd w : Int} (h : zTB 1 t g) (hg : gOK g) (r1 : -2147483648 ≤ hd ∧ hd < 2147483648) (r2 : -2147483648 ≤ w ∧ w < 2147483648) (k : ∀ t', zF2 t t' → K (oBest g hd w) t') : ZX (d + 6) 81 0 [(0, .ref 0), (1, .int (zi hd)), (2, .int (zi w))] [] t (zKi K) := by
  have hT := zT1
  have ho := hg.1.o
  unfold oBest at k
  refine z_iload_n zi_81_0 rfl ?_
  refine z_cs1i zi_81_1 rfl ⟨by decide, rfl, Nat.le_of_ble_eq_true rfl, Nat.le_of_ble_eq_true rfl⟩ (s_isHand r1 (fun q1 => ?_) (fun q1 => ?_))
  · refine z_if_eq_f zi_81_2 (by omega) (by omega) ?_
    refine z_iload_n zi_81_3 rfl ?_
    refine z_iconst zi_81_4 ?_
    refine z_iconst zi_81_5 ?_
    refine z_cs3i zi_81_6 rfl rfl rfl ⟨by decide, rfl, Nat.le_of_ble_eq_true rfl, Nat.le_of_ble_eq_true rfl⟩ (s_within r2 (by omega) (by omega) (fun q2 => ?_) (fun q2 => ?_))
    · rw [if_pos ⟨q1, q2⟩] at k
      refine z_if_ne_t zi_81_7 (by omega) (by omega) ?_
      refine z_aload_n zi_81_10 rfl ?_
      refine z_getfield zi_81_11 rfl ?_
      refine z_cv0i zi_81_12  (zt_c hT) ⟨rfl, Nat.le_of_ble_eq_true rfl, Nat.le_of_ble_eq_true rfl⟩ (s_isRing hT h hg.1 ?_)
      refine z_if_eq zi_81_13 (by omega) (fun c => ?_) (fun c => ?_)
      · have ho0 : gO g = 0 := c
        have hd0 : hd = 0 ∨ hd = 1 := by omega
        rw [if_neg (by omega)] at k
        have loop : ∀ (j n : Nat) (t' : zMI) (x6 : Int), n + j = 24 → zF2 t t' → ZX (d + 6) 81 22 [(5, .int (zi n)), (4, .int (zi (gBs g hd n).2)), (3, .int (zi (gBs g hd n).1)), (0, .ref 0), (1, .int (zi hd)), (2, .int (zi w))] [] t' (zKi K) := by
          intro j
          induction j with
          | zero =>
            intro n t' x6 e f'
            have e1 : n = 24 := by omega
            subst e1
            have hr := gBs_rng hg ho0 hd0 24
            refine z_iload zi_81_22 rfl ?_
            refine z_bipush zi_81_23 (by decide) ?_
            refine z_icmp_ge_t zi_81_24 (by omega) (by omega) ?_
            refine z_iload_n zi_81_48 rfl ?_
            refine z_bipush zi_81_49 (by decide) ?_
            refine z_icmp_ne zi_81_50 (by omega) (fun c2 => ?_) (fun c2 => ?_)
            · rw [if_neg (by omega)] at k
              refine z_iload_n zi_81_53 rfl ?_
              refine z_if_ne zi_81_54 (by omega) (fun c3 => ?_) (fun c3 => ?_)
              · rw [if_neg (by omega)] at k
                refine z_iload_n zi_81_59 rfl ?_
                refine z_iconst zi_81_60 ?_
                refine z_icmp_ne zi_81_61 (by omega) (fun c4 => ?_) (fun c4 => ?_)
                · rw [if_neg (by omega)] at k
                  refine z_iload zi_81_66 rfl ?_
                  refine z_bipush zi_81_67 (by decide) ?_
                  refine z_iadd zi_81_68 ?_
                  refine z_ireturn zi_81_69 rfl (k t' f')
                · rw [if_pos (by omega)] at k
                  refine z_iload_n zi_81_62 rfl ?_
                  refine z_iconst zi_81_63 ?_
                  refine z_irem zi_81_64 (by omega) ?_
                  have e2 : (gBs g hd 24).1.tmod 2 = (gBs g hd 24).1 % 2 := Int.tmod_eq_emod_of_nonneg (by omega)
                  rw [e2]
                  refine z_goto zi_81_65 ?_
                  refine z_ireturn zi_81_69 rfl (k t' f')
              · rw [if_pos (by omega)] at k
                refine z_iload_n zi_81_55 rfl ?_
                refine z_iconst zi_81_56 ?_
                refine z_idiv zi_81_57 (by omega) ?_
                have e2 : (gBs g hd 24).1.tdiv 2 = (gBs g hd 24).1 / 2 := Int.tdiv_eq_ediv_of_nonneg (by omega)
                rw [e2]
                refine z_goto zi_81_58 ?_
                refine z_ireturn zi_81_69 rfl (k t' f')
            · rw [if_pos (by omega)] at k
              refine z_bipush zi_81_51 (by decide) ?_
              refine z_ireturn zi_81_52 rfl (k t' f')
          | succ j ih =>
            intro n t' x6 e f'
            have hr := gBs_rng hg ho0 hd0 n
            have h' : zTB 1 t' g := zTB_congr h (fun q _ _ => f' q (by omega))
            refine z_iload zi_81_22 rfl ?_
            refine z_bipush zi_81_23 (by decide) ?_
            refine z_icmp_ge_f zi_81_24 (by omega) (by omega) ?_
            refine z_aload_n zi_81_25 rfl ?_
            refine z_getfield zi_81_26 rfl ?_
            refine z_iload_n zi_81_27 rfl ?_
            refine z_iload zi_81_28 rfl ?_
            refine z_cv2i zi_81_29 rfl rfl (zt_c hT) ⟨rfl, Nat.le_of_ble_eq_true rfl, Nat.le_of_ble_eq_true rfl⟩ (s_mayLay (n := n) hT h' hg.1 hd0 rfl (by omega) (fun q3 q4 q5 => ?_) (fun q => ?_))
            · have hp : glp g hd n := ⟨q3, q4, q5⟩
              have hwr := gWo_rng hg ho0 hd0 hp
              refine z_if_eq_f zi_81_30 (by omega) (by omega) ?_
              refine z_aload_n zi_81_31 rfl ?_
              refine z_iload_n zi_81_32 rfl ?_
              refine z_iload zi_81_33 rfl ?_
              refine z_cv2i zi_81_34 rfl rfl rfl ⟨rfl, Nat.le_of_ble_eq_true rfl, Nat.le_of_ble_eq_true rfl⟩ (s_worthOf (n := n) h' hg ho0 hd0 rfl (by omega) hp (fun t3 f3 => ?_))
              refine z_istore zi_81_35 rfl ?_
              refine z_iload_n zi_81_36 rfl ?_
              refine z_bipush zi_81_37 (by decide) ?_
              have take : (gBs g hd n).1 = -4 ∨ (gBs g hd n).2 < gWo g hd n → gBs g hd (n + 1) = ((n : Int), gWo g hd n) := fun z => by
                show (if glp g hd n then _ else _) = _
                rw [if_pos hp, if_pos z]
              have leave : ¬ ((gBs g hd n).1 = -4 ∨ (gBs g hd n).2 < gWo g hd n) → gBs g hd (n + 1) = gBs g hd n := fun z => by
                show (if glp g hd n then _ else _) = _
                rw [if_pos hp, if_neg z]
              refine z_icmp_eq zi_81_38 (by omega) (fun c2 => ?_) (fun c2 => ?_)
              · have e3 := take (Or.inl c2)
                refine z_iload zi_81_42 rfl ?_
                refine z_istore_n zi_81_43 rfl ?_
                refine z_iload zi_81_44 rfl ?_
                refine z_istore zi_81_45 rfl ?_
                refine z_iinc zi_81_46 rfl rfl ?_
                refine z_goto zi_81_47 ?_
                refine z_loc (lv' := [(5, .int (zi ((n + 1 : Nat) : Int))), (4, .int (zi (gWo g hd n))), (3, .int (zi n)), (0, .ref 0), (1, .int (zi hd)), (2, .int (zi w))]) rfl ?_
                refine z_lv (lv' := [(5, .int (zi ((n + 1 : Nat) : Int))), (4, .int (zi (gBs g hd (n + 1)).2)), (3, .int (zi (gBs g hd (n + 1)).1)), (0, .ref 0), (1, .int (zi hd)), (2, .int (zi w))]) (by rw [e3]) ?_
                exact ih (n + 1) t3 0 (by omega) (f'.tr f3)
              · refine z_iload zi_81_39 rfl ?_
                refine z_iload zi_81_40 rfl ?_
                refine z_icmp_le zi_81_41 (by omega) (fun c3 => ?_) (fun c3 => ?_)
                · have e3 := leave (by omega)
                  refine z_iinc zi_81_46 rfl rfl ?_
                  refine z_goto zi_81_47 ?_
                  refine z_loc (lv' := [(5, .int (zi ((n + 1 : Nat) : Int))), (4, .int (zi (gBs g hd n).2)), (3, .int (zi (gBs g hd n).1)), (0, .ref 0), (1, .int (zi hd)), (2, .int (zi w))]) rfl ?_
                  rw [← e3]
                  exact ih (n + 1) t3 0 (by omega) (f'.tr f3)
                · have e3 := take (Or.inr (by omega))
                  refine z_iload zi_81_42 rfl ?_
                  refine z_istore_n zi_81_43 rfl ?_
                  refine z_iload zi_81_44 rfl ?_
                  refine z_istore zi_81_45 rfl ?_
                  refine z_iinc zi_81_46 rfl rfl ?_
                  refine z_goto zi_81_47 ?_
                  refine z_loc (lv' := [(5, .int (zi ((n + 1 : Nat) : Int))), (4, .int (zi (gWo g hd n))), (3, .int (zi n)), (0, .ref 0), (1, .int (zi hd)), (2, .int (zi w))]) rfl ?_
                  refine z_lv (lv' := [(5, .int (zi ((n + 1 : Nat) : Int))), (4, .int (zi (gBs g hd (n + 1)).2)), (3, .int (zi (gBs g hd (n + 1)).1)), (0, .ref 0), (1, .int (zi hd)), (2, .int (zi w))]) (by rw [e3]) ?_
                  exact ih (n + 1) t3 0 (by omega) (f'.tr f3)
            · have e3 : gBs g hd (n + 1) = gBs g hd n := by
                show (if glp g hd n then _ else _) = _
                rw [if_neg (show ¬ glp g hd n from q)]
              refine z_if_eq_t zi_81_30 (by omega) (by omega) ?_
              refine z_iinc zi_81_46 rfl rfl ?_
              refine z_goto zi_81_47 ?_
              refine z_loc (lv' := [(5, .int (zi ((n + 1 : Nat) : Int))), (4, .int (zi (gBs g hd n).2)), (3, .int (zi (gBs g hd n).1)), (0, .ref 0), (1, .int (zi hd)), (2, .int (zi w))]) rfl ?_
              rw [← e3]
              exact ih (n + 1) t' 0 (by omega) f'
        refine z_bipush zi_81_16 (by decide) ?_
        refine z_istore_n zi_81_17 rfl ?_
        refine z_iconst zi_81_18 ?_
        refine z_istore zi_81_19 rfl ?_
        refine z_iconst zi_81_20 ?_
        refine z_istore zi_81_21 rfl ?_
        refine z_loc (lv' := [(5, .int (zi ((0 : Nat) : Int))), (4, .int (zi (gBs g hd 0).2)), (3, .int (zi (gBs g hd 0).1)), (0, .ref 0), (1, .int (zi hd)), (2, .int (zi w))]) rfl ?_
        exact loop 24 0 t 0 (by omega) zF2.rf
      · rw [if_pos (by omega)] at k
        refine z_bipush zi_81_14 (by decide) ?_
        refine z_ireturn zi_81_15 rfl (k t zF2.rf)
    · rw [if_neg (fun z => q2 z.2)] at k
      refine z_if_ne_f zi_81_7 (by omega) (by omega) ?_
      refine z_iconst zi_81_8 ?_
      refine z_ireturn zi_81_9 rfl (k t zF2.rf)
  · rw [if_neg (fun z => q1 z.1)] at k
    refine z_if_eq_t zi_81_2 (by omega) (by omega) ?_
    refine z_iconst zi_81_8 ?_
    refine z_ireturn zi_81_9 rfl (k t zF2.rf)
theorem s_firstThatMayNot {a b : Int} {m fr n : Nat} {st ft : Nat → Nat} (h : zTB 1 t g) (hg : gOK g) (hs : zSC t sh) (hm : m < 4) (ha : a = (fr : Int)) (hb : b = (n : Int)) (hfr : fr + 2 * n ≤ 24) (hn12 : n ≤ 12)
    (hst : ∀ i, i < n → sh.2.2 m (fr + 2 * i) = (st i : Int) ∧ st i < gN g) (hft : ∀ i, i < n → sh.2.2 m (fr + 2 * i + 1) = (ft i : Int) ∧ ft i < 2)
    (kS : ∀ i t', i < n → gbad g st ft i → (∀ j, j < i → ¬ gbad g st ft j) → zF2 t t' → K i t') (kN : ∀ t', (∀ i, i < n → ¬ gbad g st ft i) → zF2 t t' → K (-4) t') : ZX (d + 5) 102 0 [(0, .ref 0), (1, .ref (40 + 2 * m)), (2, .int (zi a)), (3, .int (zi b))] [] t (zKi K) := by
  subst ha hb
  have hT := zT19
  have hn := hg.1.n
  have hS := zShO hm
  have loop : ∀ (j i : Nat) (t' : zMI) (g' : zG), i + j = n → zTB 19 t' g' → gOK g' → gO g' = 0 → gN g' = gN g → gT g' = gT g → gL g' = i → (∀ p, p < i → gR g' p = st p ∧ gF g' p = ft p) → (∀ q, q < i → ¬ gbad g st ft q) → zF2 t t' → ZX (d + 5) 102 13 [(4, .int (zi i)), (0, .ref 0), (1, .ref (40 + 2 * m)), (2, .int (zi fr)), (3, .int (zi n))] [] t' (zKi K) := by
    intro j
    induction j with
    | zero =>
      intro i t' g' e h' hg' ho' hN hTt hL hR hbad f'
      refine z_iload zi_102_13 rfl ?_
      refine z_iload_n zi_102_14 rfl ?_
      refine z_icmp_ge_t zi_102_15 (by omega) (by omega) ?_
      refine z_bipush zi_102_55 (by decide) ?_
      refine z_ireturn zi_102_56 rfl (kN t' (fun q hq => hbad q (by omega)) f')
    | succ j ih =>
      intro i t' g' e h' hg' ho' hN hTt hL hR hbad f'
      have hs' : zSC t' sh := fun q hq => by
        have := hs q hq
        rw [f' (40 + 2 * q) (by omega), f' (40 + 2 * q + 1) (by omega)]
        exact this
      have h1 := hst i (by omega)
      have h2 := hft i (by omega)
      refine z_iload zi_102_13 rfl ?_
      refine z_iload_n zi_102_14 rfl ?_
      refine z_icmp_ge_f zi_102_15 (by omega) (by omega) ?_
      refine z_aload_n zi_102_16 rfl ?_
      refine z_iload_n zi_102_17 rfl ?_
      refine z_iconst zi_102_18 ?_
      refine z_iload zi_102_19 rfl ?_
      refine z_imul zi_102_20 ?_
      refine z_iadd zi_102_21 ?_
      refine z_cv1i zi_102_22 rfl (zsh_c hS) ⟨rfl, Nat.le_of_ble_eq_true rfl, Nat.le_of_ble_eq_true rfl⟩ (s_itemAt (n := m) (i := fr + 2 * i) hs' hm (by omega) (by omega) ?_)
      rw [h1.1]
      refine z_istore zi_102_23 rfl ?_
      refine z_aload_n zi_102_24 rfl ?_
      refine z_iload_n zi_102_25 rfl ?_
      refine z_iconst zi_102_26 ?_
      refine z_iload zi_102_27 rfl ?_
      refine z_imul zi_102_28 ?_
      refine z_iadd zi_102_29 ?_
      refine z_iconst zi_102_30 ?_
      refine z_iadd zi_102_31 ?_
      refine z_cv1i zi_102_32 rfl (zsh_c hS) ⟨rfl, Nat.le_of_ble_eq_true rfl, Nat.le_of_ble_eq_true rfl⟩ (s_itemAt (n := m) (i := fr + 2 * i + 1) hs' hm (by omega) (by omega) ?_)
      rw [h2.1]
      refine z_istore zi_102_33 rfl ?_
      refine z_aload_n zi_102_34 rfl ?_
      refine z_getfield zi_102_35 rfl ?_
      refine z_iload zi_102_36 rfl ?_
      refine z_cv1i zi_102_37 rfl (zt_c hT) ⟨rfl, Nat.le_of_ble_eq_true rfl, Nat.le_of_ble_eq_true rfl⟩ (s_isLaid (s := st i) zT19 h' hg'.1 rfl (by omega) (fun p q => ?_) (fun q => ?_))
      · obtain ⟨p1, p2⟩ := gP_some q
        refine z_if_ne_t zi_102_38 (by omega) (by omega) ?_
        refine z_iload zi_102_45 rfl ?_
        refine z_ireturn zi_102_46 rfl (kS i t' (by omega) (Or.inl ⟨p, by omega, ?_⟩) hbad f')
        rw [← (hR p (by omega)).1, p2]
      · have hno := gpl_none q
        have hno' : ¬ ∃ j, j < i ∧ st j = st i := fun ⟨j, j1, j2⟩ => hno j (by omega) (by rw [(hR j j1).1, j2])
        refine z_if_ne_f zi_102_38 (by omega) (by omega) ?_
        refine z_aload_n zi_102_39 rfl ?_
        refine z_getfield zi_102_40 rfl ?_
        refine z_iload zi_102_41 rfl ?_
        refine z_iload zi_102_42 rfl ?_
        refine z_cv2i zi_102_43 rfl rfl (zt_c hT) ⟨rfl, Nat.le_of_ble_eq_true rfl, Nat.le_of_ble_eq_true rfl⟩ (s_fits (s := st i) (f := ft i) zT19 h' hg'.1 rfl (by omega) rfl h2.2 (fun z => ?_) (fun z => ?_))
        · have hnb : ¬ gbad g st ft i := by
            rintro (y | ⟨y1, y2⟩)
            · exact hno' y
            · rcases z with z | z
              · omega
              · rw [hTt, hL, (hR (i - 1) (by omega)).1, (hR (i - 1) (by omega)).2] at z
                exact y2 z
          refine z_if_ne_t zi_102_44 (by omega) (by omega) ?_
          refine z_aload_n zi_102_47 rfl ?_
          refine z_getfield zi_102_48 rfl ?_
          refine z_iload zi_102_49 rfl ?_
          refine z_iload zi_102_50 rfl ?_
          refine z_cv2i zi_102_51 rfl rfl (zt_c hT) ⟨rfl, Nat.le_of_ble_eq_true rfl, Nat.le_of_ble_eq_true rfl⟩ (s_layDown (s := st i) (f := ft i) zT19 h' hg'.1 rfl (by omega) rfl h2.2 q ho' (fun t2 g2 f2 => ?_))
          refine z_pop zi_102_52 rfl ?_
          refine z_iinc zi_102_53 rfl rfl ?_
          refine z_goto zi_102_54 ?_
          refine z_loc (lv' := [(4, .int (zi ((i + 1 : Nat) : Int))), (0, .ref 0), (1, .ref (40 + 2 * m)), (2, .int (zi fr)), (3, .int (zi n))]) rfl ?_
          refine ih (i + 1) t2 _ (by omega) g2 ⟨glay_wf hg'.1 (by omega) h2.2 q ho', glay_wh hg'.2⟩ (by rw [glay_O]; exact ho') (by rw [glay_N]; exact hN) ?_ (by rw [glay_L]; omega) (fun p hp => ?_) (fun q' hq' => ?_) (f'.tr (zF2.a f2))
          · have e5 : gT (glay g' (st i) (ft i)) = gT g' := by
              show gT (gpre g') = _
              unfold gpre
              split
              · rfl
              · split <;> rfl
            rw [e5, hTt]
          · have e5 : gF (gpre g') = gF g' := by
              unfold gpre
              split
              · rfl
              · split <;> rfl
            show fupN (gR (gpre g')) (gL (gpre g')) (st i) p = _ ∧ fupN (gF (gpre g')) (gL (gpre g')) (ft i) p = _
            rw [gpre_R, gpre_L, e5, hL]
            unfold fupN
            by_cases z3 : p = i
            · rw [if_pos z3, if_pos z3, z3]
              exact ⟨rfl, rfl⟩
            · rw [if_neg z3, if_neg z3]
              exact hR p (by omega)
          · rcases (by omega : q' < i ∨ q' = i) with z3 | z3
            · exact hbad q' z3
            · rw [z3]; exact hnb
        · refine z_if_ne_f zi_102_44 (by omega) (by omega) ?_
          refine z_iload zi_102_45 rfl ?_
          refine z_ireturn zi_102_46 rfl (kS i t' (by omega) (Or.inr ?_) hbad f')
          have hi0 : 0 < i := by
            rcases Nat.eq_zero_or_pos i with y | y
            · exact absurd (Or.inl (by omega)) z
            · exact y
          refine ⟨hi0, fun y => z (Or.inr ?_)⟩
          rw [hTt, hL, (hR (i - 1) (by omega)).1, (hR (i - 1) (by omega)).2]
          exact y
  refine z_aload_n zi_102_0 rfl ?_
  refine z_getfield zi_102_1 rfl ?_
  refine z_aload_n zi_102_2 rfl ?_
  refine z_getfield zi_102_3 rfl ?_
  refine z_cv1v zi_102_4 rfl (zt_c hT) ⟨rfl, Nat.le_of_ble_eq_true rfl, Nat.le_of_ble_eq_true rfl⟩ (s_copyFrom zT19 zT1 (by omega) h hg.1 (fun t1 h1 f1 => ?_))
  refine z_aload_n zi_102_5 rfl ?_
  refine z_getfield zi_102_6 rfl ?_
  refine z_aload_n zi_102_7 rfl ?_
  refine z_getfield zi_102_8 rfl ?_
  refine z_cv0i zi_102_9  (zt_c hT) ⟨rfl, Nat.le_of_ble_eq_true rfl, Nat.le_of_ble_eq_true rfl⟩ (s_trainLength zT19 h1 ?_)
  refine z_cv1v zi_102_10 rfl (zt_c hT) ⟨rfl, Nat.le_of_ble_eq_true rfl, Nat.le_of_ble_eq_true rfl⟩ (s_liftLast (n := gL g) zT19 h1 hg.1 hg.2 rfl (by omega) (fun t2 h2 f2 => ?_))
  refine z_iconst zi_102_11 ?_
  refine z_istore zi_102_12 rfl ?_
  refine z_loc (lv' := [(4, .int (zi ((0 : Nat) : Int))), (0, .ref 0), (1, .ref (40 + 2 * m)), (2, .int (zi fr)), (3, .int (zi n))]) rfl ?_
  exact loop n 0 t2 (gtake g (gL g)) (by omega) h2 (gtake_ok hg _) rfl rfl rfl (Nat.sub_self _) (fun p hp => by omega) (fun q hq => by omega) ((zF2.a f1).tr (zF2.a f2))
theorem s_judged {s lane fr n : Int} (h : zTB 1 t g) (hg : gOK g) (hs : zSC t sh) (hw : gShW sh) (r1 : -2147483648 ≤ s ∧ s < 2147483648) (r2 : -2147483648 ≤ lane ∧ lane < 2147483648) (r3 : -2147483648 ≤ fr ∧ fr < 2147483648) (r4 : -2147483648 ≤ n ∧ n < 2147483648) (k : ∀ v t', oJudged g sh s lane fr n v → zF2 t t' → K v t') : ZX (d + 6) 87 0 [(0, .ref 0), (1, .int (zi s)), (2, .int (zi lane)), (3, .int (zi fr)), (4, .int (zi n))] [] t (zKi K) := by
  have hT := zT1
  have hn := hg.1.n
  have bad : ¬ ((0 ≤ s ∧ s < 4) ∧ (0 ≤ lane ∧ lane ≤ 2) ∧ (1 ≤ n ∧ n ≤ 12)) → K (-1) t := fun q => k (-1) t (by unfold oJudged; rw [if_neg q]) zF2.rf
  refine z_aload_n zi_87_0 rfl ?_
  refine z_iload_n zi_87_1 rfl ?_
  refine z_cv1r zi_87_2 rfl rfl ⟨rfl, Nat.le_of_ble_eq_true rfl, Nat.le_of_ble_eq_true rfl⟩ (s_sheetAt r1 (fun m em hm => ?_) (fun q => ?_))
  · have hS := zShO hm
    have em2 : s.toNat = m := by omega
    show ZX _ _ _ _ [.ref (40 + 2 * m)] _ _
    refine z_astore zi_87_3 rfl ?_
    refine z_aload zi_87_4 rfl ?_
    refine z_ifnull_R zi_87_5 ?_
    refine z_iload_n zi_87_6 rfl ?_
    refine z_cs1i zi_87_7 rfl ⟨by decide, rfl, Nat.le_of_ble_eq_true rfl, Nat.le_of_ble_eq_true rfl⟩ (s_isLane r2 (fun q2 => ?_) (fun q2 => ?_))
    · refine z_if_eq_f zi_87_8 (by omega) (by omega) ?_
      refine z_iload zi_87_9 rfl ?_
      refine z_iconst zi_87_10 ?_
      refine z_bipush zi_87_11 (by decide) ?_
      refine z_cs3i zi_87_12 rfl rfl rfl ⟨by decide, rfl, Nat.le_of_ble_eq_true rfl, Nat.le_of_ble_eq_true rfl⟩ (s_within r4 (by omega) (by omega) (fun q3 => ?_) (fun q3 => ?_))
      · have hin : (0 ≤ s ∧ s < 4) ∧ (0 ≤ lane ∧ lane ≤ 2) ∧ (1 ≤ n ∧ n ≤ 12) := ⟨by omega, q2, q3⟩
        refine z_if_ne_t zi_87_13 (by omega) (by omega) ?_
        refine z_aload zi_87_16 rfl ?_
        refine z_iload_n zi_87_17 rfl ?_
        refine z_iload_n zi_87_18 rfl ?_
        refine z_iconst zi_87_19 ?_
        refine z_iload zi_87_20 rfl ?_
        refine z_imul zi_87_21 ?_
        refine z_cv3i zi_87_22 rfl rfl rfl (zsh_c hS) ⟨rfl, Nat.le_of_ble_eq_true rfl, Nat.le_of_ble_eq_true rfl⟩ (s_refusalOf (n := m) hs hw hm r2 r3 (by omega) ?_)
        have hgl : -20 ≤ gLack sh m lane fr (2 * n) ∧ gLack sh m lane fr (2 * n) ≤ 0 := by
          unfold gLack
          split
          · omega
          · split
            · omega
            · split <;> omega
        refine z_istore zi_87_23 rfl ?_
        refine z_iload zi_87_24 rfl ?_
        refine z_if_eq zi_87_25 (by omega) (fun c => ?_) (fun c => ?_)
        · obtain ⟨g1, g2, g3, g4⟩ := gLack_0 c
          obtain ⟨w1, w2, w3⟩ := hw m hm
          have chk : ∀ (j i : Nat), (i + j : Int) = n → (∀ i', i' < i → (0 ≤ sh.2.2 m (fr.toNat + 2 * i') ∧ sh.2.2 m (fr.toNat + 2 * i') < gN g) ∧ (0 ≤ sh.2.2 m (fr.toNat + 2 * i' + 1) ∧ sh.2.2 m (fr.toNat + 2 * i' + 1) ≤ 1)) → ZX (d + 6) 87 30 [(7, .int (zi i)), (5, .ref (40 + 2 * m)), (0, .ref 0), (3, .int (zi fr)), (4, .int (zi n))] [] t (zKi K) := by
            intro j
            induction j with
            | zero =>
              intro i e hi
              have ei : i = n.toNat := by omega
              refine z_iload zi_87_30 rfl ?_
              refine z_iload zi_87_31 rfl ?_
              refine z_icmp_ge_t zi_87_32 (by omega) (by omega) ?_
              refine z_aload_n zi_87_59 rfl ?_
              refine z_aload zi_87_60 rfl ?_
              refine z_iload_n zi_87_61 rfl ?_
              refine z_iload zi_87_62 rfl ?_
              refine z_cv3i zi_87_63 rfl rfl rfl rfl ⟨rfl, Nat.le_of_ble_eq_true rfl, Nat.le_of_ble_eq_true rfl⟩ (s_firstThatMayNot (m := m) (fr := fr.toNat) (n := n.toNat) (st := fun k => (sh.2.2 m (fr.toNat + 2 * k)).toNat) (ft := fun k => (sh.2.2 m (fr.toNat + 2 * k + 1)).toNat) h hg hs hm (by omega) (by omega) (by omega) (by omega) (fun i' hi' => ?_) (fun i' hi' => ?_) (fun i' t' y1 y2 y3 y4 => ?_) (fun t' y1 y2 => ?_))
              · have := hi i' (by omega)
                omega
              · have := hi i' (by omega)
                omega
              · refine z_ireturn zi_87_64 rfl (k i' t' ?_ y4)
                unfold oJudged
                rw [if_pos hin, em2, if_neg (fun z => z c), if_pos (fun k' hk' => hi k' (by omega))]
                exact Or.inl ⟨i', rfl, y1, y2, y3⟩
              · refine z_ireturn zi_87_64 rfl (k (-4) t' ?_ y2)
                unfold oJudged
                rw [if_pos hin, em2, if_neg (fun z => z c), if_pos (fun k' hk' => hi k' (by omega))]
                exact Or.inr ⟨rfl, y1⟩
            | succ j ih =>
              intro i e hi
              have r5 := w3 (fr.toNat + 2 * i) (by omega)
              have r6 := w3 (fr.toNat + 2 * i + 1) (by omega)
              have no : ¬ ((0 ≤ sh.2.2 m (fr.toNat + 2 * i) ∧ sh.2.2 m (fr.toNat + 2 * i) < gN g) ∧ (0 ≤ sh.2.2 m (fr.toNat + 2 * i + 1) ∧ sh.2.2 m (fr.toNat + 2 * i + 1) ≤ 1)) → K (-2) t := fun q => by
                refine k (-2) t ?_ zF2.rf
                unfold oJudged
                rw [if_pos hin, em2, if_neg (fun z => z c), if_neg (fun z => q (z i (by omega)))]
              refine z_iload zi_87_30 rfl ?_
              refine z_iload zi_87_31 rfl ?_
              refine z_icmp_ge_f zi_87_32 (by omega) (by omega) ?_
              refine z_aload_n zi_87_33 rfl ?_
              refine z_getfield zi_87_34 rfl ?_
              refine z_aload zi_87_35 rfl ?_
              refine z_iload_n zi_87_36 rfl ?_
              refine z_iconst zi_87_37 ?_
              refine z_iload zi_87_38 rfl ?_
              refine z_imul zi_87_39 ?_
              refine z_iadd zi_87_40 ?_
              refine z_cv1i zi_87_41 rfl (zsh_c hS) ⟨rfl, Nat.le_of_ble_eq_true rfl, Nat.le_of_ble_eq_true rfl⟩ (s_itemAt (n := m) (i := fr.toNat + 2 * i) hs hm (by omega) (by omega) ?_)
              refine z_cv1i zi_87_42 rfl (zt_c hT) ⟨rfl, Nat.le_of_ble_eq_true rfl, Nat.le_of_ble_eq_true rfl⟩ (s_hasStone hT h hg.1 r5 (fun q4 => ?_) (fun q4 => ?_))
              · refine z_if_eq_f zi_87_43 (by omega) (by omega) ?_
                refine z_aload zi_87_44 rfl ?_
                refine z_iload_n zi_87_45 rfl ?_
                refine z_iconst zi_87_46 ?_
                refine z_iload zi_87_47 rfl ?_
                refine z_imul zi_87_48 ?_
                refine z_iadd zi_87_49 ?_
                refine z_iconst zi_87_50 ?_
                refine z_iadd zi_87_51 ?_
                refine z_cv1i zi_87_52 rfl (zsh_c hS) ⟨rfl, Nat.le_of_ble_eq_true rfl, Nat.le_of_ble_eq_true rfl⟩ (s_itemAt (n := m) (i := fr.toNat + 2 * i + 1) hs hm (by omega) (by omega) ?_)
                refine z_cs1i zi_87_53 rfl ⟨by decide, rfl, Nat.le_of_ble_eq_true rfl, Nat.le_of_ble_eq_true rfl⟩ (s_isWheel r6 (fun q5 => ?_) (fun q5 => ?_))
                · refine z_if_ne_t zi_87_54 (by omega) (by omega) ?_
                  refine z_iinc zi_87_57 rfl rfl ?_
                  refine z_goto zi_87_58 ?_
                  refine z_loc (lv' := [(7, .int (zi ((i + 1 : Nat) : Int))), (5, .ref (40 + 2 * m)), (0, .ref 0), (3, .int (zi fr)), (4, .int (zi n))]) rfl ?_
                  refine ih (i + 1) (by omega) (fun i' hi' => ?_)
                  rcases (by omega : i' < i ∨ i' = i) with z | z
                  · exact hi i' z
                  · rw [z]; exact ⟨q4, q5⟩
                · refine z_if_ne_f zi_87_54 (by omega) (by omega) ?_
                  refine z_bipush zi_87_55 (by decide) ?_
                  refine z_ireturn zi_87_56 rfl (no (fun z => q5 z.2))
              · refine z_if_eq_t zi_87_43 (by omega) (by omega) ?_
                refine z_bipush zi_87_55 (by decide) ?_
                refine z_ireturn zi_87_56 rfl (no (fun z => q4 z.1))
          refine z_iconst zi_87_28 ?_
          refine z_istore zi_87_29 rfl ?_
          refine z_loc (lv' := [(7, .int (zi ((0 : Nat) : Int))), (5, .ref (40 + 2 * m)), (0, .ref 0), (3, .int (zi fr)), (4, .int (zi n))]) rfl ?_
          exact chk n.toNat 0 (by omega) (fun i' hi' => by omega)
        · refine z_iload zi_87_26 rfl ?_
          refine z_ireturn zi_87_27 rfl (k _ t ?_ zF2.rf)
          unfold oJudged
          rw [if_pos hin, em2, if_pos c]
      · refine z_if_ne_f zi_87_13 (by omega) (by omega) ?_
        refine z_iconst zi_87_14 ?_
        refine z_ireturn zi_87_15 rfl (bad (fun z => q3 z.2.2))
    · refine z_if_eq_t zi_87_8 (by omega) (by omega) ?_
      refine z_iconst zi_87_14 ?_
      refine z_ireturn zi_87_15 rfl (bad (fun z => q2 z.2.1))
  · show ZX _ _ _ _ [.null] _ _
    refine z_astoreN zi_87_3 rfl ?_
    refine z_aloadN zi_87_4 rfl ?_
    refine z_ifnull_N zi_87_5 ?_
    refine z_iconst zi_87_14 ?_
    refine z_ireturn zi_87_15 rfl (bad (fun z => q z.1))
end
