/-! the class's orders -/
theorem gbit_lt {set N s : Nat} (hs : set < 2 ^ N) (h : gbit set s) : s < N := by
  rcases Nat.lt_or_ge s N with z | z
  · exact z
  · have h1 : set < 2 ^ s := Nat.lt_of_lt_of_le hs (Nat.pow_le_pow_right (by omega) z)
    unfold gbit at h
    rw [Nat.div_eq_of_lt h1] at h
    omega
theorem gel_len (set : Nat) : ∀ n, (gel set n).length ≤ n
  | 0 => Nat.le_refl _
  | n + 1 => by
    have := gel_len set n
    show (gel set n ++ _).length ≤ _
    rw [List.length_append]
    split
    · rw [List.length_singleton]; omega
    · rw [List.length_nil]; omega
theorem gPy_inv {g : zG} {row : Nat → Nat} {m : Nat} (hg : gOK g) (ho : gO g = 0) (hL : gL g = 0) (hr : gRow m (gN g) row) : ∀ i, i ≤ m → gOK (gPy g row i) ∧ gO (gPy g row i) = 0 ∧ gN (gPy g row i) = gN g ∧ gL (gPy g row i) = i ∧ (∀ p, p < i → gR (gPy g row i) p = row p)
  | 0, _ => ⟨hg, ho, rfl, hL, fun p hp => by omega⟩
  | i + 1, hi => by
    obtain ⟨h1, h2, h3, h4, h5⟩ := gPy_inv hg ho hL hr i (by omega)
    have hn : gP (gPy g row i) (row i) = none := gpl_of_none (fun p hp e => by
      rw [h4] at hp
      rw [h5 p hp] at e
      have := hr.2 p i (by omega) (by omega) e
      omega)
    have hb := hr.1 i (by omega)
    refine ⟨⟨glay_wf h1.1 (by omega) (by omega) hn h2, glay_wh h1.2⟩, by show gO (glay _ _ _) = 0; rw [glay_O]; exact h2, by show gN (glay _ _ _) = _; rw [glay_N]; exact h3, by show gL (glay _ _ _) = _; rw [glay_L]; omega, fun p hp => ?_⟩
    show fupN (gR (gpre (gPy g row i))) (gL (gpre (gPy g row i))) (row i) p = row p
    rw [gpre_R, gpre_L, h4]
    unfold fupN
    by_cases z : p = i
    · rw [if_pos z, z]
    · rw [if_neg z]
      exact h5 p (by omega)
def zF3 (t t' : zMI) : Prop := ∀ k, ¬ (19 ≤ k ∧ k < 37) → k ≠ 48 → k ≠ 49 → t' k = t k
theorem zF3.rf {t : zMI} : zF3 t t := fun _ _ _ _ => rfl
theorem zF3.tr {t t' t'' : zMI} (h : zF3 t t') (h' : zF3 t' t'') : zF3 t t'' := fun k a b c => (h' k a b c).trans (h k a b c)
theorem zF3.g {t t' : zMI} (h : zF3 t t') : zFg t t' := fun k _ h2 h3 => h k (by omega) (by omega) (by omega)
theorem zSC_congr {t t' : zMI} {sh : gSh} (h : zSC t sh) (e : ∀ k, 40 ≤ k → k < 48 → t' k = t k) : zSC t' sh := fun n hn => by
  rw [e (40 + 2 * n) (by omega) (by omega), e (40 + 2 * n + 1) (by omega) (by omega)]
  exact h n hn
theorem gOr_le (g : zG) (m set : Nat) (si : Nat → Int) (fr : Nat) : ∀ (n : Nat) (row : Nat → Nat) (c : Nat) (f : Nat → Nat), (gOr g m set si fr n row c f).1 ≤ c + n
  | 0, _, _, _ => Nat.le_refl _
  | n + 1, row, c, f => by
    unfold gOr
    split
    · split <;> (dsimp only; omega)
    · rename_i r _
      split
      · have := gOr_le g m set si fr n r (c + 1) (if c = 0 then row else f)
        omega
      · have := gOr_le g m set si fr n r c f
        omega
theorem gOr_row (g : zG) (m N set : Nat) (si : Nat → Int) (fr : Nat) (hm : 2 ≤ m) : ∀ (n : Nat) (row : Nat → Nat) (c : Nat) (f : Nat → Nat), gRow m N row → (c ≠ 0 → gRow m N f) → (gOr g m set si fr n row c f).1 ≠ 0 → gRow m N (gOr g m set si fr n row c f).2
  | 0, _, _, _, _, hf, h => hf h
  | n + 1, row, c, f, hr, hf, h => by
    unfold gOr at h ⊢
    have hx : gRow m N (if c = 0 then row else f) := by
      by_cases z : c = 0
      · rw [if_pos z]; exact hr
      · rw [if_neg z]; exact hf z
    cases e : gNx m row with
    | none =>
      rw [e] at h
      dsimp only at h ⊢
      split
      · exact hx
      · rename_i q
        rw [if_neg q] at h
        exact hf h
    | some r =>
      rw [e] at h
      dsimp only at h ⊢
      have hr2 := gNx_row hr hm e
      split
      · rename_i q
        rw [if_pos q] at h
        exact gOr_row g m N set si fr hm n r (c + 1) _ hr2 (fun _ => hx) h
      · rename_i q
        rw [if_neg q] at h
        exact gOr_row g m N set si fr hm n r c f hr2 hf h
section
variable {d : Nat} {t : zMI} {g : zG} {sh : gSh} {K : Int → zMI → Prop} {Kv : zMI → Prop}
theorem s_bringsMarks {a b f : Int} {set m q fr : Nat} {row : Nat → Nat} (h : zTB 19 t g) (hg : gOK g) (ho : gO g = 0) (hL : gL g = 0) (hs : zSC t sh) (hw : gShW sh) (hset : set < 2 ^ gN g) (hml : (gel set 12).length = m) (hm : 2 ≤ m ∧ m ≤ 5) (hq : q < 4) (hr : gRow m (gN g) row) (hrow : zRw t 48 m row) (ha : a = (set : Int)) (hb : b = (m : Int)) (hf : f = (fr : Int)) (hfr : fr + 2 * m ≤ 24)
    (kt : ∀ t', gBr g row m set (sh.2.2 q) fr → zFr 28 t t' → K 1 t') (kf : ∀ t', ¬ gBr g row m set (sh.2.2 q) fr → zFr 28 t t' → K 0 t') : ZX (d + 5) 107 0 [(0, .ref 0), (1, .int (zi a)), (2, .int (zi b)), (3, .ref (40 + 2 * q)), (4, .int (zi f))] [] t (zKi K) := by
  subst ha hb hf
  have hS := zShO hq
  have hn := hg.1.n
  have hp : 2 ^ gN g ≤ 4096 := Nat.le_trans (Nat.pow_le_pow_right (by omega) hn.1) (by decide : 2 ^ 12 ≤ 4096)
  have hsr : ∀ n, n ≤ 12 → (gel set n).length ≤ m := fun n hn => by
    have := gel_mono set n (12 - n)
    rw [show n + (12 - n) = 12 by omega, hml] at this
    exact this
  -- the marks
  have marks : ∀ (j s : Nat) (t' : zMI), s + j = 12 → zTB 28 t' (gPy g row m) → zSC t' sh → zFr 28 t t' → (∀ i, i < m → gfit (gPy g row i) (row i) 0) → (∀ x, x < s → gbit set x → gM (gPy g row m) x 0 = sh.2.2 q (fr + 2 * (gel set x).length) ∧ gM (gPy g row m) x 1 = sh.2.2 q (fr + 2 * (gel set x).length + 1)) → ZX (d + 5) 107 35 [(6, .int (zi s)), (5, .int (zi ((fr + 2 * (gel set s).length : Nat) : Int))), (0, .ref 0), (1, .int (zi set)), (3, .ref (40 + 2 * q))] [] t' (zKi K) := by
    intro j
    induction j with
    | zero =>
      intro s t' e h' s' f' hfit hmk
      refine z_iload zi_107_35 rfl ?_
      refine z_bipush zi_107_36 (by decide) ?_
      refine z_icmp_ge_t zi_107_37 (by omega) (by omega) ?_
      refine z_iconst zi_107_67 ?_
      refine z_zreturn zi_107_68 rfl (by omega) (kt t' ⟨hfit, fun x hx hb => hmk x (by omega) hb⟩ f')
    | succ j ih =>
      intro s t' e h' s' f' hfit hmk
      have hl := hsr s (by omega)
      obtain ⟨w1, w2, w3, w4, w5⟩ := gPy_inv hg ho hL hr m (Nat.le_refl _)
      refine z_iload zi_107_35 rfl ?_
      refine z_bipush zi_107_36 (by decide) ?_
      refine z_icmp_ge_f zi_107_37 (by omega) (by omega) ?_
      refine z_iload_n zi_107_38 rfl ?_
      refine z_iload zi_107_39 rfl ?_
      refine z_cs2i zi_107_40 rfl rfl ⟨by decide, rfl, Nat.le_of_ble_eq_true rfl, Nat.le_of_ble_eq_true rfl⟩ (s_isIn rfl (by omega) rfl (by omega) (fun z => ?_) (fun z => ?_))
      · have hsN := gbit_lt hset z
        have hm0 := w1.1.t (s := s) (w := 0) (by omega) (by omega)
        have hm1 := w1.1.t (s := s) (w := 1) (by omega) (by omega)
        have eg : gel set (s + 1) = gel set s ++ [s] := by
          show gel set s ++ _ = _
          rw [if_pos z]
        have el : (gel set (s + 1)).length = (gel set s).length + 1 := by rw [eg, List.length_append]; rfl
        have hl1 := hsr (s + 1) (by omega)
        have r5 := (hw q hq).2.2 (fr + 2 * (gel set s).length) (by omega)
        have r6 := (hw q hq).2.2 (fr + 2 * (gel set s).length + 1) (by omega)
        refine z_if_eq_f zi_107_41 (by omega) (by omega) ?_
        refine z_aload_n zi_107_42 rfl ?_
        refine z_getfield zi_107_43 rfl ?_
        refine z_iload zi_107_44 rfl ?_
        refine z_iconst zi_107_45 ?_
        refine z_cv2i zi_107_46 rfl rfl (zt_c zT28) ⟨rfl, Nat.le_of_ble_eq_true rfl, Nat.le_of_ble_eq_true rfl⟩ (s_markOf (s := s) (w := 0) zT28 h' w1.1 rfl (by omega) rfl (by omega) ?_)
        refine z_aload_n zi_107_47 rfl ?_
        refine z_iload zi_107_48 rfl ?_
        refine z_cv1i zi_107_49 rfl (zsh_c hS) ⟨rfl, Nat.le_of_ble_eq_true rfl, Nat.le_of_ble_eq_true rfl⟩ (s_itemAt (n := q) (i := fr + 2 * (gel set s).length) s' hq rfl (by omega) ?_)
        refine z_icmp_ne zi_107_50 (by omega) (fun c1 => ?_) (fun c1 => ?_)
        · refine z_iconst zi_107_62 ?_
          refine z_zreturn zi_107_63 rfl (by omega) (kf t' (fun y => c1 (y.2 s (by omega) z).1) f')
        · refine z_aload_n zi_107_51 rfl ?_
          refine z_getfield zi_107_52 rfl ?_
          refine z_iload zi_107_53 rfl ?_
          refine z_iconst zi_107_54 ?_
          refine z_cv2i zi_107_55 rfl rfl (zt_c zT28) ⟨rfl, Nat.le_of_ble_eq_true rfl, Nat.le_of_ble_eq_true rfl⟩ (s_markOf (s := s) (w := 1) zT28 h' w1.1 rfl (by omega) rfl (by omega) ?_)
          refine z_aload_n zi_107_56 rfl ?_
          refine z_iload zi_107_57 rfl ?_
          refine z_iconst zi_107_58 ?_
          refine z_iadd zi_107_59 ?_
          refine z_cv1i zi_107_60 rfl (zsh_c hS) ⟨rfl, Nat.le_of_ble_eq_true rfl, Nat.le_of_ble_eq_true rfl⟩ (s_itemAt (n := q) (i := fr + 2 * (gel set s).length + 1) s' hq (by omega) (by omega) ?_)
          refine z_icmp_eq zi_107_61 (by omega) (fun c2 => ?_) (fun c2 => ?_)
          · refine z_iinc zi_107_64 rfl rfl ?_
            refine z_iinc zi_107_65 rfl rfl ?_
            refine z_goto zi_107_66 ?_
            refine z_loc (lv' := [(6, .int (zi ((s + 1 : Nat) : Int))), (5, .int (zi (((fr + 2 * (gel set s).length : Nat) : Int) + 2))), (0, .ref 0), (1, .int (zi set)), (3, .ref (40 + 2 * q))]) rfl ?_
            have e2 : ((fr + 2 * (gel set s).length : Nat) : Int) + 2 = ((fr + 2 * (gel set (s + 1)).length : Nat) : Int) := by omega
            rw [e2]
            refine ih (s + 1) t' (by omega) h' s' f' hfit (fun x hx hb => ?_)
            rcases (by omega : x < s ∨ x = s) with y | y
            · exact hmk x y hb
            · subst y; exact ⟨by omega, by omega⟩
          · refine z_iconst zi_107_62 ?_
            refine z_zreturn zi_107_63 rfl (by omega) (kf t' (fun y => c2 (y.2 s (by omega) z).2) f')
      · have eg : gel set (s + 1) = gel set s := by
          show gel set s ++ _ = _
          rw [if_neg z, List.append_nil]
        refine z_if_eq_t zi_107_41 (by omega) (by omega) ?_
        refine z_iinc zi_107_65 rfl rfl ?_
        refine z_goto zi_107_66 ?_
        refine z_loc (lv' := [(6, .int (zi ((s + 1 : Nat) : Int))), (5, .int (zi ((fr + 2 * (gel set s).length : Nat) : Int))), (0, .ref 0), (1, .int (zi set)), (3, .ref (40 + 2 * q))]) rfl ?_
        rw [← eg]
        refine ih (s + 1) t' (by omega) h' s' f' hfit (fun x hx hb => ?_)
        rcases (by omega : x < s ∨ x = s) with y | y
        · exact hmk x y hb
        · subst y; exact absurd hb z
  -- the lays
  have lays : ∀ (j i : Nat) (t' : zMI), i + j = m → zTB 28 t' (gPy g row i) → zFr 28 t t' → (∀ x, x < i → gfit (gPy g row x) (row x) 0) → ZX (d + 5) 107 7 [(5, .int (zi i)), (0, .ref 0), (1, .int (zi set)), (2, .int (zi m)), (3, .ref (40 + 2 * q)), (4, .int (zi fr))] [] t' (zKi K) := by
    intro j
    induction j with
    | zero =>
      intro i t' e h' f' hfit
      have ei : i = m := by omega
      subst ei
      refine z_iload zi_107_7 rfl ?_
      refine z_iload_n zi_107_8 rfl ?_
      refine z_icmp_ge_t zi_107_9 (by omega) (by omega) ?_
      refine z_iload zi_107_31 rfl ?_
      refine z_istore zi_107_32 rfl ?_
      refine z_iconst zi_107_33 ?_
      refine z_istore zi_107_34 rfl ?_
      refine z_loc (lv' := [(6, .int (zi ((0 : Nat) : Int))), (5, .int (zi ((fr + 2 * (gel set 0).length : Nat) : Int))), (0, .ref 0), (1, .int (zi set)), (3, .ref (40 + 2 * q))]) rfl ?_
      exact marks 12 0 t' (by omega) h' (zSC_congr hs (fun x x1 x2 => f' x (by omega))) f' hfit (fun x hx _ => by omega)
    | succ j ih =>
      intro i t' e h' f' hfit
      obtain ⟨w1, w2, w3, w4, w5⟩ := gPy_inv hg ho hL hr i (by omega)
      have hb := hr.1 i (by omega)
      have hno : gP (gPy g row i) (row i) = none := gpl_of_none (fun p hp e => by
        rw [w4] at hp
        rw [w5 p hp] at e
        have := hr.2 p i (by omega) (by omega) e
        omega)
      refine z_iload zi_107_7 rfl ?_
      refine z_iload_n zi_107_8 rfl ?_
      refine z_icmp_ge_f zi_107_9 (by omega) (by omega) ?_
      refine z_aload_n zi_107_10 rfl ?_
      refine z_getfield zi_107_11 rfl ?_
      refine z_iload zi_107_12 rfl ?_
      refine z_cs2i zi_107_13 rfl rfl ⟨by decide, rfl, Nat.le_of_ble_eq_true rfl, Nat.le_of_ble_eq_true rfl⟩ (s_at (N := 5) (n := i) rfl (by omega) rfl (by omega) ?_)
      rw [f' 48 (by omega), hrow i (by omega)]
      refine z_istore zi_107_14 rfl ?_
      refine z_aload_n zi_107_15 rfl ?_
      refine z_getfield zi_107_16 rfl ?_
      refine z_iload zi_107_17 rfl ?_
      refine z_iconst zi_107_18 ?_
      refine z_cv2i zi_107_19 rfl rfl (zt_c zT28) ⟨rfl, Nat.le_of_ble_eq_true rfl, Nat.le_of_ble_eq_true rfl⟩ (s_fits (s := row i) (f := 0) zT28 h' w1.1 rfl (by omega) rfl (by omega) (fun z => ?_) (fun z => ?_))
      · refine z_if_ne_t zi_107_20 (by omega) (by omega) ?_
        refine z_aload_n zi_107_23 rfl ?_
        refine z_getfield zi_107_24 rfl ?_
        refine z_iload zi_107_25 rfl ?_
        refine z_iconst zi_107_26 ?_
        refine z_cv2i zi_107_27 rfl rfl (zt_c zT28) ⟨rfl, Nat.le_of_ble_eq_true rfl, Nat.le_of_ble_eq_true rfl⟩ (s_layDown (s := row i) (f := 0) zT28 h' w1.1 rfl (by omega) rfl (by omega) hno w2 (fun t2 h2 f2 => ?_))
        refine z_pop zi_107_28 rfl ?_
        refine z_iinc zi_107_29 rfl rfl ?_
        refine z_goto zi_107_30 ?_
        refine z_loc (lv' := [(5, .int (zi ((i + 1 : Nat) : Int))), (0, .ref 0), (1, .int (zi set)), (2, .int (zi m)), (3, .ref (40 + 2 * q)), (4, .int (zi fr))]) rfl ?_
        refine ih (i + 1) t2 (by omega) h2 (f'.tr f2) (fun x hx => ?_)
        rcases (by omega : x < i ∨ x = i) with y | y
        · exact hfit x y
        · rw [y]; exact z
      · refine z_if_ne_f zi_107_20 (by omega) (by omega) ?_
        refine z_iconst zi_107_21 ?_
        refine z_zreturn zi_107_22 rfl (by omega) (kf t' (fun y => z (y.1 i (by omega))) f')
  refine z_aload_n zi_107_0 rfl ?_
  refine z_getfield zi_107_1 rfl ?_
  refine z_aload_n zi_107_2 rfl ?_
  refine z_getfield zi_107_3 rfl ?_
  refine z_cv1v zi_107_4 rfl (zt_c zT28) ⟨rfl, Nat.le_of_ble_eq_true rfl, Nat.le_of_ble_eq_true rfl⟩ (s_copyFrom zT28 zT19 (by omega) h hg.1 (fun t1 h1 f1 => ?_))
  refine z_iconst zi_107_5 ?_
  refine z_istore zi_107_6 rfl ?_
  refine z_loc (lv' := [(5, .int (zi ((0 : Nat) : Int))), (0, .ref 0), (1, .int (zi set)), (2, .int (zi m)), (3, .ref (40 + 2 * q)), (4, .int (zi fr))]) rfl ?_
  exact lays m 0 t1 (by omega) h1 f1 (fun x hx => by omega)
theorem s_countOrders {a b f : Int} {set m q fr : Nat} (h : zTB 1 t g) (hg : gOK g) (hs : zSC t sh) (hw : gShW sh) (hset : set < 2 ^ gN g) (hml : (gel set 12).length = m) (hm : 2 ≤ m ∧ m ≤ 5) (hq : q < 4) (ha : a = (set : Int)) (hb : b = (m : Int)) (hf : f = (fr : Int)) (hfr : fr + 2 * m ≤ 24)
    (k : ∀ t', zF3 t t' → ((gOr (gtake g (gL g)) m set (sh.2.2 q) fr 120 (gEl set) 0 (fun _ => 0)).1 ≠ 0 → zRw t' 49 m (gOr (gtake g (gL g)) m set (sh.2.2 q) fr 120 (gEl set) 0 (fun _ => 0)).2) → K (gOr (gtake g (gL g)) m set (sh.2.2 q) fr 120 (gEl set) 0 (fun _ => 0)).1 t') : ZX (d + 6) 103 0 [(0, .ref 0), (1, .int (zi a)), (2, .int (zi b)), (3, .ref (40 + 2 * q)), (4, .int (zi f))] [] t (zKi K) := by
  subst ha hb hf
  have hS := zShO hq
  have hn := hg.1.n
  have hp : 2 ^ gN g ≤ 4096 := Nat.le_trans (Nat.pow_le_pow_right (by omega) hn.1) (by decide : 2 ^ 12 ≤ 4096)
  have hu : gOK (gtake g (gL g)) := gtake_ok hg _
  have huo : gO (gtake g (gL g)) = 0 := rfl
  have huL : gL (gtake g (gL g)) = 0 := Nat.sub_self _
  have huN : gN (gtake g (gL g)) = gN g := rfl
  have hrow0 : gRow m (gN (gtake g (gL g))) (gEl set) := by rw [← hml]; exact gEl_row hset hn.1
  generalize hgt : gtake g (gL g) = u at k hu huo huL huN hrow0 ⊢
  have loop : ∀ (j n : Nat) (t' : zMI) (row : Nat → Nat) (c : Nat) (ff : Nat → Nat), n + j = 120 → c ≤ n → zTB 19 t' u → zF3 t t' → gRow m (gN u) row → zRw t' 48 m row → (c ≠ 0 → zRw t' 49 m ff) → (∀ t'', zF3 t t'' → ((gOr u m set (sh.2.2 q) fr j row c ff).1 ≠ 0 → zRw t'' 49 m (gOr u m set (sh.2.2 q) fr j row c ff).2) → K (gOr u m set (sh.2.2 q) fr j row c ff).1 t'') → ZX (d + 6) 103 20 [(7, .int (zi n)), (6, .int (zi 1)), (5, .int (zi c)), (0, .ref 0), (1, .int (zi set)), (2, .int (zi m)), (3, .ref (40 + 2 * q)), (4, .int (zi fr))] [] t' (zKi K) := by
    intro j
    induction j with
    | zero =>
      intro n t' row c ff e hc h' f' hr hrw hff kk
      refine z_iload zi_103_20 rfl ?_
      refine z_bipush zi_103_21 (by decide) ?_
      refine z_icmp_ge_t zi_103_22 (by omega) (by omega) ?_
      refine z_iload zi_103_46 rfl ?_
      refine z_ireturn zi_103_47 rfl (kk t' f' hff)
    | succ j ih =>
      intro n t' row c ff e hc h' f' hr hrw hff kk
      unfold gOr at kk
      have hs' : zSC t' sh := zSC_congr hs (fun x x1 x2 => f' x (by omega) (by omega) (by omega))
      -- after the row was tried
      have after : ∀ (t2 : zMI) (c2 : Nat) (f2 : Nat → Nat), c2 ≤ n + 1 → zTB 19 t2 u → zF3 t t2 → zRw t2 48 m row → (c2 ≠ 0 → zRw t2 49 m f2) → (gNx m row = none → ∀ t'', zF3 t t'' → (c2 ≠ 0 → zRw t'' 49 m f2) → K c2 t'') → (∀ r, gNx m row = some r → ∀ t'', zF3 t t'' → ((gOr u m set (sh.2.2 q) fr j r c2 f2).1 ≠ 0 → zRw t'' 49 m (gOr u m set (sh.2.2 q) fr j r c2 f2).2) → K (gOr u m set (sh.2.2 q) fr j r c2 f2).1 t'') → ZX (d + 6) 103 40 [(7, .int (zi n)), (6, .int (zi 1)), (5, .int (zi c2)), (0, .ref 0), (1, .int (zi set)), (2, .int (zi m)), (3, .ref (40 + 2 * q)), (4, .int (zi fr))] [] t2 (zKi K) := by
        intro t2 c2 f2 hc2 h2 ff2 hrw2 hf2 k0 k1
        refine z_aload_n zi_103_40 rfl ?_
        refine z_iload_n zi_103_41 rfl ?_
        refine z_cv1i zi_103_42 rfl rfl ⟨rfl, Nat.le_of_ble_eq_true rfl, Nat.le_of_ble_eq_true rfl⟩ (s_nextOrder hrw2 hr (by omega) hm rfl (fun z => ?_) (fun r t3 z1 z2 z3 => ?_))
        · refine z_istore zi_103_43 rfl ?_
          refine z_iinc zi_103_44 rfl rfl ?_
          refine z_goto zi_103_45 ?_
          refine z_loc (lv' := [(7, .int (zi ((n + 1 : Nat) : Int))), (6, .int (zi 0)), (5, .int (zi c2)), (0, .ref 0), (1, .int (zi set)), (2, .int (zi m)), (3, .ref (40 + 2 * q)), (4, .int (zi fr))]) rfl ?_
          refine z_iload zi_103_20 rfl ?_
          refine z_bipush zi_103_21 (by decide) ?_
          refine z_icmp_ge zi_103_22 (by omega) (fun w => ?_) (fun w => ?_)
          · refine z_iload zi_103_46 rfl ?_
            refine z_ireturn zi_103_47 rfl (k0 z t2 ff2 hf2)
          · refine z_iload zi_103_23 rfl ?_
            refine z_if_eq_t zi_103_24 (by omega) (by omega) ?_
            refine z_iload zi_103_46 rfl ?_
            refine z_ireturn zi_103_47 rfl (k0 z t2 ff2 hf2)
        · refine z_istore zi_103_43 rfl ?_
          refine z_iinc zi_103_44 rfl rfl ?_
          refine z_goto zi_103_45 ?_
          refine z_loc (lv' := [(7, .int (zi ((n + 1 : Nat) : Int))), (6, .int (zi 1)), (5, .int (zi c2)), (0, .ref 0), (1, .int (zi set)), (2, .int (zi m)), (3, .ref (40 + 2 * q)), (4, .int (zi fr))]) rfl ?_
          refine ih (n + 1) t3 r c2 f2 (by omega) (by omega) (zTB_congr h2 (fun x x1 x2 => z3 x (by omega))) (ff2.tr (fun x _ x2 _ => z3 x x2)) (gNx_row hr hm.1 z1) z2 (fun y => ?_) (k1 r z1)
          intro i hi
          rw [z3 49 (by omega)]
          exact hf2 y i hi
      refine z_iload zi_103_20 rfl ?_
      refine z_bipush zi_103_21 (by decide) ?_
      refine z_icmp_ge_f zi_103_22 (by omega) (by omega) ?_
      refine z_iload zi_103_23 rfl ?_
      refine z_if_eq_f zi_103_24 (by omega) (by omega) ?_
      refine z_aload_n zi_103_25 rfl ?_
      refine z_iload_n zi_103_26 rfl ?_
      refine z_iload_n zi_103_27 rfl ?_
      refine z_aload_n zi_103_28 rfl ?_
      refine z_iload zi_103_29 rfl ?_
      refine z_cv4i zi_103_30 rfl rfl rfl rfl rfl ⟨rfl, Nat.le_of_ble_eq_true rfl, Nat.le_of_ble_eq_true rfl⟩ (s_bringsMarks (g := u) (row := row) (fr := fr) h' hu huo huL hs' hw (by rw [huN]; exact hset) hml hm hq hr hrw rfl rfl rfl hfr (fun t2 z f2 => ?_) (fun t2 z f2 => ?_))
      · have h2 : zTB 19 t2 u := zTB_congr h' (fun x x1 x2 => f2 x (by omega))
        have ff2 : zF3 t t2 := f'.tr (fun x x1 _ _ => f2 x (by omega))
        have hrw2 : zRw t2 48 m row := fun i hi => by rw [f2 48 (by omega)]; exact hrw i hi
        refine z_if_eq_f zi_103_31 (by omega) (by omega) ?_
        refine z_iload zi_103_32 rfl ?_
        refine z_if_ne zi_103_33 (by omega) (fun w => ?_) (fun w => ?_)
        · have hc0 : c ≠ 0 := by omega
          refine z_iinc zi_103_39 rfl rfl ?_
          have e1 : (c : Int) + 1 = ((c + 1 : Nat) : Int) := by omega
          rw [e1]
          refine z_loc (lv' := [(7, .int (zi n)), (6, .int (zi 1)), (5, .int (zi ((c + 1 : Nat) : Int))), (0, .ref 0), (1, .int (zi set)), (2, .int (zi m)), (3, .ref (40 + 2 * q)), (4, .int (zi fr))]) rfl ?_
          refine after t2 (c + 1) ff (by omega) h2 ff2 hrw2 (fun _ i hi => ?_) (fun y t'' y1 y2 => ?_) (fun r y t'' y1 y2 => ?_)
          · rw [f2 49 (by omega)]; exact hff hc0 i hi
          · rw [y] at kk
            dsimp only at kk
            rw [if_pos z, if_neg hc0] at kk
            exact kk t'' y1 y2
          · rw [y] at kk
            dsimp only at kk
            rw [if_pos z, if_neg hc0] at kk
            exact kk t'' y1 y2
        · have hc0 : c = 0 := by omega
          refine z_aload_n zi_103_34 rfl ?_
          refine z_getfield zi_103_35 rfl ?_
          refine z_aload_n zi_103_36 rfl ?_
          refine z_getfield zi_103_37 rfl ?_
          refine z_cs2v zi_103_38 rfl rfl ⟨by decide, rfl, Nat.le_of_ble_eq_true rfl, Nat.le_of_ble_eq_true rfl⟩ (s_copyRow (a := 48) (b := 49) (N := 5) rfl rfl (by omega) ?_)
          refine z_iinc zi_103_39 rfl rfl ?_
          have e1 : (c : Int) + 1 = ((c + 1 : Nat) : Int) := by omega
          rw [e1]
          refine z_loc (lv' := [(7, .int (zi n)), (6, .int (zi 1)), (5, .int (zi ((c + 1 : Nat) : Int))), (0, .ref 0), (1, .int (zi set)), (2, .int (zi m)), (3, .ref (40 + 2 * q)), (4, .int (zi fr))]) rfl ?_
          refine after _ (c + 1) row (by omega) (zTB_congr h2 (fun x x1 x2 => zcpi_o (by omega))) (ff2.tr (fun x _ _ x3 => zcpi_o x3)) (fun i hi => ?_) (fun _ i hi => ?_) (fun y t'' y1 y2 => ?_) (fun r y t'' y1 y2 => ?_)
          · rw [zcpi_o (by omega)]; exact hrw2 i hi
          · rw [zcpi_s (by omega)]; exact hrw2 i hi
          · rw [y] at kk
            dsimp only at kk
            rw [if_pos z, if_pos hc0] at kk
            exact kk t'' y1 y2
          · rw [y] at kk
            dsimp only at kk
            rw [if_pos z, if_pos hc0] at kk
            exact kk t'' y1 y2
      · have h2 : zTB 19 t2 u := zTB_congr h' (fun x x1 x2 => f2 x (by omega))
        have ff2 : zF3 t t2 := f'.tr (fun x x1 _ _ => f2 x (by omega))
        have hrw2 : zRw t2 48 m row := fun i hi => by rw [f2 48 (by omega)]; exact hrw i hi
        refine z_if_eq_t zi_103_31 (by omega) (by omega) ?_
        refine after t2 c ff (by omega) h2 ff2 hrw2 (fun y i hi => ?_) (fun y t'' y1 y2 => ?_) (fun r y t'' y1 y2 => ?_)
        · rw [f2 49 (by omega)]; exact hff y i hi
        · rw [y] at kk
          dsimp only at kk
          rw [if_neg z] at kk
          exact kk t'' y1 y2
        · rw [y] at kk
          dsimp only at kk
          rw [if_neg z] at kk
          exact kk t'' y1 y2
  have hT := zT19
  refine z_aload_n zi_103_0 rfl ?_
  refine z_getfield zi_103_1 rfl ?_
  refine z_aload_n zi_103_2 rfl ?_
  refine z_getfield zi_103_3 rfl ?_
  refine z_cv1v zi_103_4 rfl (zt_c hT) ⟨rfl, Nat.le_of_ble_eq_true rfl, Nat.le_of_ble_eq_true rfl⟩ (s_copyFrom zT19 zT1 (by omega) h hg.1 (fun t1 h1 f1 => ?_))
  refine z_aload_n zi_103_5 rfl ?_
  refine z_getfield zi_103_6 rfl ?_
  refine z_aload_n zi_103_7 rfl ?_
  refine z_getfield zi_103_8 rfl ?_
  refine z_cv0i zi_103_9  (zt_c hT) ⟨rfl, Nat.le_of_ble_eq_true rfl, Nat.le_of_ble_eq_true rfl⟩ (s_trainLength zT19 h1 ?_)
  refine z_cv1v zi_103_10 rfl (zt_c hT) ⟨rfl, Nat.le_of_ble_eq_true rfl, Nat.le_of_ble_eq_true rfl⟩ (s_liftLast (n := gL g) zT19 h1 hg.1 hg.2 rfl (by omega) (fun t2 h2 f2 => ?_))
  rw [hgt] at h2
  refine z_aload_n zi_103_11 rfl ?_
  refine z_iload_n zi_103_12 rfl ?_
  refine z_cv1v zi_103_13 rfl rfl ⟨rfl, Nat.le_of_ble_eq_true rfl, Nat.le_of_ble_eq_true rfl⟩ (s_startOrder rfl (by omega) (by omega) (fun t3 g3 f3 => ?_))
  refine z_iconst zi_103_14 ?_
  refine z_istore zi_103_15 rfl ?_
  refine z_iconst zi_103_16 ?_
  refine z_istore zi_103_17 rfl ?_
  refine z_iconst zi_103_18 ?_
  refine z_istore zi_103_19 rfl ?_
  refine z_loc (lv' := [(7, .int (zi ((0 : Nat) : Int))), (6, .int (zi 1)), (5, .int (zi ((0 : Nat) : Int))), (0, .ref 0), (1, .int (zi set)), (2, .int (zi m)), (3, .ref (40 + 2 * q)), (4, .int (zi fr))]) rfl ?_
  exact loop 120 0 t3 (gEl set) 0 (fun _ => 0) rfl (Nat.le_refl _) (zTB_congr h2 (fun x x1 x2 => f3 x (by omega))) (fun x x1 x2 _ => by rw [f3 x x2, f2 x (by omega), f1 x (by omega)]) hrow0 (fun i hi => g3 i (by omega)) (fun z => absurd rfl z) k
theorem s_orders {set s lane fr w : Int} (h : zTB 1 t g) (hg : gOK g) (hs : zSC t sh) (hw : gShW sh) (r0 : -2147483648 ≤ set ∧ set < 2147483648) (r1 : -2147483648 ≤ s ∧ s < 2147483648) (r2 : -2147483648 ≤ lane ∧ lane < 2147483648) (r3 : -2147483648 ≤ fr ∧ fr < 2147483648) (r4 : -2147483648 ≤ w ∧ w < 2147483648) (k : ∀ t', zF3 t t' → K (oOrders g sh set s lane fr w) t') : ZX (d + 7) 88 0 [(0, .ref 0), (1, .int (zi set)), (2, .int (zi s)), (3, .int (zi lane)), (4, .int (zi fr)), (5, .int (zi w))] [] t (zKi K) := by
  have hT := zT1
  have hn := hg.1.n
  have hp : 2 ^ gN g ≤ 4096 := Nat.le_trans (Nat.pow_le_pow_right (by omega) hn.1) (by decide : 2 ^ 12 ≤ 4096)
  have ec : ((2 ^ gN g : Nat) : Int) = 2 ^ gN g := by rw [Int.natCast_pow]; rfl
  have hn2 := hn.2
  have bad : ¬ ((0 ≤ set ∧ set < 2 ^ gN g) ∧ (0 ≤ s ∧ s < 4) ∧ (0 ≤ lane ∧ lane ≤ 2)) → K (-1) t := fun q => by
    have := k t zF3.rf
    unfold oOrders at this
    rw [if_neg q] at this
    exact this
  refine z_aload_n zi_88_0 rfl ?_
  refine z_iload_n zi_88_1 rfl ?_
  refine z_cv1r zi_88_2 rfl rfl ⟨rfl, Nat.le_of_ble_eq_true rfl, Nat.le_of_ble_eq_true rfl⟩ (s_sheetAt r1 (fun q em hq => ?_) (fun z => ?_))
  · have hS := zShO hq
    have em2 : s.toNat = q := by omega
    show ZX _ _ _ _ [.ref (40 + 2 * q)] _ _
    refine z_astore zi_88_3 rfl ?_
    refine z_iload_n zi_88_4 rfl ?_
    refine z_cs1i zi_88_5 rfl ⟨by decide, rfl, Nat.le_of_ble_eq_true rfl, Nat.le_of_ble_eq_true rfl⟩ (s_bitCount ?_)
    refine z_istore zi_88_6 rfl ?_
    refine z_aload zi_88_7 rfl ?_
    refine z_ifnull_R zi_88_8 ?_
    refine z_iload_n zi_88_9 rfl ?_
    refine z_cs1i zi_88_10 rfl ⟨by decide, rfl, Nat.le_of_ble_eq_true rfl, Nat.le_of_ble_eq_true rfl⟩ (s_isLane r2 (fun q2 => ?_) (fun q2 => ?_))
    · refine z_if_eq_f zi_88_11 (by omega) (by omega) ?_
      refine z_aload_n zi_88_12 rfl ?_
      refine z_getfield zi_88_13 rfl ?_
      refine z_iload_n zi_88_14 rfl ?_
      refine z_cv1i zi_88_15 rfl (zt_c hT) ⟨rfl, Nat.le_of_ble_eq_true rfl, Nat.le_of_ble_eq_true rfl⟩ (s_hasSet hT h hg.1 r0 (fun q3 => ?_) (fun q3 => ?_))
      · obtain ⟨st, rfl⟩ : ∃ st : Nat, set = st := ⟨set.toNat, by omega⟩
        have hset : st < 2 ^ gN g := by omega
        have hin : (0 ≤ (st : Int) ∧ (st : Int) < 2 ^ gN g) ∧ (0 ≤ s ∧ s < 4) ∧ (0 ≤ lane ∧ lane ≤ 2) := ⟨q3, by omega, q2⟩
        unfold oOrders at k
        rw [if_pos hin, em2, Int.toNat_natCast] at k
        have hl12 := gel_len st 12
        have hbc : (zbc (zi (st : Int))).toInt = ((gel st 12).length : Int) := by
          rw [zbc_ok st (by omega), zi_toInt (by omega)]
        rw [hbc]
        generalize em : (gel st 12).length = m at k hl12
        refine z_if_ne_t zi_88_16 (by omega) (by omega) ?_
        refine z_iload zi_88_19 rfl ?_
        refine z_iconst zi_88_20 ?_
        refine z_iconst zi_88_21 ?_
        have bad2 : ¬ ((2 ≤ m ∧ m ≤ 5) ∧ (-1 ≤ w ∧ w ≤ (m : Int) - 1)) → K (-1) t := fun q => by
          have := k t zF3.rf
          rw [if_neg q] at this
          exact this
        refine z_cs3i zi_88_22 rfl rfl rfl ⟨by decide, rfl, Nat.le_of_ble_eq_true rfl, Nat.le_of_ble_eq_true rfl⟩ (s_within (by omega) (by omega) (by omega) (fun q4 => ?_) (fun q4 => ?_))
        · refine z_if_eq_f zi_88_23 (by omega) (by omega) ?_
          refine z_iload zi_88_24 rfl ?_
          refine z_iconst zi_88_25 ?_
          refine z_iload zi_88_26 rfl ?_
          refine z_iconst zi_88_27 ?_
          refine z_isub zi_88_28 ?_
          refine z_cs3i zi_88_29 rfl rfl rfl ⟨by decide, rfl, Nat.le_of_ble_eq_true rfl, Nat.le_of_ble_eq_true rfl⟩ (s_within (by omega) (by omega) (by omega) (fun q5 => ?_) (fun q5 => ?_))
          · refine z_if_ne_t zi_88_30 (by omega) (by omega) ?_
            rw [if_pos ⟨by omega, q5⟩] at k
            refine z_aload zi_88_33 rfl ?_
            refine z_iload_n zi_88_34 rfl ?_
            refine z_iload zi_88_35 rfl ?_
            refine z_iconst zi_88_36 ?_
            refine z_iload zi_88_37 rfl ?_
            refine z_imul zi_88_38 ?_
            refine z_cv3i zi_88_39 rfl rfl rfl (zsh_c hS) ⟨rfl, Nat.le_of_ble_eq_true rfl, Nat.le_of_ble_eq_true rfl⟩ (s_refusalOf (n := q) hs hw hq r2 r3 (by omega) ?_)
            have hgl : -20 ≤ gLack sh q lane fr (2 * (m : Int)) ∧ gLack sh q lane fr (2 * (m : Int)) ≤ 0 := by
              unfold gLack
              split
              · omega
              · split
                · omega
                · split <;> omega
            refine z_istore zi_88_40 rfl ?_
            refine z_iload zi_88_41 rfl ?_
            refine z_if_eq zi_88_42 (by omega) (fun c => ?_) (fun c => ?_)
            · rw [if_neg (fun z => z c)] at k
              obtain ⟨g1, g2, g3, g4⟩ := gLack_0 c
              have w2 := (hw q hq).2.1
              refine z_aload_n zi_88_45 rfl ?_
              refine z_iload_n zi_88_46 rfl ?_
              refine z_iload zi_88_47 rfl ?_
              refine z_aload zi_88_48 rfl ?_
              refine z_iload zi_88_49 rfl ?_
              refine z_cv4i zi_88_50 rfl rfl rfl rfl rfl ⟨rfl, Nat.le_of_ble_eq_true rfl, Nat.le_of_ble_eq_true rfl⟩ (s_countOrders (set := st) (m := m) (q := q) (fr := fr.toNat) h hg hs hw hset em (by omega) hq rfl rfl (by omega) (by omega) (fun t2 f2 hrw => ?_))
              have hle := gOr_le (gtake g (gL g)) m st (sh.2.2 q) fr.toNat 120 (gEl st) 0 (fun _ => 0)
              have hro := gOr_row (gtake g (gL g)) m (gN g) st (sh.2.2 q) fr.toNat (by omega) 120 (gEl st) 0 (fun _ => 0) (by rw [← em]; exact gEl_row hset hn.1) (fun z => absurd rfl z)
              generalize gOr (gtake g (gL g)) m st (sh.2.2 q) fr.toNat 120 (gEl st) 0 (fun _ => 0) = R at k hrw hle hro ⊢
              have k := k t2 f2
              refine z_istore zi_88_51 rfl ?_
              refine z_iload zi_88_52 rfl ?_
              refine z_if_ne zi_88_53 (by omega) (fun c2 => ?_) (fun c2 => ?_)
              · have z : R.1 ≠ 0 := by omega
                rw [if_neg z] at k
                refine z_iload zi_88_56 rfl ?_
                refine z_if_ge zi_88_57 (by omega) (fun c3 => ?_) (fun c3 => ?_)
                · rw [if_neg (by omega)] at k
                  refine z_aload_n zi_88_60 rfl ?_
                  refine z_getfield zi_88_61 rfl ?_
                  refine z_iload zi_88_62 rfl ?_
                  refine z_cs2i zi_88_63 rfl rfl ⟨by decide, rfl, Nat.le_of_ble_eq_true rfl, Nat.le_of_ble_eq_true rfl⟩ (s_at (N := 5) (n := w.toNat) rfl (by omega) (by omega) (by omega) ?_)
                  rw [hrw z w.toNat (by omega)]
                  refine z_ireturn zi_88_64 rfl k
                · rw [if_pos (by omega)] at k
                  refine z_iload zi_88_58 rfl ?_
                  refine z_goto zi_88_59 ?_
                  refine z_ireturn zi_88_64 rfl k
              · rw [if_pos (by omega)] at k
                refine z_bipush zi_88_54 (by decide) ?_
                refine z_ireturn zi_88_55 rfl k
            · rw [if_pos c] at k
              refine z_iload zi_88_43 rfl ?_
              refine z_ireturn zi_88_44 rfl (k t zF3.rf)
          · refine z_if_ne_f zi_88_30 (by omega) (by omega) ?_
            refine z_iconst zi_88_31 ?_
            refine z_ireturn zi_88_32 rfl (bad2 (fun z => q5 z.2))
        · refine z_if_eq_t zi_88_23 (by omega) (by omega) ?_
          refine z_iconst zi_88_31 ?_
          refine z_ireturn zi_88_32 rfl (bad2 (fun z => q4 (by omega)))
      · refine z_if_ne_f zi_88_16 (by omega) (by omega) ?_
        refine z_iconst zi_88_17 ?_
        refine z_ireturn zi_88_18 rfl (bad (fun z => q3 z.1))
    · refine z_if_eq_t zi_88_11 (by omega) (by omega) ?_
      refine z_iconst zi_88_17 ?_
      refine z_ireturn zi_88_18 rfl (bad (fun z => q2 z.2.2))
  · show ZX _ _ _ _ [.null] _ _
    refine z_astoreN zi_88_3 rfl ?_
    refine z_iload_n zi_88_4 rfl ?_
    refine z_cs1i zi_88_5 rfl ⟨by decide, rfl, Nat.le_of_ble_eq_true rfl, Nat.le_of_ble_eq_true rfl⟩ (s_bitCount ?_)
    refine z_istore zi_88_6 rfl ?_
    refine z_aloadN zi_88_7 rfl ?_
    refine z_ifnull_N zi_88_8 ?_
    refine z_iconst zi_88_17 ?_
    refine z_ireturn zi_88_18 rfl (bad (fun y => z y.2.1))
end
