/-! orders: rows of stones, the next row by the alphabet -/
/-- the row of the elements, ascending -/
def gEl (set : Nat) (i : Nat) : Nat := (gel set 12).getD i 0
def las (row : Nat → Nat) : Nat → Option Nat
  | 0 => none
  | n + 1 => if row (n + 1) < row n then las row n else some n
def gjj (row : Nat → Nat) (k : Nat) : Nat → Nat
  | 0 => 0
  | n + 1 => if row (n + 1) < row k then gjj row k n else n + 1
def fsw (row : Nat → Nat) (a b : Nat) : Nat → Nat := fun i => if i = b then row a else if i = a then row b else row i
def grv (row : Nat → Nat) (a b : Nat) : Nat → Nat → Nat
  | 0 => row
  | n + 1 => if a < b then grv (fsw row a b) (a + 1) (b - 1) n else row
def gNx (m : Nat) (row : Nat → Nat) : Option (Nat → Nat) := match las row (m - 1) with
  | none => none
  | some k => some (grv (fsw row k (gjj row k (m - 1))) (k + 1) (m - 1) 5)
def gPy (g : zG) (row : Nat → Nat) : Nat → zG
  | 0 => g
  | n + 1 => glay (gPy g row n) (row n) 0
abbrev gBr (g : zG) (row : Nat → Nat) (m set : Nat) (si : Nat → Int) (fr : Nat) : Prop :=
  (∀ i, i < m → gfit (gPy g row i) (row i) 0) ∧ (∀ s, s < 12 → gbit set s → gM (gPy g row m) s 0 = si (fr + 2 * (gel set s).length) ∧ gM (gPy g row m) s 1 = si (fr + 2 * (gel set s).length + 1))
def gOr (g : zG) (m set : Nat) (si : Nat → Int) (fr : Nat) : Nat → (Nat → Nat) → Nat → (Nat → Nat) → Nat × (Nat → Nat)
  | 0, _, c, f => (c, f)
  | n + 1, row, c, f => match gNx m row with
    | none => if gBr g row m set si fr then (c + 1, if c = 0 then row else f) else (c, f)
    | some r => if gBr g row m set si fr then gOr g m set si fr n r (c + 1) (if c = 0 then row else f) else gOr g m set si fr n r c f
def oOrders (g : zG) (sh : gSh) (set s lane fr k : Int) : Int :=
  if (0 ≤ set ∧ set < 2 ^ gN g) ∧ (0 ≤ s ∧ s < 4) ∧ (0 ≤ lane ∧ lane ≤ 2) then
    (if (2 ≤ (gel set.toNat 12).length ∧ (gel set.toNat 12).length ≤ 5) ∧ (-1 ≤ k ∧ k ≤ ((gel set.toNat 12).length : Int) - 1) then
      (if gLack sh s.toNat lane fr (2 * ((gel set.toNat 12).length : Int)) ≠ 0 then gLack sh s.toNat lane fr (2 * ((gel set.toNat 12).length : Int))
      else if (gOr (gtake g (gL g)) (gel set.toNat 12).length set.toNat (sh.2.2 s.toNat) fr.toNat 120 (gEl set.toNat) 0 (fun _ => 0)).1 = 0 then -4
      else if k < 0 then ((gOr (gtake g (gL g)) (gel set.toNat 12).length set.toNat (sh.2.2 s.toNat) fr.toNat 120 (gEl set.toNat) 0 (fun _ => 0)).1 : Int)
      else (((gOr (gtake g (gL g)) (gel set.toNat 12).length set.toNat (sh.2.2 s.toNat) fr.toNat 120 (gEl set.toNat) 0 (fun _ => 0)).2 k.toNat : Nat) : Int))
    else -1)
  else -1
/-- m different stones -/
def gRow (m N : Nat) (row : Nat → Nat) : Prop := (∀ i, i < m → row i < N) ∧ ∀ i j, i < m → j < m → row i = row j → i = j
theorem fsw_row {m N : Nat} {row : Nat → Nat} {a b : Nat} (h : gRow m N row) (ha : a < m) (hb : b < m) : gRow m N (fsw row a b) := by
  refine ⟨fun i hi => ?_, fun i j hi hj e => ?_⟩
  · unfold fsw
    split
    · exact h.1 a ha
    · split
      · exact h.1 b hb
      · exact h.1 i hi
  · have key : ∀ x, x < m → ∃ y, y < m ∧ fsw row a b x = row y ∧ ((x = b ∧ y = a) ∨ (x ≠ b ∧ x = a ∧ y = b) ∨ (x ≠ b ∧ x ≠ a ∧ y = x)) := fun x hx => by
      unfold fsw
      by_cases z : x = b
      · exact ⟨a, ha, by rw [if_pos z], Or.inl ⟨z, rfl⟩⟩
      · by_cases z2 : x = a
        · exact ⟨b, hb, by rw [if_neg z, if_pos z2], Or.inr (Or.inl ⟨z, z2, rfl⟩)⟩
        · exact ⟨x, hx, by rw [if_neg z, if_neg z2], Or.inr (Or.inr ⟨z, z2, rfl⟩)⟩
    obtain ⟨p, p1, p2, p3⟩ := key i hi
    obtain ⟨q, q1, q2, q3⟩ := key j hj
    have := h.2 p q p1 q1 (by rw [← p2, ← q2, e])
    omega
theorem grv_row {m N : Nat} : ∀ (n : Nat) (row : Nat → Nat) (a b : Nat), gRow m N row → b < m → gRow m N (grv row a b n)
  | 0, _, _, _, h, _ => h
  | n + 1, row, a, b, h, hb => by
    unfold grv
    split
    · exact grv_row n _ _ _ (fsw_row h (by omega) hb) (by omega)
    · exact h
theorem las_lt {row : Nat → Nat} {k : Nat} : ∀ {n : Nat}, las row n = some k → k < n
  | 0, h => by cases h
  | n + 1, h => by
    unfold las at h
    split at h
    · have := las_lt h; omega
    · cases h; omega
theorem gjj_le {row : Nat → Nat} {k : Nat} : ∀ n : Nat, gjj row k n ≤ n
  | 0 => Nat.le_refl _
  | n + 1 => by
    have := gjj_le (row := row) (k := k) n
    unfold gjj
    split <;> omega
theorem gNx_row {m N : Nat} {row r : Nat → Nat} (h : gRow m N row) (hm : 2 ≤ m) (e : gNx m row = some r) : gRow m N r := by
  unfold gNx at e
  split at e
  · cases e
  · rename_i k hk
    cases e
    have h1 := las_lt hk
    have h2 := gjj_le (row := row) (k := k) (m - 1)
    exact grv_row _ _ _ _ (fsw_row h (by omega) (by omega)) (by omega)
theorem gel_sorted (set : Nat) : ∀ n, (gel set n).Pairwise (· < ·)
  | 0 => List.Pairwise.nil
  | n + 1 => by
    show (gel set n ++ _).Pairwise _
    refine List.pairwise_append.mpr ⟨gel_sorted set n, ?_, fun a ha b hb => ?_⟩
    · split
      · exact List.pairwise_singleton _ _
      · exact List.Pairwise.nil
    · split at hb
      · rw [List.mem_singleton.mp hb]; exact (gel_lt ha).1
      · cases hb
theorem gEl_get {set i : Nat} (hi : i < (gel set 12).length) : gEl set i = (gel set 12)[i] := by
  unfold gEl
  rw [List.getD_eq_getElem?_getD, List.getElem?_eq_getElem hi]
  rfl
theorem gEl_row {set N : Nat} (hs : set < 2 ^ N) (hN : N ≤ 12) : gRow (gel set 12).length N (gEl set) := by
  refine ⟨fun i hi => ?_, fun i j hi hj e => ?_⟩
  · rw [gEl_get hi]
    have h := gel_lt (List.getElem_mem hi)
    rcases Nat.lt_or_ge ((gel set 12)[i]) N with z | z
    · exact z
    · have h1 : set < 2 ^ (gel set 12)[i] := Nat.lt_of_lt_of_le hs (Nat.pow_le_pow_right (by omega) z)
      have h2 := h.2
      unfold gbit at h2
      rw [Nat.div_eq_of_lt h1] at h2
      omega
  · rw [gEl_get hi, gEl_get hj] at e
    have hp := List.pairwise_iff_getElem.mp (gel_sorted set 12)
    rcases Nat.lt_trichotomy i j with z | z | z
    · have := hp i j hi hj z; omega
    · exact z
    · have := hp j i hj hi z; omega
theorem zshr1 {n s : Nat} (hn : n < 2147483648) (hs : s < 12) : zi (n : Int) >>> (zi (s : Int) &&& 31) = zi ((n / 2 ^ s : Nat) : Int) := by
  have key : ∀ k : Nat, k < 12 → (zi (k : Int) &&& 31) = nI k ∧ ((nI k).toBitVec.smod 32).toNat = k := by decide
  obtain ⟨h1, h2⟩ := key s hs
  rw [h1]
  exact pk_shrN (by omega) (nI s) s h2
theorem zand1 {n : Nat} (hn : n < 2147483648) : zi (n : Int) &&& zi 1 = zi ((n % 2 : Nat) : Int) := pk_andN (by omega) (m := zi 1) 1 (by decide)
theorem zshl1 {n : Nat} (hn : n ≤ 12) : zi 1 <<< (zi (n : Int) &&& 31) = zi ((2 ^ n : Nat) : Int) := by
  have key : ∀ k : Nat, k < 13 → zi 1 <<< (zi (k : Int) &&& 31) = zi ((2 ^ k : Nat) : Int) := by decide
  exact key n (by omega)
section
variable {d : Nat} {t : zMI} {g : zG} {sh : gSh} {K : Int → zMI → Prop} {Kv : zMI → Prop}
theorem s_bitCount {a : Int} (k : K (zbc (zi a)).toInt t) : ZX d 175 0 [(0, .int (zi a))] [] t (zKi K) := by
  have e : ∀ x : Int32, x = zi x.toInt := fun x => (zi_of x).symm
  refine z_iload_n zi_175_0 rfl ?_
  refine z_iload_n zi_175_1 rfl ?_
  refine z_iconst zi_175_2 ?_
  refine z_iushr zi_175_3 (e _) ?_
  refine z_ldc_w (v := 1431655765) zi_175_4 rfl ?_
  refine z_iand zi_175_5 (e _) ?_
  refine z_isub zi_175_6 ?_
  refine z_istore_n zi_175_7 rfl ?_
  refine z_iload_n zi_175_8 rfl ?_
  refine z_ldc_w (v := 858993459) zi_175_9 rfl ?_
  refine z_iand zi_175_10 (e _) ?_
  refine z_iload_n zi_175_11 rfl ?_
  refine z_iconst zi_175_12 ?_
  refine z_iushr zi_175_13 (e _) ?_
  refine z_ldc_w (v := 858993459) zi_175_14 rfl ?_
  refine z_iand zi_175_15 (e _) ?_
  refine z_iadd zi_175_16 ?_
  refine z_istore_n zi_175_17 rfl ?_
  refine z_iload_n zi_175_18 rfl ?_
  refine z_iload_n zi_175_19 rfl ?_
  refine z_iconst zi_175_20 ?_
  refine z_iushr zi_175_21 (e _) ?_
  refine z_iadd zi_175_22 ?_
  refine z_ldc_w (v := 252645135) zi_175_23 rfl ?_
  refine z_iand zi_175_24 (e _) ?_
  refine z_istore_n zi_175_25 rfl ?_
  refine z_iload_n zi_175_26 rfl ?_
  refine z_iload_n zi_175_27 rfl ?_
  refine z_bipush zi_175_28 (by decide) ?_
  refine z_iushr zi_175_29 (e _) ?_
  refine z_iadd zi_175_30 ?_
  refine z_istore_n zi_175_31 rfl ?_
  refine z_iload_n zi_175_32 rfl ?_
  refine z_iload_n zi_175_33 rfl ?_
  refine z_bipush zi_175_34 (by decide) ?_
  refine z_iushr zi_175_35 (e _) ?_
  refine z_iadd zi_175_36 ?_
  refine z_istore_n zi_175_37 rfl ?_
  refine z_iload_n zi_175_38 rfl ?_
  refine z_bipush zi_175_39 (by decide) ?_
  refine z_iand zi_175_40 (e _) ?_
  refine z_ireturn zi_175_41 rfl ?_
  simp only [← zi_add, ← zi_sub, zi_of]
  exact k
theorem s_isIn {a b : Int} {set s : Nat} (ha : a = (set : Int)) (hset : set < 2147483648) (hb : b = (s : Int)) (hs : s < 12) (kt : gbit set s → K 1 t) (kf : ¬ gbit set s → K 0 t) : ZX d 108 0 [(0, .int (zi a)), (1, .int (zi b))] [] t (zKi K) := by
  subst ha hb
  have h1 : set / 2 ^ s < 2147483648 := Nat.lt_of_le_of_lt (Nat.div_le_self _ _) hset
  refine z_iload_n zi_108_0 rfl ?_
  refine z_iload_n zi_108_1 rfl ?_
  refine z_ishr zi_108_2 (zshr1 hset hs) ?_
  refine z_iconst zi_108_3 ?_
  refine z_iand zi_108_4 (zand1 h1) ?_
  refine z_if_eq zi_108_5 (by omega) (fun c => ?_) (fun c => ?_)
  · refine z_iconst zi_108_8 ?_
    refine z_zreturn zi_108_9 rfl (by omega) (kf (fun z => by unfold gbit at z; omega))
  · refine z_iconst zi_108_6 ?_
    refine z_goto zi_108_7 ?_
    refine z_zreturn zi_108_9 rfl (by omega) (kt (by unfold gbit; omega))
theorem s_hasSet {T : Nat} {a : Int} (hT : zTa T) (h : zTB T t g) (hw : gWF g) (r1 : -2147483648 ≤ a ∧ a < 2147483648) (kt : 0 ≤ a ∧ a < 2 ^ gN g → K 1 t) (kf : ¬ (0 ≤ a ∧ a < 2 ^ gN g) → K 0 t) : ZX d 13 0 [(0, .ref T), (1, .int (zi a))] [] t (zKi K) := by
  have hn := hw.n
  have e : ((2 ^ gN g : Nat) : Int) = 2 ^ gN g := by rw [Int.natCast_pow]; rfl
  have hp : 2 ^ gN g ≤ 4096 := Nat.le_trans (Nat.pow_le_pow_right (by omega) hn.1) (by decide : 2 ^ 12 ≤ 4096)
  have hp1 : 0 < 2 ^ gN g := Nat.two_pow_pos _
  have hP := zshl1 hn.1
  rw [← e] at kt kf
  generalize (2 ^ gN g : Nat) = P at hP hp hp1 kt kf
  refine z_iload_n zi_13_0 rfl ?_
  refine z_if_lt zi_13_1 (by omega) (fun c => ?_) (fun c => ?_)
  · refine z_iconst zi_13_10 ?_
    refine z_zreturn zi_13_11 rfl (by omega) (kf (by omega))
  · refine z_iload_n zi_13_2 rfl ?_
    refine z_iconst zi_13_3 ?_
    refine z_aload_n zi_13_4 rfl ?_
    refine z_getfield zi_13_5 (zt_f0 hT) ?_
    rw [h.n]
    refine z_ishl zi_13_6 (hP) ?_
    refine z_icmp_ge zi_13_7 (by omega) (fun c2 => ?_) (fun c2 => ?_)
    · refine z_iconst zi_13_10 ?_
      refine z_zreturn zi_13_11 rfl (by omega) (kf (by omega))
    · refine z_iconst zi_13_8 ?_
      refine z_goto zi_13_9 ?_
      refine z_zreturn zi_13_11 rfl (by omega) (kt (by omega))
theorem s_startOrder {a : Int} {set : Nat} (ha : a = (set : Int)) (hset : set < 4096) (hl : (gel set 12).length ≤ 5) (k : ∀ t', (∀ i, i < (gel set 12).length → t' 48 i = (gEl set i : Int)) → (∀ q, q ≠ 48 → t' q = t q) → Kv t') : ZX (d + 1) 104 0 [(0, .ref 0), (1, .int (zi a))] [] t (zKv Kv) := by
  subst ha
  have loop : ∀ (j s : Nat) (t' : zMI), s + j = 12 → (∀ i, (h : i < (gel set s).length) → t' 48 i = ((gel set s)[i] : Int)) → (∀ q, q ≠ 48 → t' q = t q) → ZX (d + 1) 104 4 [(3, .int (zi s)), (2, .int (zi ((gel set s).length : Int))), (0, .ref 0), (1, .int (zi set))] [] t' (zKv Kv) := by
    intro j
    induction j with
    | zero =>
      intro s t' e h1 h2
      have e1 : s = 12 := by omega
      subst e1
      refine z_iload_n zi_104_4 rfl ?_
      refine z_bipush zi_104_5 (by decide) ?_
      refine z_icmp_ge_t zi_104_6 (by omega) (by omega) ?_
      refine z_vreturn zi_104_19 rfl (k t' (fun i hi => by rw [gEl_get hi]; exact h1 i hi) h2)
    | succ j ih =>
      intro s t' e h1 h2
      refine z_iload_n zi_104_4 rfl ?_
      refine z_bipush zi_104_5 (by decide) ?_
      refine z_icmp_ge_f zi_104_6 (by omega) (by omega) ?_
      refine z_iload_n zi_104_7 rfl ?_
      refine z_iload_n zi_104_8 rfl ?_
      refine z_cs2i zi_104_9 rfl rfl ⟨by decide, rfl, Nat.le_of_ble_eq_true rfl, Nat.le_of_ble_eq_true rfl⟩ (s_isIn rfl (by omega) rfl (by omega) (fun q => ?_) (fun q => ?_))
      · have eg : gel set (s + 1) = gel set s ++ [s] := by
          show gel set s ++ _ = _
          rw [if_pos q]
        have hl2 := gel_mono set (s + 1) j
        rw [show s + 1 + j = 12 by omega, eg, List.length_append, List.length_singleton] at hl2
        refine z_if_eq_f zi_104_10 (by omega) (by omega) ?_
        refine z_aload_n zi_104_11 rfl ?_
        refine z_getfield zi_104_12 rfl ?_
        refine z_iload_n zi_104_13 rfl ?_
        refine z_iload_n zi_104_14 rfl ?_
        refine z_cs3v zi_104_15 rfl rfl rfl ⟨by decide, rfl, Nat.le_of_ble_eq_true rfl, Nat.le_of_ble_eq_true rfl⟩ (s_put (N := 5) (n := (gel set s).length) rfl (by omega) rfl (by omega) ?_)
        refine z_iinc zi_104_16 rfl rfl ?_
        refine z_iinc zi_104_17 rfl rfl ?_
        refine z_goto zi_104_18 ?_
        have e2 : ((gel set s).length : Int) + 1 = ((gel set (s + 1)).length : Int) := by rw [eg, List.length_append, List.length_singleton]; omega
        rw [e2]
        refine z_loc (lv' := [(3, .int (zi ((s + 1 : Nat) : Int))), (2, .int (zi ((gel set (s + 1)).length : Int))), (0, .ref 0), (1, .int (zi set))]) rfl ?_
        refine ih (s + 1) _ (by omega) (fun i hi => ?_) (fun q' hq' => by rw [zup_o hq']; exact h2 q' hq')
        rw [zup_at]
        have hi' : i < (gel set s).length + 1 := by rw [eg, List.length_append, List.length_singleton] at hi; exact hi
        have e3 : (gel set (s + 1))[i] = (gel set s ++ [s])[i]'(by rw [← eg]; exact hi) := by simp only [eg]
        rw [e3]
        by_cases z : i = (gel set s).length
        · rw [if_pos z, List.getElem_append_right (by omega)]
          simp [z]
        · rw [if_neg z, List.getElem_append_left (by omega)]
          exact h1 i (by omega)
      · have eg : gel set (s + 1) = gel set s := by
          show gel set s ++ _ = _
          rw [if_neg q, List.append_nil]
        refine z_if_eq_t zi_104_10 (by omega) (by omega) ?_
        refine z_iinc zi_104_17 rfl rfl ?_
        refine z_goto zi_104_18 ?_
        refine z_loc (lv' := [(3, .int (zi ((s + 1 : Nat) : Int))), (2, .int (zi ((gel set s).length : Int))), (0, .ref 0), (1, .int (zi set))]) rfl ?_
        rw [← eg]
        refine ih (s + 1) t' (by omega) (fun i hi => ?_) h2
        have e3 : (gel set (s + 1))[i] = (gel set s)[i]'(by rw [← eg]; exact hi) := by simp only [eg]
        rw [e3]
        exact h1 i (by rw [← eg]; exact hi)
  refine z_iconst zi_104_0 ?_
  refine z_istore_n zi_104_1 rfl ?_
  refine z_iconst zi_104_2 ?_
  refine z_istore_n zi_104_3 rfl ?_
  refine z_loc (lv' := [(3, .int (zi ((0 : Nat) : Int))), (2, .int (zi ((gel set 0).length : Int))), (0, .ref 0), (1, .int (zi set))]) rfl ?_
  exact loop 12 0 t (by omega) (fun i hi => by cases hi) (fun _ _ => rfl)
def zRw (t : zMI) (c m : Nat) (row : Nat → Nat) : Prop := ∀ i, i < m → t c i = (row i : Int)
theorem zRw_sw {c m a b : Nat} {row : Nat → Nat} (h : zRw t c m row) : zRw (zup (zup t c a (row b)) c b (row a)) c m (fsw row a b) := by
  intro i hi
  rw [zup_at, zup_at]
  unfold fsw
  by_cases z : i = b
  · rw [if_pos z, if_pos z]
  · rw [if_neg z, if_neg z]
    by_cases z2 : i = a
    · rw [if_pos z2, if_pos z2]
    · rw [if_neg z2, if_neg z2]
      exact h i hi
theorem s_swap {x y : Int} {m a b : Nat} {row : Nat → Nat} (h : zRw t 48 m row) (hm : m ≤ 5) (hx : x = (a : Int)) (hy : y = (b : Int)) (ha : a < m) (hb : b < m) (k : Kv (zup (zup t 48 a (row b)) 48 b (row a))) : ZX (d + 1) 106 0 [(0, .ref 0), (1, .int (zi x)), (2, .int (zi y))] [] t (zKv Kv) := by
  refine z_aload_n zi_106_0 rfl ?_
  refine z_getfield zi_106_1 rfl ?_
  refine z_iload_n zi_106_2 rfl ?_
  refine z_cs2i zi_106_3 rfl rfl ⟨by decide, rfl, Nat.le_of_ble_eq_true rfl, Nat.le_of_ble_eq_true rfl⟩ (s_at (N := 5) (n := a) rfl (by omega) hx (by omega) ?_)
  rw [h a ha]
  refine z_istore_n zi_106_4 rfl ?_
  refine z_aload_n zi_106_5 rfl ?_
  refine z_getfield zi_106_6 rfl ?_
  refine z_iload_n zi_106_7 rfl ?_
  refine z_aload_n zi_106_8 rfl ?_
  refine z_getfield zi_106_9 rfl ?_
  refine z_iload_n zi_106_10 rfl ?_
  refine z_cs2i zi_106_11 rfl rfl ⟨by decide, rfl, Nat.le_of_ble_eq_true rfl, Nat.le_of_ble_eq_true rfl⟩ (s_at (N := 5) (n := b) rfl (by omega) hy (by omega) ?_)
  rw [h b hb]
  refine z_cs3v zi_106_12 rfl rfl rfl ⟨by decide, rfl, Nat.le_of_ble_eq_true rfl, Nat.le_of_ble_eq_true rfl⟩ (s_put (N := 5) (n := a) rfl (by omega) hx (by omega) ?_)
  refine z_aload_n zi_106_13 rfl ?_
  refine z_getfield zi_106_14 rfl ?_
  refine z_iload_n zi_106_15 rfl ?_
  refine z_iload_n zi_106_16 rfl ?_
  refine z_cs3v zi_106_17 rfl rfl rfl ⟨by decide, rfl, Nat.le_of_ble_eq_true rfl, Nat.le_of_ble_eq_true rfl⟩ (s_put (N := 5) (n := b) rfl (by omega) hy (by omega) ?_)
  refine z_vreturn zi_106_18 rfl k
theorem s_nextOrder {x : Int} {m N : Nat} {row : Nat → Nat} (h : zRw t 48 m row) (hr : gRow m N row) (hN : N ≤ 12) (hm : 2 ≤ m ∧ m ≤ 5) (hx : x = (m : Int)) (k0 : gNx m row = none → K 0 t) (k1 : ∀ r t', gNx m row = some r → zRw t' 48 m r → (∀ q, q ≠ 48 → t' q = t q) → K 1 t') : ZX (d + 2) 105 0 [(0, .ref 0), (1, .int (zi x))] [] t (zKi K) := by
  subst hx
  unfold gNx at k0 k1
  have val : ∀ i, i < m → 0 ≤ (row i : Int) ∧ (row i : Int) < 12 := fun i hi => by have := hr.1 i hi; omega
  -- the reversal
  have rev : ∀ (n a b : Nat) (row1 : Nat → Nat) (t' : zMI) (x2 x3 : Int), zRw t' 48 m row1 → (∀ q, q ≠ 48 → t' q = t q) → b < m → a ≤ m → b ≤ a + n → (∀ t'', zRw t'' 48 m (grv row1 a b n) → (∀ q, q ≠ 48 → t'' q = t q) → K 1 t'') → ZX (d + 2) 105 53 [(5, .int (zi b)), (4, .int (zi a)), (0, .ref 0), (1, .int (zi m))] [] t' (zKi K) := by
    intro n
    induction n with
    | zero =>
      intro a b row1 t' x2 x3 h1 f1 hb ha hn kk
      refine z_iload zi_105_53 rfl ?_
      refine z_iload zi_105_54 rfl ?_
      refine z_icmp_ge_t zi_105_55 (by omega) (by omega) ?_
      refine z_iconst zi_105_63 ?_
      refine z_zreturn zi_105_64 rfl (by omega) (kk t' h1 f1)
    | succ n ih =>
      intro a b row1 t' x2 x3 h1 f1 hb ha hn kk
      unfold grv at kk
      refine z_iload zi_105_53 rfl ?_
      refine z_iload zi_105_54 rfl ?_
      refine z_icmp_ge zi_105_55 (by omega) (fun c => ?_) (fun c => ?_)
      · rw [if_neg (by omega)] at kk
        refine z_iconst zi_105_63 ?_
        refine z_zreturn zi_105_64 rfl (by omega) (kk t' h1 f1)
      · rw [if_pos (by omega)] at kk
        refine z_aload_n zi_105_56 rfl ?_
        refine z_iload zi_105_57 rfl ?_
        refine z_iload zi_105_58 rfl ?_
        refine z_cv2v zi_105_59 rfl rfl rfl ⟨rfl, Nat.le_of_ble_eq_true rfl, Nat.le_of_ble_eq_true rfl⟩ (s_swap (m := m) (a := a) (b := b) h1 hm.2 rfl rfl (by omega) hb ?_)
        refine z_iinc zi_105_60 rfl rfl ?_
        refine z_iinc zi_105_61 rfl rfl ?_
        refine z_goto zi_105_62 ?_
        have e1 : (b : Int) + -1 = ((b - 1 : Nat) : Int) := by omega
        rw [e1]
        refine z_loc (lv' := [(5, .int (zi ((b - 1 : Nat) : Int))), (4, .int (zi ((a + 1 : Nat) : Int))), (0, .ref 0), (1, .int (zi m))]) rfl ?_
        exact ih (a + 1) (b - 1) (fsw row1 a b) _ 0 0 (zRw_sw h1) (fun q hq => by rw [zup_o hq, zup_o hq]; exact f1 q hq) (by omega) (by omega) (by omega) kk
  -- the place of the one to swap with
  have grt : ∀ (n kf : Nat), kf < m → n < m → kf ≤ n → las row (m - 1) = some kf → gjj row kf n = gjj row kf (m - 1) → ZX (d + 2) 105 27 [(3, .int (zi n)), (2, .int (zi kf)), (0, .ref 0), (1, .int (zi m))] [] t (zKi K) := by
    intro n
    induction n with
    | zero =>
      intro kf hk hn hkn hlas hj
      have hk0 : kf = 0 := by omega
      subst hk0
      refine z_iload_n zi_105_27 rfl ?_
      refine z_iload_n zi_105_28 rfl ?_
      refine z_icmp_le_t zi_105_29 (by omega) (by omega) ?_
      rw [hlas] at k1
      dsimp only at k1
      have e0 : gjj row 0 (m - 1) = 0 := by rw [← hj]; rfl
      refine z_aload_n zi_105_41 rfl ?_
      refine z_iload_n zi_105_42 rfl ?_
      refine z_iload_n zi_105_43 rfl ?_
      refine z_cv2v zi_105_44 rfl rfl rfl ⟨rfl, Nat.le_of_ble_eq_true rfl, Nat.le_of_ble_eq_true rfl⟩ (s_swap (m := m) (a := 0) (b := 0) h hm.2 rfl rfl hk hn ?_)
      refine z_iload_n zi_105_45 rfl ?_
      refine z_iconst zi_105_46 ?_
      refine z_iadd zi_105_47 ?_
      refine z_istore zi_105_48 rfl ?_
      refine z_iload_n zi_105_49 rfl ?_
      refine z_iconst zi_105_50 ?_
      refine z_isub zi_105_51 ?_
      refine z_istore zi_105_52 rfl ?_
      have e1 : (m : Int) - 1 = ((m - 1 : Nat) : Int) := by omega
      rw [e1]
      refine z_loc (lv' := [(5, .int (zi ((m - 1 : Nat) : Int))), (4, .int (zi ((0 + 1 : Nat) : Int))), (0, .ref 0), (1, .int (zi m))]) rfl ?_
      refine rev 5 (0 + 1) (m - 1) (fsw row 0 0) _ 0 0 (zRw_sw h) (fun q hq => by rw [zup_o hq, zup_o hq]) (by omega) (by omega) (by omega) (fun t'' g1 g2 => k1 _ t'' rfl ?_ g2)
      rw [e0]
      exact g1
    | succ n ih =>
      intro kf hk hn hkn hlas hj
      have fin : gjj row kf (n + 1) = n + 1 → ZX (d + 2) 105 41 [(3, .int (zi ((n + 1 : Nat) : Int))), (2, .int (zi kf)), (0, .ref 0), (1, .int (zi m))] [] t (zKi K) := by
        intro hf
        rw [hlas] at k1
        dsimp only at k1
        have e0 : gjj row kf (m - 1) = n + 1 := by rw [← hj]; exact hf
        refine z_aload_n zi_105_41 rfl ?_
        refine z_iload_n zi_105_42 rfl ?_
        refine z_iload_n zi_105_43 rfl ?_
        refine z_cv2v zi_105_44 rfl rfl rfl ⟨rfl, Nat.le_of_ble_eq_true rfl, Nat.le_of_ble_eq_true rfl⟩ (s_swap (m := m) (a := kf) (b := n + 1) h hm.2 rfl rfl hk hn ?_)
        refine z_iload_n zi_105_45 rfl ?_
        refine z_iconst zi_105_46 ?_
        refine z_iadd zi_105_47 ?_
        refine z_istore zi_105_48 rfl ?_
        refine z_iload_n zi_105_49 rfl ?_
        refine z_iconst zi_105_50 ?_
        refine z_isub zi_105_51 ?_
        refine z_istore zi_105_52 rfl ?_
        have e1 : (m : Int) - 1 = ((m - 1 : Nat) : Int) := by omega
        rw [e1]
        refine z_loc (lv' := [(5, .int (zi ((m - 1 : Nat) : Int))), (4, .int (zi ((kf + 1 : Nat) : Int))), (0, .ref 0), (1, .int (zi m))]) rfl ?_
        refine rev 5 (kf + 1) (m - 1) (fsw row kf (n + 1)) _ 0 0 (zRw_sw h) (fun q hq => by rw [zup_o hq, zup_o hq]) (by omega) (by omega) (by omega) (fun t'' g1 g2 => k1 _ t'' rfl ?_ g2)
        rw [e0]
        exact g1
      refine z_iload_n zi_105_27 rfl ?_
      refine z_iload_n zi_105_28 rfl ?_
      refine z_icmp_le zi_105_29 (by omega) (fun c => ?_) (fun c => ?_)
      · refine fin ?_
        have : kf = n + 1 := by omega
        subst this
        show (if row (n + 1) < row (n + 1) then _ else _) = _
        rw [if_neg (Nat.lt_irrefl _)]
      · have v1 := val (n + 1) hn
        have v2 := val kf hk
        refine z_aload_n zi_105_30 rfl ?_
        refine z_getfield zi_105_31 rfl ?_
        refine z_iload_n zi_105_32 rfl ?_
        refine z_cs2i zi_105_33 rfl rfl ⟨by decide, rfl, Nat.le_of_ble_eq_true rfl, Nat.le_of_ble_eq_true rfl⟩ (s_at (N := 5) (n := n + 1) rfl (by omega) rfl (by omega) ?_)
        rw [h (n + 1) hn]
        refine z_aload_n zi_105_34 rfl ?_
        refine z_getfield zi_105_35 rfl ?_
        refine z_iload_n zi_105_36 rfl ?_
        refine z_cs2i zi_105_37 rfl rfl ⟨by decide, rfl, Nat.le_of_ble_eq_true rfl, Nat.le_of_ble_eq_true rfl⟩ (s_at (N := 5) (n := kf) rfl (by omega) rfl (by omega) ?_)
        rw [h kf hk]
        refine z_icmp_ge zi_105_38 (by omega) (fun c2 => ?_) (fun c2 => ?_)
        · refine fin ?_
          show (if row (n + 1) < row kf then _ else _) = _
          rw [if_neg (by omega)]
        · refine z_iinc zi_105_39 rfl rfl ?_
          refine z_goto zi_105_40 ?_
          have e1 : ((n + 1 : Nat) : Int) + -1 = (n : Int) := by omega
          rw [e1]
          refine z_loc (lv' := [(3, .int (zi n)), (2, .int (zi kf)), (0, .ref 0), (1, .int (zi m))]) rfl ?_
          refine ih kf hk (by omega) (by omega) hlas ?_
          rw [← hj]
          show _ = (if row (n + 1) < row kf then _ else _)
          rw [if_pos (by omega)]
  -- the last ascent
  have fall : ∀ (n : Nat), n < m → las row n = las row (m - 1) → ZX (d + 2) 105 4 [(2, .int (zi ((n : Int) - 1))), (0, .ref 0), (1, .int (zi m))] [] t (zKi K) := by
    intro n
    induction n with
    | zero =>
      intro hn hl
      have hnone : las row (m - 1) = none := by rw [← hl]; rfl
      rw [hnone] at k0
      refine z_iload_n zi_105_4 rfl ?_
      refine z_if_lt_t zi_105_5 (by omega) (by omega) ?_
      refine z_iload_n zi_105_19 rfl ?_
      refine z_if_ge_f zi_105_20 (by omega) (by omega) ?_
      refine z_iconst zi_105_21 ?_
      refine z_zreturn zi_105_22 rfl (by omega) (k0 rfl)
    | succ n ih =>
      intro hn hl
      have e1 : ((n + 1 : Nat) : Int) - 1 = (n : Int) := by omega
      have v1 := val (n + 1) hn
      have v2 := val n (by omega)
      rw [e1]
      refine z_iload_n zi_105_4 rfl ?_
      refine z_if_lt_f zi_105_5 (by omega) (by omega) ?_
      refine z_aload_n zi_105_6 rfl ?_
      refine z_getfield zi_105_7 rfl ?_
      refine z_iload_n zi_105_8 rfl ?_
      refine z_cs2i zi_105_9 rfl rfl ⟨by decide, rfl, Nat.le_of_ble_eq_true rfl, Nat.le_of_ble_eq_true rfl⟩ (s_at (N := 5) (n := n) rfl (by omega) rfl (by omega) ?_)
      rw [h n (by omega)]
      refine z_aload_n zi_105_10 rfl ?_
      refine z_getfield zi_105_11 rfl ?_
      refine z_iload_n zi_105_12 rfl ?_
      refine z_iconst zi_105_13 ?_
      refine z_iadd zi_105_14 ?_
      refine z_cs2i zi_105_15 rfl rfl ⟨by decide, rfl, Nat.le_of_ble_eq_true rfl, Nat.le_of_ble_eq_true rfl⟩ (s_at (N := 5) (n := n + 1) rfl (by omega) (by omega) (by omega) ?_)
      rw [h (n + 1) hn]
      refine z_icmp_le zi_105_16 (by omega) (fun c => ?_) (fun c => ?_)
      · have hs : las row (m - 1) = some n := by
          rw [← hl]
          show (if row (n + 1) < row n then _ else _) = _
          rw [if_neg (by omega)]
        refine z_iload_n zi_105_19 rfl ?_
        refine z_if_ge_t zi_105_20 (by omega) (by omega) ?_
        refine z_iload_n zi_105_23 rfl ?_
        refine z_iconst zi_105_24 ?_
        refine z_isub zi_105_25 ?_
        refine z_istore_n zi_105_26 rfl ?_
        have e2 : (m : Int) - 1 = ((m - 1 : Nat) : Int) := by omega
        rw [e2]
        refine z_loc (lv' := [(3, .int (zi ((m - 1 : Nat) : Int))), (2, .int (zi n)), (0, .ref 0), (1, .int (zi m))]) rfl ?_
        exact grt (m - 1) n (by omega) (by omega) (by omega) hs rfl
      · refine z_iinc zi_105_17 rfl rfl ?_
        refine z_goto zi_105_18 ?_
        have e3 : (n : Int) + -1 = (n : Int) - 1 := by omega
        rw [e3]
        refine z_loc (lv' := [(2, .int (zi ((n : Int) - 1))), (0, .ref 0), (1, .int (zi m))]) rfl ?_
        refine ih (by omega) ?_
        rw [← hl]
        show _ = (if row (n + 1) < row n then _ else _)
        rw [if_pos (by omega)]
  refine z_iload_n zi_105_0 rfl ?_
  refine z_iconst zi_105_1 ?_
  refine z_isub zi_105_2 ?_
  refine z_istore_n zi_105_3 rfl ?_
  have e1 : (m : Int) - 2 = ((m - 1 : Nat) : Int) - 1 := by omega
  rw [e1]
  refine z_loc (lv' := [(2, .int (zi (((m - 1 : Nat) : Int) - 1))), (0, .ref 0), (1, .int (zi m))]) rfl ?_
  exact fall (m - 1) (by omega) rfl
end
