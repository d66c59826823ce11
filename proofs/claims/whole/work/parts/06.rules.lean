/-! rules of the small machine over whole numbers: zi n is the int of n -/
abbrev zMI := Nat → Nat → Int
def zi (n : Int) : Int32 := Int32.ofInt n
def zj (n : Int) : Int64 := Int64.ofInt n
theorem zi_add (a b : Int) : zi a + zi b = zi (a + b) := (Int32.ofInt_add a b).symm
theorem zi_sub (a b : Int) : zi a - zi b = zi (a - b) := (Int32.ofInt_sub a b).symm
theorem zi_mul (a b : Int) : zi a * zi b = zi (a * b) := (Int32.ofInt_mul a b).symm
theorem zi_neg (a : Int) : -zi a = zi (-a) := (Int32.ofInt_neg a).symm
theorem zi_toInt {a : Int} (h : -2147483648 ≤ a ∧ a < 2147483648) : (zi a).toInt = a := Int32.toInt_ofInt_of_le (by simpa using h.1) (by simpa using h.2)
theorem zi_of (x : Int32) : zi x.toInt = x := Int32.ofInt_toInt x
theorem zi_rng (x : Int32) : -2147483648 ≤ x.toInt ∧ x.toInt < 2147483648 := by
  have h1 := Int32.le_toInt x
  have h2 := Int32.toInt_lt x
  constructor
  · simpa using h1
  · simpa using h2
theorem zi_inj {a b : Int} (h : (-2147483648 ≤ a ∧ a < 2147483648) ∧ (-2147483648 ≤ b ∧ b < 2147483648)) : zi a = zi b ↔ a = b := by
  refine ⟨fun e => ?_, fun e => by rw [e]⟩
  have e1 := congrArg Int32.toInt e
  rwa [zi_toInt h.1, zi_toInt h.2] at e1
theorem zi_lt {a b : Int} (h : (-2147483648 ≤ a ∧ a < 2147483648) ∧ (-2147483648 ≤ b ∧ b < 2147483648)) : zi a < zi b ↔ a < b := by
  rw [Int32.lt_iff_toInt_lt, zi_toInt h.1, zi_toInt h.2]
theorem zi_le {a b : Int} (h : (-2147483648 ≤ a ∧ a < 2147483648) ∧ (-2147483648 ≤ b ∧ b < 2147483648)) : zi a ≤ zi b ↔ a ≤ b := by
  rw [Int32.le_iff_toInt_le, zi_toInt h.1, zi_toInt h.2]
theorem zi_0 : zi 0 = 0 := rfl
theorem zi_1 : zi 1 = 1 := rfl
theorem zi_clamp {a : Int} {n : Nat} (h : a = n) (hn : n < 2147483648) : (zi a).toNatClampNeg = n := by
  show (zi a).toInt.toNat = n
  rw [zi_toInt (by omega)]
  omega
theorem zi_in {a : Int} {n N : Nat} (h : a = n) (hn : n < N) (hN : N < 2147483648) : vp_in (zi a) N := by
  rw [vp_in_iff, zi_toInt (by omega)]
  omega
theorem zi_div {a b : Int} (ha : -2147483648 < a ∧ a < 2147483648) (hb : 0 < b ∧ b < 2147483648) : zi a / zi b = zi (a.tdiv b) := by
  rw [← Int32.toInt_inj, Int32.toInt_div, zi_toInt (by omega), zi_toInt (by omega)]
  have h1 : (a.tdiv b).natAbs ≤ a.natAbs := Int.natAbs_tdiv_le_natAbs a b
  rw [zi_toInt (by omega)]
  exact Int.bmod_eq_of_le (by simp; omega) (by simp; omega)
theorem zi_rem {a b : Int} (ha : -2147483648 < a ∧ a < 2147483648) (hb : 0 < b ∧ b < 2147483648) : zi a - zi a / zi b * zi b = zi (a.tmod b) := by
  rw [zi_div ha hb, zi_mul, zi_sub]
  congr 1
  have := Int.mul_tdiv_add_tmod a b
  rw [Int.mul_comm]
  omega
theorem zj_toInt {a : Int} (h : -9223372036854775808 ≤ a ∧ a < 9223372036854775808) : (zj a).toInt = a := Int64.toInt_ofInt_of_le (by simpa using h.1) (by simpa using h.2)
theorem zj_of (x : Int64) : zj x.toInt = x := Int64.ofInt_toInt x
theorem zj_rng (x : Int64) : -9223372036854775808 ≤ x.toInt ∧ x.toInt < 9223372036854775808 := by
  have h1 := Int64.le_toInt x
  have h2 := Int64.toInt_lt x
  constructor
  · simpa using h1
  · simpa using h2
theorem zi_l {a : Int} (h : -2147483648 ≤ a ∧ a < 2147483648) : (zi a).toInt64 = zj a := by
  rw [← Int64.toInt_inj, Int32.toInt_toInt64, zi_toInt h, zj_toInt (by omega)]
theorem zj_add (a b : Int) : zj a + zj b = zj (a + b) := (Int64.ofInt_add a b).symm
theorem zj_mul (a b : Int) : zj a * zj b = zj (a * b) := (Int64.ofInt_mul a b).symm
theorem zi_b8 : ∀ n : Int, -128 ≤ n ∧ n < 128 → (Int8.ofInt n).toInt32 = zi n := by
  intro n h
  rw [← Int32.toInt_inj, Int8.toInt_toInt32, Int8.toInt_ofInt_of_le (by simpa using h.1) (by simpa using h.2), zi_toInt (by omega)]
theorem zi_s16 : ∀ n : Int, -32768 ≤ n ∧ n < 32768 → (Int16.ofInt n).toInt32 = zi n := by
  intro n h
  rw [← Int32.toInt_inj, Int16.toInt_toInt32, Int16.toInt_ofInt_of_le (by simpa using h.1) (by simpa using h.2), zi_toInt (by omega)]
def zlf (t : zMI) : zM := fun k j => zi (t k j)
def zup (t : zMI) (b n : Nat) (v : Int) : zMI := fun k j => if k = b then (if j = n then v else t k j) else t k j
def zcpi (t : zMI) (a b n : Nat) : zMI := fun k j => if k = b then (if j < n then t a j else t k j) else t k j
theorem zlf_up (t : zMI) (b n : Nat) (v : Int) : zu (zlf t) b n (zi v) = zlf (zup t b n v) := by
  funext k j
  unfold zu zlf zup upd
  by_cases h : k = b
  · subst h
    rw [if_pos rfl, if_pos rfl]
    by_cases h2 : j = n
    · rw [if_pos h2, if_pos h2]
    · rw [if_neg h2, if_neg h2]
  · rw [if_neg h, if_neg h]
theorem zlf_cp (t : zMI) (a b n : Nat) : zcp (zlf t) a b 0 0 n = zlf (zcpi t a b n) := by
  funext k j
  unfold zcp zlf zcpi va_cpy
  by_cases h : k = b
  · subst h
    rw [if_pos rfl, if_pos rfl]
    by_cases h2 : j < n
    · rw [if_pos ⟨Nat.zero_le _, by omega⟩, if_pos h2]
      simp
    · rw [if_neg (by omega), if_neg h2]
  · rw [if_neg h, if_neg h]
def zWk (Z : zT) : Prop := ∀ d m i lv lv' st σ Q, (∀ q ∈ lv', q ∈ lv) → Z d m i lv' st σ Q → Z d m i lv st σ Q
/-- what every predicate has that is closed under the steps, and under forgetting locals -/
def ZD : zT := fun d m i lv st σ Q => ∀ Z : zT, zCl Z → zWk Z → Z d m i lv st σ Q
def ZX (d m i : Nat) (lv : List (Nat × Value)) (st : List Value) (t : zMI) (Q : Option Value → zMI → Prop) : Prop := ZD d m i lv st (zlf t) (fun r σ' => ∃ t', σ' = zlf t' ∧ Q r t')
def zKi (K : Int → zMI → Prop) : Option Value → zMI → Prop := fun r t => ∃ v, r = some (.int (zi v)) ∧ K v t
def zKv (K : zMI → Prop) : Option Value → zMI → Prop := fun r t => r = none ∧ K t
def zKr (K : Option Nat → zMI → Prop) : Option Value → zMI → Prop := fun r t => ∃ v : Option Nat, r = some (va_rf v) ∧ K v t
def zat (m i j : Nat) (I : Instr) (L : List Nat) : Prop := (∃ pc, (zP m)[i]? = some (pc, I, L)) ∧ i + 1 = j
theorem zfold {d m i pc : Nat} {I : Instr} {L : List Nat} {lv : List (Nat × Value)} {st : List Value} {σ : zM} {Q : Option Value → zM → Prop} (hc : (zP m)[i]? = some (pc, I, L)) (h : ∀ Z : zT, (zCl Z ∧ zWk Z) → zI Z d m i I L lv st σ Q) : ZD d m i lv st σ Q :=
  fun Z hZ hW => hZ _ _ _ _ _ _ _ (by unfold zst; rw [hc]; exact h Z ⟨hZ, hW⟩)
section
variable {d m i j : Nat} {L : List Nat} {lv : List (Nat × Value)} {st : List Value} {t : zMI} {Q : Option Value → zMI → Prop}
theorem z_sub {lv' : List (Nat × Value)} (ks : List Nat) (hl : lv_pick lv ks = lv') (k : ZX d m i lv' st t Q) : ZX d m i lv st t Q := fun Z hZ hW => hW _ _ _ _ _ _ _ _ (fun q hq => by
  rw [← hl] at hq
  obtain ⟨k, -, hk⟩ := List.mem_filterMap.mp hq
  exact List.mem_of_getElem? hk) (k Z hZ hW)
theorem z_eq {st' : List Value} (h : st = st') (k : ZX d m i lv st' t Q) : ZX d m i lv st t Q := h ▸ k
theorem z_lv {lv' : List (Nat × Value)} (h : lv = lv') (k : ZX d m i lv' st t Q) : ZX d m i lv st t Q := h ▸ k
theorem z_mem {t' : zMI} (h : t = t') (k : ZX d m i lv st t' Q) : ZX d m i lv st t Q := h ▸ k
theorem z_top {a b : Int} (h : a = b) (k : ZX d m i lv (.int (zi b) :: st) t Q) : ZX d m i lv (.int (zi a) :: st) t Q := h ▸ k
theorem z_topr {x : Int32} {b : Int} (h : x = zi b) (k : ZX d m i lv (.int (zi b) :: st) t Q) : ZX d m i lv (.int x :: st) t Q := h ▸ k
theorem z_topl {x : Int64} {b : Int} (h : x = zj b) (k : ZX d m i lv (.long (zj b) :: st) t Q) : ZX d m i lv (.long x :: st) t Q := h ▸ k
theorem z_iconst {n : Int} (hc : zat m i j (.iconst n) L) (k : ZX d m j lv (.int (zi n) :: st) t Q) : ZX d m i lv st t Q := by
  obtain ⟨⟨pc, hc⟩, rfl⟩ := hc
  refine zfold hc (fun Z hZ => ?_)
  exact k Z hZ.1 hZ.2
theorem z_bipush {n : Int} (hc : zat m i j (.bipush n) L) (hn : -128 ≤ n ∧ n < 128) (k : ZX d m j lv (.int (zi n) :: st) t Q) : ZX d m i lv st t Q := by
  obtain ⟨⟨pc, hc⟩, rfl⟩ := hc
  refine zfold hc (fun Z hZ => ?_)
  show Z d m (i + 1) lv (.int (Int8.ofInt n).toInt32 :: st) _ _
  rw [zi_b8 n hn]
  exact k Z hZ.1 hZ.2
theorem z_sipush {n : Int} (hc : zat m i j (.sipush n) L) (hn : -32768 ≤ n ∧ n < 32768) (k : ZX d m j lv (.int (zi n) :: st) t Q) : ZX d m i lv st t Q := by
  obtain ⟨⟨pc, hc⟩, rfl⟩ := hc
  refine zfold hc (fun Z hZ => ?_)
  show Z d m (i + 1) lv (.int (Int16.ofInt n).toInt32 :: st) _ _
  rw [zi_s16 n hn]
  exact k Z hZ.1 hZ.2
theorem z_ldc {x : Nat} {v : Int} (hc : zat m i j (.ldc x) L) (hv : zldc L = v) (k : ZX d m j lv (.int (zi v) :: st) t Q) : ZX d m i lv st t Q := by
  obtain ⟨⟨pc, hc⟩, rfl⟩ := hc
  refine zfold hc (fun Z hZ => ?_)
  subst hv
  exact k Z hZ.1 hZ.2
theorem z_ldc_w {x : Nat} {v : Int} (hc : zat m i j (.ldc_w x) L) (hv : zldc L = v) (k : ZX d m j lv (.int (zi v) :: st) t Q) : ZX d m i lv st t Q := by
  obtain ⟨⟨pc, hc⟩, rfl⟩ := hc
  refine zfold hc (fun Z hZ => ?_)
  subst hv
  exact k Z hZ.1 hZ.2
theorem z_ldc2_w {x : Nat} {v : Int} (hc : zat m i j (.ldc2_w x) L) (hv : zldc L = v) (k : ZX d m j lv (.long (zj v) :: st) t Q) : ZX d m i lv st t Q := by
  obtain ⟨⟨pc, hc⟩, rfl⟩ := hc
  refine zfold hc (fun Z hZ => ?_)
  subst hv
  exact k Z hZ.1 hZ.2
theorem z_lconst {n : Fin 2} {v : Int} (hc : zat m i j (.lconst n) L) (hv : Int64.ofNat (n : Nat) = zj v) (k : ZX d m j lv (.long (zj v) :: st) t Q) : ZX d m i lv st t Q := by
  obtain ⟨⟨pc, hc⟩, rfl⟩ := hc
  refine zfold hc (fun Z hZ => ?_)
  show Z d m (i + 1) lv (.long (Int64.ofNat (n : Nat)) :: st) _ _
  rw [hv]
  exact k Z hZ.1 hZ.2
theorem z_aconst_null (hc : zat m i j .aconst_null L) (k : ZX d m j lv (.null :: st) t Q) : ZX d m i lv st t Q := by
  obtain ⟨⟨pc, hc⟩, rfl⟩ := hc
  refine zfold hc (fun Z hZ => ?_)
  exact k Z hZ.1 hZ.2
theorem z_iload {n : Nat} {x : Int32} (hc : zat m i j (.iload n) L) (hg : zg lv n = some (.int x)) (k : ZX d m j lv (.int x :: st) t Q) : ZX d m i lv st t Q := by
  obtain ⟨⟨pc, hc⟩, rfl⟩ := hc
  refine zfold hc (fun Z hZ => ?_)
  exact ⟨x, hg, k Z hZ.1 hZ.2⟩
theorem z_iload_n {n : Fin 4} {x : Int32} (hc : zat m i j (.iload_n n) L) (hg : zg lv n.val = some (.int x)) (k : ZX d m j lv (.int x :: st) t Q) : ZX d m i lv st t Q := by
  obtain ⟨⟨pc, hc⟩, rfl⟩ := hc
  refine zfold hc (fun Z hZ => ?_)
  exact ⟨x, hg, k Z hZ.1 hZ.2⟩
theorem z_lload {n : Nat} {x : Int64} (hc : zat m i j (.lload n) L) (hg : zg lv n = some (.long x)) (k : ZX d m j lv (.long x :: st) t Q) : ZX d m i lv st t Q := by
  obtain ⟨⟨pc, hc⟩, rfl⟩ := hc
  refine zfold hc (fun Z hZ => ?_)
  exact ⟨x, hg, k Z hZ.1 hZ.2⟩
theorem z_lload_n {n : Fin 4} {x : Int64} (hc : zat m i j (.lload_n n) L) (hg : zg lv n.val = some (.long x)) (k : ZX d m j lv (.long x :: st) t Q) : ZX d m i lv st t Q := by
  obtain ⟨⟨pc, hc⟩, rfl⟩ := hc
  refine zfold hc (fun Z hZ => ?_)
  exact ⟨x, hg, k Z hZ.1 hZ.2⟩
theorem z_aload {n : Nat} {b : Nat} (hc : zat m i j (.aload n) L) (hg : zg lv n = some (.ref b)) (k : ZX d m j lv (.ref b :: st) t Q) : ZX d m i lv st t Q := by
  obtain ⟨⟨pc, hc⟩, rfl⟩ := hc
  refine zfold hc (fun Z hZ => ?_)
  exact ⟨_, hg, Or.inr ⟨_, rfl⟩, k Z hZ.1 hZ.2⟩
theorem z_aloadN {n : Nat} (hc : zat m i j (.aload n) L) (hg : zg lv n = some .null) (k : ZX d m j lv (.null :: st) t Q) : ZX d m i lv st t Q := by
  obtain ⟨⟨pc, hc⟩, rfl⟩ := hc
  refine zfold hc (fun Z hZ => ?_)
  exact ⟨_, hg, Or.inl rfl, k Z hZ.1 hZ.2⟩
theorem z_aload_n {n : Fin 4} {b : Nat} (hc : zat m i j (.aload_n n) L) (hg : zg lv n.val = some (.ref b)) (k : ZX d m j lv (.ref b :: st) t Q) : ZX d m i lv st t Q := by
  obtain ⟨⟨pc, hc⟩, rfl⟩ := hc
  refine zfold hc (fun Z hZ => ?_)
  exact ⟨_, hg, Or.inr ⟨_, rfl⟩, k Z hZ.1 hZ.2⟩
theorem z_aload_nN {n : Fin 4} (hc : zat m i j (.aload_n n) L) (hg : zg lv n.val = some .null) (k : ZX d m j lv (.null :: st) t Q) : ZX d m i lv st t Q := by
  obtain ⟨⟨pc, hc⟩, rfl⟩ := hc
  refine zfold hc (fun Z hZ => ?_)
  exact ⟨_, hg, Or.inl rfl, k Z hZ.1 hZ.2⟩
theorem z_istore {n : Nat} {x : Int32} {lv' : List (Nat × Value)} (hc : zat m i j (.istore n) L) (hl : zs lv n (.int x) = lv') (k : ZX d m j lv' st t Q) : ZX d m i lv (.int x :: st) t Q := by
  obtain ⟨⟨pc, hc⟩, rfl⟩ := hc
  refine zfold hc (fun Z hZ => ?_)
  subst hl
  exact k Z hZ.1 hZ.2
theorem z_istore_n {n : Fin 4} {x : Int32} {lv' : List (Nat × Value)} (hc : zat m i j (.istore_n n) L) (hl : zs lv n.val (.int x) = lv') (k : ZX d m j lv' st t Q) : ZX d m i lv (.int x :: st) t Q := by
  obtain ⟨⟨pc, hc⟩, rfl⟩ := hc
  refine zfold hc (fun Z hZ => ?_)
  subst hl
  exact k Z hZ.1 hZ.2
theorem z_astore {n : Nat} {b : Nat} {lv' : List (Nat × Value)} (hc : zat m i j (.astore n) L) (hl : zs lv n (.ref b) = lv') (k : ZX d m j lv' st t Q) : ZX d m i lv (.ref b :: st) t Q := by
  obtain ⟨⟨pc, hc⟩, rfl⟩ := hc
  refine zfold hc (fun Z hZ => ?_)
  subst hl
  exact ⟨Or.inr ⟨_, rfl⟩, k Z hZ.1 hZ.2⟩
theorem z_astoreN {n : Nat} {lv' : List (Nat × Value)} (hc : zat m i j (.astore n) L) (hl : zs lv n .null = lv') (k : ZX d m j lv' st t Q) : ZX d m i lv (.null :: st) t Q := by
  obtain ⟨⟨pc, hc⟩, rfl⟩ := hc
  refine zfold hc (fun Z hZ => ?_)
  subst hl
  exact ⟨Or.inl rfl, k Z hZ.1 hZ.2⟩
theorem z_astore_n {n : Fin 4} {b : Nat} {lv' : List (Nat × Value)} (hc : zat m i j (.astore_n n) L) (hl : zs lv n.val (.ref b) = lv') (k : ZX d m j lv' st t Q) : ZX d m i lv (.ref b :: st) t Q := by
  obtain ⟨⟨pc, hc⟩, rfl⟩ := hc
  refine zfold hc (fun Z hZ => ?_)
  subst hl
  exact ⟨Or.inr ⟨_, rfl⟩, k Z hZ.1 hZ.2⟩
theorem z_astore_nN {n : Fin 4} {lv' : List (Nat × Value)} (hc : zat m i j (.astore_n n) L) (hl : zs lv n.val .null = lv') (k : ZX d m j lv' st t Q) : ZX d m i lv (.null :: st) t Q := by
  obtain ⟨⟨pc, hc⟩, rfl⟩ := hc
  refine zfold hc (fun Z hZ => ?_)
  subst hl
  exact ⟨Or.inl rfl, k Z hZ.1 hZ.2⟩
theorem z_iinc {n : Nat} {c a : Int} {lv' : List (Nat × Value)} (hc : zat m i j (.iinc n c) L) (hg : zg lv n = some (.int (zi a))) (hl : zs lv n (.int (zi (a + c))) = lv') (k : ZX d m j lv' st t Q) : ZX d m i lv st t Q := by
  obtain ⟨⟨pc, hc⟩, rfl⟩ := hc
  refine zfold hc (fun Z hZ => ?_)
  subst hl
  refine ⟨_, hg, ?_⟩
  show Z d m (i + 1) (zs lv n (.int (zi a + zi c))) st _ _
  rw [zi_add]
  exact k Z hZ.1 hZ.2
theorem z_iadd {a b : Int} (hc : zat m i j .iadd L) (k : ZX d m j lv (.int (zi (a + b)) :: st) t Q) : ZX d m i lv (.int (zi b) :: .int (zi a) :: st) t Q := by
  obtain ⟨⟨pc, hc⟩, rfl⟩ := hc
  refine zfold hc (fun Z hZ => ?_)
  show Z d m (i + 1) lv (.int (zi a + zi b) :: st) _ _
  rw [zi_add]
  exact k Z hZ.1 hZ.2
theorem z_isub {a b : Int} (hc : zat m i j .isub L) (k : ZX d m j lv (.int (zi (a - b)) :: st) t Q) : ZX d m i lv (.int (zi b) :: .int (zi a) :: st) t Q := by
  obtain ⟨⟨pc, hc⟩, rfl⟩ := hc
  refine zfold hc (fun Z hZ => ?_)
  show Z d m (i + 1) lv (.int (zi a - zi b) :: st) _ _
  rw [zi_sub]
  exact k Z hZ.1 hZ.2
theorem z_imul {a b : Int} (hc : zat m i j .imul L) (k : ZX d m j lv (.int (zi (a * b)) :: st) t Q) : ZX d m i lv (.int (zi b) :: .int (zi a) :: st) t Q := by
  obtain ⟨⟨pc, hc⟩, rfl⟩ := hc
  refine zfold hc (fun Z hZ => ?_)
  show Z d m (i + 1) lv (.int (zi a * zi b) :: st) _ _
  rw [zi_mul]
  exact k Z hZ.1 hZ.2
theorem z_idiv {a b : Int} (hc : zat m i j .idiv L) (h : (-2147483648 < a ∧ a < 2147483648) ∧ (0 < b ∧ b < 2147483648)) (k : ZX d m j lv (.int (zi (a.tdiv b)) :: st) t Q) : ZX d m i lv (.int (zi b) :: .int (zi a) :: st) t Q := by
  obtain ⟨⟨pc, hc⟩, rfl⟩ := hc
  refine zfold hc (fun Z hZ => ?_)
  have hb : ¬ zi b = 0 := fun e => by
    have e1 := (zi_inj (a := b) (b := 0) (by omega)).mp e
    omega
  refine ⟨hb, ?_⟩
  rw [zi_div h.1 h.2]
  exact k Z hZ.1 hZ.2
theorem z_irem {a b : Int} (hc : zat m i j .irem L) (h : (-2147483648 < a ∧ a < 2147483648) ∧ (0 < b ∧ b < 2147483648)) (k : ZX d m j lv (.int (zi (a.tmod b)) :: st) t Q) : ZX d m i lv (.int (zi b) :: .int (zi a) :: st) t Q := by
  obtain ⟨⟨pc, hc⟩, rfl⟩ := hc
  refine zfold hc (fun Z hZ => ?_)
  have hb : ¬ zi b = 0 := fun e => by
    have e1 := (zi_inj (a := b) (b := 0) (by omega)).mp e
    omega
  refine ⟨hb, ?_⟩
  rw [zi_rem h.1 h.2]
  exact k Z hZ.1 hZ.2
theorem z_ineg {a : Int} (hc : zat m i j .ineg L) (k : ZX d m j lv (.int (zi (-a)) :: st) t Q) : ZX d m i lv (.int (zi a) :: st) t Q := by
  obtain ⟨⟨pc, hc⟩, rfl⟩ := hc
  refine zfold hc (fun Z hZ => ?_)
  show Z d m (i + 1) lv (.int (-zi a) :: st) _ _
  rw [zi_neg]
  exact k Z hZ.1 hZ.2
theorem z_iand {x y : Int32} {v : Int} (hc : zat m i j .iand L) (hv : x &&& y = zi v) (k : ZX d m j lv (.int (zi v) :: st) t Q) : ZX d m i lv (.int y :: .int x :: st) t Q := by
  obtain ⟨⟨pc, hc⟩, rfl⟩ := hc
  refine zfold hc (fun Z hZ => ?_)
  show Z d m (i + 1) lv (.int (x &&& y) :: st) _ _
  rw [hv]
  exact k Z hZ.1 hZ.2
theorem z_ior {x y : Int32} {v : Int} (hc : zat m i j .ior L) (hv : x ||| y = zi v) (k : ZX d m j lv (.int (zi v) :: st) t Q) : ZX d m i lv (.int y :: .int x :: st) t Q := by
  obtain ⟨⟨pc, hc⟩, rfl⟩ := hc
  refine zfold hc (fun Z hZ => ?_)
  show Z d m (i + 1) lv (.int (x ||| y) :: st) _ _
  rw [hv]
  exact k Z hZ.1 hZ.2
theorem z_ixor {x y : Int32} {v : Int} (hc : zat m i j .ixor L) (hv : x ^^^ y = zi v) (k : ZX d m j lv (.int (zi v) :: st) t Q) : ZX d m i lv (.int y :: .int x :: st) t Q := by
  obtain ⟨⟨pc, hc⟩, rfl⟩ := hc
  refine zfold hc (fun Z hZ => ?_)
  show Z d m (i + 1) lv (.int (x ^^^ y) :: st) _ _
  rw [hv]
  exact k Z hZ.1 hZ.2
theorem z_ishl {x y : Int32} {v : Int} (hc : zat m i j .ishl L) (hv : x <<< (y &&& 31) = zi v) (k : ZX d m j lv (.int (zi v) :: st) t Q) : ZX d m i lv (.int y :: .int x :: st) t Q := by
  obtain ⟨⟨pc, hc⟩, rfl⟩ := hc
  refine zfold hc (fun Z hZ => ?_)
  show Z d m (i + 1) lv (.int (x <<< (y &&& 31)) :: st) _ _
  rw [hv]
  exact k Z hZ.1 hZ.2
theorem z_ishr {x y : Int32} {v : Int} (hc : zat m i j .ishr L) (hv : x >>> (y &&& 31) = zi v) (k : ZX d m j lv (.int (zi v) :: st) t Q) : ZX d m i lv (.int y :: .int x :: st) t Q := by
  obtain ⟨⟨pc, hc⟩, rfl⟩ := hc
  refine zfold hc (fun Z hZ => ?_)
  show Z d m (i + 1) lv (.int (x >>> (y &&& 31)) :: st) _ _
  rw [hv]
  exact k Z hZ.1 hZ.2
theorem z_iushr {x y : Int32} {v : Int} (hc : zat m i j .iushr L) (hv : (x.toUInt32 >>> (y.toUInt32 &&& Int32.toUInt32 31)).toInt32 = zi v) (k : ZX d m j lv (.int (zi v) :: st) t Q) : ZX d m i lv (.int y :: .int x :: st) t Q := by
  obtain ⟨⟨pc, hc⟩, rfl⟩ := hc
  refine zfold hc (fun Z hZ => ?_)
  show Z d m (i + 1) lv (.int ((x.toUInt32 >>> (y.toUInt32 &&& Int32.toUInt32 31)).toInt32) :: st) _ _
  rw [hv]
  exact k Z hZ.1 hZ.2
theorem z_land {x y : Int64} {v : Int} (hc : zat m i j .land L) (hv : x &&& y = zj v) (k : ZX d m j lv (.long (zj v) :: st) t Q) : ZX d m i lv (.long y :: .long x :: st) t Q := by
  obtain ⟨⟨pc, hc⟩, rfl⟩ := hc
  refine zfold hc (fun Z hZ => ?_)
  show Z d m (i + 1) lv (.long (x &&& y) :: st) _ _
  rw [hv]
  exact k Z hZ.1 hZ.2
theorem z_lor {x y : Int64} {v : Int} (hc : zat m i j .lor L) (hv : x ||| y = zj v) (k : ZX d m j lv (.long (zj v) :: st) t Q) : ZX d m i lv (.long y :: .long x :: st) t Q := by
  obtain ⟨⟨pc, hc⟩, rfl⟩ := hc
  refine zfold hc (fun Z hZ => ?_)
  show Z d m (i + 1) lv (.long (x ||| y) :: st) _ _
  rw [hv]
  exact k Z hZ.1 hZ.2
theorem z_lshl {x : Int64} {y : Int32} {v : Int} (hc : zat m i j .lshl L) (hv : x <<< (y.toInt64 &&& 63) = zj v) (k : ZX d m j lv (.long (zj v) :: st) t Q) : ZX d m i lv (.int y :: .long x :: st) t Q := by
  obtain ⟨⟨pc, hc⟩, rfl⟩ := hc
  refine zfold hc (fun Z hZ => ?_)
  show Z d m (i + 1) lv (.long (x <<< (y.toInt64 &&& 63)) :: st) _ _
  rw [hv]
  exact k Z hZ.1 hZ.2
theorem z_lshr {x : Int64} {y : Int32} {v : Int} (hc : zat m i j .lshr L) (hv : x >>> (y.toInt64 &&& 63) = zj v) (k : ZX d m j lv (.long (zj v) :: st) t Q) : ZX d m i lv (.int y :: .long x :: st) t Q := by
  obtain ⟨⟨pc, hc⟩, rfl⟩ := hc
  refine zfold hc (fun Z hZ => ?_)
  show Z d m (i + 1) lv (.long (x >>> (y.toInt64 &&& 63)) :: st) _ _
  rw [hv]
  exact k Z hZ.1 hZ.2
theorem z_lushr {x : Int64} {y : Int32} {v : Int} (hc : zat m i j .lushr L) (hv : (x.toUInt64 >>> (y.toInt64.toUInt64 &&& Int64.toUInt64 63)).toInt64 = zj v) (k : ZX d m j lv (.long (zj v) :: st) t Q) : ZX d m i lv (.int y :: .long x :: st) t Q := by
  obtain ⟨⟨pc, hc⟩, rfl⟩ := hc
  refine zfold hc (fun Z hZ => ?_)
  show Z d m (i + 1) lv (.long ((x.toUInt64 >>> (y.toInt64.toUInt64 &&& Int64.toUInt64 63)).toInt64) :: st) _ _
  rw [hv]
  exact k Z hZ.1 hZ.2
theorem z_ladd {a b : Int} (hc : zat m i j .ladd L) (k : ZX d m j lv (.long (zj (a + b)) :: st) t Q) : ZX d m i lv (.long (zj b) :: .long (zj a) :: st) t Q := by
  obtain ⟨⟨pc, hc⟩, rfl⟩ := hc
  refine zfold hc (fun Z hZ => ?_)
  show Z d m (i + 1) lv (.long (zj a + zj b) :: st) _ _
  rw [zj_add]
  exact k Z hZ.1 hZ.2
theorem z_lmul {a b : Int} (hc : zat m i j .lmul L) (k : ZX d m j lv (.long (zj (a * b)) :: st) t Q) : ZX d m i lv (.long (zj b) :: .long (zj a) :: st) t Q := by
  obtain ⟨⟨pc, hc⟩, rfl⟩ := hc
  refine zfold hc (fun Z hZ => ?_)
  show Z d m (i + 1) lv (.long (zj a * zj b) :: st) _ _
  rw [zj_mul]
  exact k Z hZ.1 hZ.2
theorem z_i2l {a : Int} (hc : zat m i j .i2l L) (h : -2147483648 ≤ a ∧ a < 2147483648) (k : ZX d m j lv (.long (zj a) :: st) t Q) : ZX d m i lv (.int (zi a) :: st) t Q := by
  obtain ⟨⟨pc, hc⟩, rfl⟩ := hc
  refine zfold hc (fun Z hZ => ?_)
  show Z d m (i + 1) lv (.long (zi a).toInt64 :: st) _ _
  rw [zi_l h]
  exact k Z hZ.1 hZ.2
theorem z_l2i {x : Int64} {v : Int} (hc : zat m i j .l2i L) (hv : x.toInt32 = zi v) (k : ZX d m j lv (.int (zi v) :: st) t Q) : ZX d m i lv (.long x :: st) t Q := by
  obtain ⟨⟨pc, hc⟩, rfl⟩ := hc
  refine zfold hc (fun Z hZ => ?_)
  show Z d m (i + 1) lv (.int x.toInt32 :: st) _ _
  rw [hv]
  exact k Z hZ.1 hZ.2
theorem z_i2b {x : Int32} {v : Int} (hc : zat m i j .i2b L) (hv : x.toInt8.toInt32 = zi v) (k : ZX d m j lv (.int (zi v) :: st) t Q) : ZX d m i lv (.int x :: st) t Q := by
  obtain ⟨⟨pc, hc⟩, rfl⟩ := hc
  refine zfold hc (fun Z hZ => ?_)
  show Z d m (i + 1) lv (.int x.toInt8.toInt32 :: st) _ _
  rw [hv]
  exact k Z hZ.1 hZ.2
theorem z_i2s {x : Int32} {v : Int} (hc : zat m i j .i2s L) (hv : x.toInt16.toInt32 = zi v) (k : ZX d m j lv (.int (zi v) :: st) t Q) : ZX d m i lv (.int x :: st) t Q := by
  obtain ⟨⟨pc, hc⟩, rfl⟩ := hc
  refine zfold hc (fun Z hZ => ?_)
  show Z d m (i + 1) lv (.int x.toInt16.toInt32 :: st) _ _
  rw [hv]
  exact k Z hZ.1 hZ.2
theorem z_lcmp {x y : Int64} {v : Int} (hc : zat m i j .lcmp L) (hv : lg_cmp x y = zi v) (k : ZX d m j lv (.int (zi v) :: st) t Q) : ZX d m i lv (.long y :: .long x :: st) t Q := by
  obtain ⟨⟨pc, hc⟩, rfl⟩ := hc
  refine zfold hc (fun Z hZ => ?_)
  show Z d m (i + 1) lv (.int (lg_cmp x y) :: st) _ _
  rw [hv]
  exact k Z hZ.1 hZ.2
theorem z_dup {v : Value} (hc : zat m i j .dup L) (hv : v.category = 1) (k : ZX d m j lv (v :: v :: st) t Q) : ZX d m i lv (v :: st) t Q := by
  obtain ⟨⟨pc, hc⟩, rfl⟩ := hc
  refine zfold hc (fun Z hZ => ?_)
  exact ⟨hv, k Z hZ.1 hZ.2⟩
theorem z_dup2 {v w : Value} (hc : zat m i j .dup2 L) (hv : v.category = 1) (hw : w.category = 1) (k : ZX d m j lv (v :: w :: v :: w :: st) t Q) : ZX d m i lv (v :: w :: st) t Q := by
  obtain ⟨⟨pc, hc⟩, rfl⟩ := hc
  refine zfold hc (fun Z hZ => ?_)
  exact ⟨hv, hw, k Z hZ.1 hZ.2⟩
theorem z_pop {v : Value} (hc : zat m i j .pop L) (hv : v.category = 1) (k : ZX d m j lv st t Q) : ZX d m i lv (v :: st) t Q := by
  obtain ⟨⟨pc, hc⟩, rfl⟩ := hc
  refine zfold hc (fun Z hZ => ?_)
  exact ⟨hv, k Z hZ.1 hZ.2⟩
theorem z_getfield {x b ci f p : Nat} {v : Value} (hc : zat m i j (.getfield x) [ci, f, p]) (hv : zf (zlf t) b ci f = some v) (k : ZX d m j lv (v :: st) t Q) : ZX d m i lv (.ref b :: st) t Q := by
  obtain ⟨⟨pc, hc⟩, rfl⟩ := hc
  refine zfold hc (fun Z hZ => ?_)
  exact ⟨v, hv, k Z hZ.1 hZ.2⟩
theorem z_putfield {x b ci f p : Nat} {a : Int} (hc : zat m i j (.putfield x) [ci, f, p]) (hf : zfi b ci f = true) (hty : zfd ci f = "I" ∨ (zfd ci f = "Z" ∧ (a = 0 ∨ a = 1))) (k : ZX d m j lv st (zup t b f a) Q) : ZX d m i lv (.int (zi a) :: .ref b :: st) t Q := by
  obtain ⟨⟨pc, hc⟩, rfl⟩ := hc
  refine zfold hc (fun Z hZ => ?_)
  refine ⟨hf, ?_, ?_⟩
  · rcases hty with h | ⟨h, h2⟩
    · exact Or.inl h
    · refine Or.inr ⟨h, ?_⟩
      rcases h2 with rfl | rfl
      · exact Or.inl rfl
      · exact Or.inr rfl
  · show Z d m (i + 1) lv st (zu (zlf t) b f (zi a)) _
    rw [zlf_up]
    exact k Z hZ.1 hZ.2
theorem z_iaload {b : Nat} {a : Int} {n N : Nat} (hc : zat m i j .iaload L) (hy : zLy[b]? = some (.inl N)) (hN : N < 2147483648) (ha : a = (n : Int)) (hn : n < N) (k : ZX d m j lv (.int (zi (t b n)) :: st) t Q) : ZX d m i lv (.int (zi a) :: .ref b :: st) t Q := by
  obtain ⟨⟨pc, hc⟩, rfl⟩ := hc
  refine zfold hc (fun Z hZ => ?_)
  refine ⟨N, hy, zi_in ha hn hN, ?_⟩
  rw [zi_clamp ha (by omega)]
  exact k Z hZ.1 hZ.2
theorem z_iastore {b : Nat} {a v : Int} {n N : Nat} (hc : zat m i j .iastore L) (hy : zLy[b]? = some (.inl N)) (hN : N < 2147483648) (ha : a = (n : Int)) (hn : n < N) (k : ZX d m j lv st (zup t b n v) Q) : ZX d m i lv (.int (zi v) :: .int (zi a) :: .ref b :: st) t Q := by
  obtain ⟨⟨pc, hc⟩, rfl⟩ := hc
  refine zfold hc (fun Z hZ => ?_)
  refine ⟨N, hy, zi_in ha hn hN, ?_⟩
  rw [zi_clamp ha (by omega), zlf_up]
  exact k Z hZ.1 hZ.2
theorem z_aaload {b q : Nat} {a : Int} {n : Nat} {rs : List Nat} (hc : zat m i j .aaload L) (hy : zLy[b]? = some (.inr (.inr rs))) (hN : rs.length < 2147483648) (ha : a = (n : Int)) (hq : rs[n]? = some q) (k : ZX d m j lv (.ref q :: st) t Q) : ZX d m i lv (.int (zi a) :: .ref b :: st) t Q := by
  obtain ⟨⟨pc, hc⟩, rfl⟩ := hc
  have hn := (List.getElem?_eq_some_iff.mp hq).1
  refine zfold hc (fun Z hZ => ?_)
  refine ⟨rs, q, hy, zi_in ha hn hN, ?_, k Z hZ.1 hZ.2⟩
  rw [zi_clamp ha (by omega)]
  exact hq
theorem z_alen {b N : Nat} (hc : zat m i j .arraylength L) (hy : zLy[b]? = some (.inl N)) (k : ZX d m j lv (.int (zi (N : Int)) :: st) t Q) : ZX d m i lv (.ref b :: st) t Q := by
  obtain ⟨⟨pc, hc⟩, rfl⟩ := hc
  refine zfold hc (fun Z hZ => ?_)
  refine ⟨N, Or.inl hy, ?_⟩
  have e : Int32.ofNat N = zi (N : Int) := rfl
  rw [e]
  exact k Z hZ.1 hZ.2
theorem z_alenq {b N : Nat} {rs : List Nat} (hc : zat m i j .arraylength L) (hy : zLy[b]? = some (.inr (.inr rs))) (hN : rs.length = N) (k : ZX d m j lv (.int (zi (N : Int)) :: st) t Q) : ZX d m i lv (.ref b :: st) t Q := by
  obtain ⟨⟨pc, hc⟩, rfl⟩ := hc
  refine zfold hc (fun Z hZ => ?_)
  refine ⟨N, Or.inr ⟨rs, hy, hN⟩, ?_⟩
  have e : Int32.ofNat N = zi (N : Int) := rfl
  rw [e]
  exact k Z hZ.1 hZ.2
theorem z_goto {off : Int} {g : Nat} (hc : zat m i j (.goto off) [g]) (k : ZX d m g lv st t Q) : ZX d m i lv st t Q := by
  obtain ⟨⟨pc, hc⟩, rfl⟩ := hc
  refine zfold hc (fun Z hZ => ?_)
  exact k Z hZ.1 hZ.2
theorem zcc_eq {a b : Int} (h : ((-2147483648 ≤ a ∧ a < 2147483648) ∧ (-2147483648 ≤ b ∧ b < 2147483648))) : zcc .eq (zi a) (zi b) ↔ a = b := by
  show zi a = zi b ↔ _
  rw [zi_inj h]
theorem z_icmp_eq {off : Int} {g : Nat} {a b : Int} (hc : zat m i j (.if_icmp .eq off) [g]) (h : ((-2147483648 ≤ a ∧ a < 2147483648) ∧ (-2147483648 ≤ b ∧ b < 2147483648))) (kt : a = b → ZX d m g lv st t Q) (kf : ¬ (a = b) → ZX d m j lv st t Q) : ZX d m i lv (.int (zi b) :: .int (zi a) :: st) t Q := by
  obtain ⟨⟨pc, hc⟩, rfl⟩ := hc
  refine zfold hc (fun Z hZ => ?_)
  exact ⟨fun q => kt ((zcc_eq h).mp q) Z hZ.1 hZ.2, fun q => kf (fun q2 => q ((zcc_eq h).mpr q2)) Z hZ.1 hZ.2⟩
theorem z_if_eq {off : Int} {g : Nat} {a : Int} (hc : zat m i j (.ifCond .eq off) [g]) (h : -2147483648 ≤ a ∧ a < 2147483648) (kt : a = 0 → ZX d m g lv st t Q) (kf : ¬ (a = 0) → ZX d m j lv st t Q) : ZX d m i lv (.int (zi a) :: st) t Q := by
  obtain ⟨⟨pc, hc⟩, rfl⟩ := hc
  refine zfold hc (fun Z hZ => ?_)
  exact ⟨fun q => kt ((zcc_eq (b := 0) ⟨h, by omega⟩).mp q) Z hZ.1 hZ.2, fun q => kf (fun q2 => q ((zcc_eq (b := 0) ⟨h, by omega⟩).mpr q2)) Z hZ.1 hZ.2⟩
theorem z_icmp_eq_t {off : Int} {g : Nat} {a b : Int} (hc : zat m i j (.if_icmp .eq off) [g]) (h : ((-2147483648 ≤ a ∧ a < 2147483648) ∧ (-2147483648 ≤ b ∧ b < 2147483648))) (hp : a = b) (kt : ZX d m g lv st t Q) : ZX d m i lv (.int (zi b) :: .int (zi a) :: st) t Q := z_icmp_eq hc h (fun _ => kt) (fun q => absurd hp q)
theorem z_icmp_eq_f {off : Int} {g : Nat} {a b : Int} (hc : zat m i j (.if_icmp .eq off) [g]) (h : ((-2147483648 ≤ a ∧ a < 2147483648) ∧ (-2147483648 ≤ b ∧ b < 2147483648))) (hp : ¬ (a = b)) (kf : ZX d m j lv st t Q) : ZX d m i lv (.int (zi b) :: .int (zi a) :: st) t Q := z_icmp_eq hc h (fun q => absurd q hp) (fun _ => kf)
theorem z_if_eq_t {off : Int} {g : Nat} {a : Int} (hc : zat m i j (.ifCond .eq off) [g]) (h : -2147483648 ≤ a ∧ a < 2147483648) (hp : a = 0) (kt : ZX d m g lv st t Q) : ZX d m i lv (.int (zi a) :: st) t Q := z_if_eq hc h (fun _ => kt) (fun q => absurd hp q)
theorem z_if_eq_f {off : Int} {g : Nat} {a : Int} (hc : zat m i j (.ifCond .eq off) [g]) (h : -2147483648 ≤ a ∧ a < 2147483648) (hp : ¬ (a = 0)) (kf : ZX d m j lv st t Q) : ZX d m i lv (.int (zi a) :: st) t Q := z_if_eq hc h (fun q => absurd q hp) (fun _ => kf)
theorem zcc_ne {a b : Int} (h : ((-2147483648 ≤ a ∧ a < 2147483648) ∧ (-2147483648 ≤ b ∧ b < 2147483648))) : zcc .ne (zi a) (zi b) ↔ ¬ a = b := by
  show ¬ zi a = zi b ↔ _
  rw [zi_inj h]
theorem z_icmp_ne {off : Int} {g : Nat} {a b : Int} (hc : zat m i j (.if_icmp .ne off) [g]) (h : ((-2147483648 ≤ a ∧ a < 2147483648) ∧ (-2147483648 ≤ b ∧ b < 2147483648))) (kt : ¬ a = b → ZX d m g lv st t Q) (kf : ¬ (¬ a = b) → ZX d m j lv st t Q) : ZX d m i lv (.int (zi b) :: .int (zi a) :: st) t Q := by
  obtain ⟨⟨pc, hc⟩, rfl⟩ := hc
  refine zfold hc (fun Z hZ => ?_)
  exact ⟨fun q => kt ((zcc_ne h).mp q) Z hZ.1 hZ.2, fun q => kf (fun q2 => q ((zcc_ne h).mpr q2)) Z hZ.1 hZ.2⟩
theorem z_if_ne {off : Int} {g : Nat} {a : Int} (hc : zat m i j (.ifCond .ne off) [g]) (h : -2147483648 ≤ a ∧ a < 2147483648) (kt : ¬ a = 0 → ZX d m g lv st t Q) (kf : ¬ (¬ a = 0) → ZX d m j lv st t Q) : ZX d m i lv (.int (zi a) :: st) t Q := by
  obtain ⟨⟨pc, hc⟩, rfl⟩ := hc
  refine zfold hc (fun Z hZ => ?_)
  exact ⟨fun q => kt ((zcc_ne (b := 0) ⟨h, by omega⟩).mp q) Z hZ.1 hZ.2, fun q => kf (fun q2 => q ((zcc_ne (b := 0) ⟨h, by omega⟩).mpr q2)) Z hZ.1 hZ.2⟩
theorem z_icmp_ne_t {off : Int} {g : Nat} {a b : Int} (hc : zat m i j (.if_icmp .ne off) [g]) (h : ((-2147483648 ≤ a ∧ a < 2147483648) ∧ (-2147483648 ≤ b ∧ b < 2147483648))) (hp : ¬ a = b) (kt : ZX d m g lv st t Q) : ZX d m i lv (.int (zi b) :: .int (zi a) :: st) t Q := z_icmp_ne hc h (fun _ => kt) (fun q => absurd hp q)
theorem z_icmp_ne_f {off : Int} {g : Nat} {a b : Int} (hc : zat m i j (.if_icmp .ne off) [g]) (h : ((-2147483648 ≤ a ∧ a < 2147483648) ∧ (-2147483648 ≤ b ∧ b < 2147483648))) (hp : ¬ (¬ a = b)) (kf : ZX d m j lv st t Q) : ZX d m i lv (.int (zi b) :: .int (zi a) :: st) t Q := z_icmp_ne hc h (fun q => absurd q hp) (fun _ => kf)
theorem z_if_ne_t {off : Int} {g : Nat} {a : Int} (hc : zat m i j (.ifCond .ne off) [g]) (h : -2147483648 ≤ a ∧ a < 2147483648) (hp : ¬ a = 0) (kt : ZX d m g lv st t Q) : ZX d m i lv (.int (zi a) :: st) t Q := z_if_ne hc h (fun _ => kt) (fun q => absurd hp q)
theorem z_if_ne_f {off : Int} {g : Nat} {a : Int} (hc : zat m i j (.ifCond .ne off) [g]) (h : -2147483648 ≤ a ∧ a < 2147483648) (hp : ¬ (¬ a = 0)) (kf : ZX d m j lv st t Q) : ZX d m i lv (.int (zi a) :: st) t Q := z_if_ne hc h (fun q => absurd q hp) (fun _ => kf)
theorem zcc_lt {a b : Int} (h : ((-2147483648 ≤ a ∧ a < 2147483648) ∧ (-2147483648 ≤ b ∧ b < 2147483648))) : zcc .lt (zi a) (zi b) ↔ a < b := by
  show zi a < zi b ↔ _
  rw [zi_lt h]
theorem z_icmp_lt {off : Int} {g : Nat} {a b : Int} (hc : zat m i j (.if_icmp .lt off) [g]) (h : ((-2147483648 ≤ a ∧ a < 2147483648) ∧ (-2147483648 ≤ b ∧ b < 2147483648))) (kt : a < b → ZX d m g lv st t Q) (kf : ¬ (a < b) → ZX d m j lv st t Q) : ZX d m i lv (.int (zi b) :: .int (zi a) :: st) t Q := by
  obtain ⟨⟨pc, hc⟩, rfl⟩ := hc
  refine zfold hc (fun Z hZ => ?_)
  exact ⟨fun q => kt ((zcc_lt h).mp q) Z hZ.1 hZ.2, fun q => kf (fun q2 => q ((zcc_lt h).mpr q2)) Z hZ.1 hZ.2⟩
theorem z_if_lt {off : Int} {g : Nat} {a : Int} (hc : zat m i j (.ifCond .lt off) [g]) (h : -2147483648 ≤ a ∧ a < 2147483648) (kt : a < 0 → ZX d m g lv st t Q) (kf : ¬ (a < 0) → ZX d m j lv st t Q) : ZX d m i lv (.int (zi a) :: st) t Q := by
  obtain ⟨⟨pc, hc⟩, rfl⟩ := hc
  refine zfold hc (fun Z hZ => ?_)
  exact ⟨fun q => kt ((zcc_lt (b := 0) ⟨h, by omega⟩).mp q) Z hZ.1 hZ.2, fun q => kf (fun q2 => q ((zcc_lt (b := 0) ⟨h, by omega⟩).mpr q2)) Z hZ.1 hZ.2⟩
theorem z_icmp_lt_t {off : Int} {g : Nat} {a b : Int} (hc : zat m i j (.if_icmp .lt off) [g]) (h : ((-2147483648 ≤ a ∧ a < 2147483648) ∧ (-2147483648 ≤ b ∧ b < 2147483648))) (hp : a < b) (kt : ZX d m g lv st t Q) : ZX d m i lv (.int (zi b) :: .int (zi a) :: st) t Q := z_icmp_lt hc h (fun _ => kt) (fun q => absurd hp q)
theorem z_icmp_lt_f {off : Int} {g : Nat} {a b : Int} (hc : zat m i j (.if_icmp .lt off) [g]) (h : ((-2147483648 ≤ a ∧ a < 2147483648) ∧ (-2147483648 ≤ b ∧ b < 2147483648))) (hp : ¬ (a < b)) (kf : ZX d m j lv st t Q) : ZX d m i lv (.int (zi b) :: .int (zi a) :: st) t Q := z_icmp_lt hc h (fun q => absurd q hp) (fun _ => kf)
theorem z_if_lt_t {off : Int} {g : Nat} {a : Int} (hc : zat m i j (.ifCond .lt off) [g]) (h : -2147483648 ≤ a ∧ a < 2147483648) (hp : a < 0) (kt : ZX d m g lv st t Q) : ZX d m i lv (.int (zi a) :: st) t Q := z_if_lt hc h (fun _ => kt) (fun q => absurd hp q)
theorem z_if_lt_f {off : Int} {g : Nat} {a : Int} (hc : zat m i j (.ifCond .lt off) [g]) (h : -2147483648 ≤ a ∧ a < 2147483648) (hp : ¬ (a < 0)) (kf : ZX d m j lv st t Q) : ZX d m i lv (.int (zi a) :: st) t Q := z_if_lt hc h (fun q => absurd q hp) (fun _ => kf)
theorem zcc_ge {a b : Int} (h : ((-2147483648 ≤ a ∧ a < 2147483648) ∧ (-2147483648 ≤ b ∧ b < 2147483648))) : zcc .ge (zi a) (zi b) ↔ b ≤ a := by
  show zi b ≤ zi a ↔ _
  rw [zi_le ⟨h.2, h.1⟩]
theorem z_icmp_ge {off : Int} {g : Nat} {a b : Int} (hc : zat m i j (.if_icmp .ge off) [g]) (h : ((-2147483648 ≤ a ∧ a < 2147483648) ∧ (-2147483648 ≤ b ∧ b < 2147483648))) (kt : b ≤ a → ZX d m g lv st t Q) (kf : ¬ (b ≤ a) → ZX d m j lv st t Q) : ZX d m i lv (.int (zi b) :: .int (zi a) :: st) t Q := by
  obtain ⟨⟨pc, hc⟩, rfl⟩ := hc
  refine zfold hc (fun Z hZ => ?_)
  exact ⟨fun q => kt ((zcc_ge h).mp q) Z hZ.1 hZ.2, fun q => kf (fun q2 => q ((zcc_ge h).mpr q2)) Z hZ.1 hZ.2⟩
theorem z_if_ge {off : Int} {g : Nat} {a : Int} (hc : zat m i j (.ifCond .ge off) [g]) (h : -2147483648 ≤ a ∧ a < 2147483648) (kt : 0 ≤ a → ZX d m g lv st t Q) (kf : ¬ (0 ≤ a) → ZX d m j lv st t Q) : ZX d m i lv (.int (zi a) :: st) t Q := by
  obtain ⟨⟨pc, hc⟩, rfl⟩ := hc
  refine zfold hc (fun Z hZ => ?_)
  exact ⟨fun q => kt ((zcc_ge (b := 0) ⟨h, by omega⟩).mp q) Z hZ.1 hZ.2, fun q => kf (fun q2 => q ((zcc_ge (b := 0) ⟨h, by omega⟩).mpr q2)) Z hZ.1 hZ.2⟩
theorem z_icmp_ge_t {off : Int} {g : Nat} {a b : Int} (hc : zat m i j (.if_icmp .ge off) [g]) (h : ((-2147483648 ≤ a ∧ a < 2147483648) ∧ (-2147483648 ≤ b ∧ b < 2147483648))) (hp : b ≤ a) (kt : ZX d m g lv st t Q) : ZX d m i lv (.int (zi b) :: .int (zi a) :: st) t Q := z_icmp_ge hc h (fun _ => kt) (fun q => absurd hp q)
theorem z_icmp_ge_f {off : Int} {g : Nat} {a b : Int} (hc : zat m i j (.if_icmp .ge off) [g]) (h : ((-2147483648 ≤ a ∧ a < 2147483648) ∧ (-2147483648 ≤ b ∧ b < 2147483648))) (hp : ¬ (b ≤ a)) (kf : ZX d m j lv st t Q) : ZX d m i lv (.int (zi b) :: .int (zi a) :: st) t Q := z_icmp_ge hc h (fun q => absurd q hp) (fun _ => kf)
theorem z_if_ge_t {off : Int} {g : Nat} {a : Int} (hc : zat m i j (.ifCond .ge off) [g]) (h : -2147483648 ≤ a ∧ a < 2147483648) (hp : 0 ≤ a) (kt : ZX d m g lv st t Q) : ZX d m i lv (.int (zi a) :: st) t Q := z_if_ge hc h (fun _ => kt) (fun q => absurd hp q)
theorem z_if_ge_f {off : Int} {g : Nat} {a : Int} (hc : zat m i j (.ifCond .ge off) [g]) (h : -2147483648 ≤ a ∧ a < 2147483648) (hp : ¬ (0 ≤ a)) (kf : ZX d m j lv st t Q) : ZX d m i lv (.int (zi a) :: st) t Q := z_if_ge hc h (fun q => absurd q hp) (fun _ => kf)
theorem zcc_gt {a b : Int} (h : ((-2147483648 ≤ a ∧ a < 2147483648) ∧ (-2147483648 ≤ b ∧ b < 2147483648))) : zcc .gt (zi a) (zi b) ↔ b < a := by
  show zi b < zi a ↔ _
  rw [zi_lt ⟨h.2, h.1⟩]
theorem z_icmp_gt {off : Int} {g : Nat} {a b : Int} (hc : zat m i j (.if_icmp .gt off) [g]) (h : ((-2147483648 ≤ a ∧ a < 2147483648) ∧ (-2147483648 ≤ b ∧ b < 2147483648))) (kt : b < a → ZX d m g lv st t Q) (kf : ¬ (b < a) → ZX d m j lv st t Q) : ZX d m i lv (.int (zi b) :: .int (zi a) :: st) t Q := by
  obtain ⟨⟨pc, hc⟩, rfl⟩ := hc
  refine zfold hc (fun Z hZ => ?_)
  exact ⟨fun q => kt ((zcc_gt h).mp q) Z hZ.1 hZ.2, fun q => kf (fun q2 => q ((zcc_gt h).mpr q2)) Z hZ.1 hZ.2⟩
theorem z_if_gt {off : Int} {g : Nat} {a : Int} (hc : zat m i j (.ifCond .gt off) [g]) (h : -2147483648 ≤ a ∧ a < 2147483648) (kt : 0 < a → ZX d m g lv st t Q) (kf : ¬ (0 < a) → ZX d m j lv st t Q) : ZX d m i lv (.int (zi a) :: st) t Q := by
  obtain ⟨⟨pc, hc⟩, rfl⟩ := hc
  refine zfold hc (fun Z hZ => ?_)
  exact ⟨fun q => kt ((zcc_gt (b := 0) ⟨h, by omega⟩).mp q) Z hZ.1 hZ.2, fun q => kf (fun q2 => q ((zcc_gt (b := 0) ⟨h, by omega⟩).mpr q2)) Z hZ.1 hZ.2⟩
theorem z_icmp_gt_t {off : Int} {g : Nat} {a b : Int} (hc : zat m i j (.if_icmp .gt off) [g]) (h : ((-2147483648 ≤ a ∧ a < 2147483648) ∧ (-2147483648 ≤ b ∧ b < 2147483648))) (hp : b < a) (kt : ZX d m g lv st t Q) : ZX d m i lv (.int (zi b) :: .int (zi a) :: st) t Q := z_icmp_gt hc h (fun _ => kt) (fun q => absurd hp q)
theorem z_icmp_gt_f {off : Int} {g : Nat} {a b : Int} (hc : zat m i j (.if_icmp .gt off) [g]) (h : ((-2147483648 ≤ a ∧ a < 2147483648) ∧ (-2147483648 ≤ b ∧ b < 2147483648))) (hp : ¬ (b < a)) (kf : ZX d m j lv st t Q) : ZX d m i lv (.int (zi b) :: .int (zi a) :: st) t Q := z_icmp_gt hc h (fun q => absurd q hp) (fun _ => kf)
theorem z_if_gt_t {off : Int} {g : Nat} {a : Int} (hc : zat m i j (.ifCond .gt off) [g]) (h : -2147483648 ≤ a ∧ a < 2147483648) (hp : 0 < a) (kt : ZX d m g lv st t Q) : ZX d m i lv (.int (zi a) :: st) t Q := z_if_gt hc h (fun _ => kt) (fun q => absurd hp q)
theorem z_if_gt_f {off : Int} {g : Nat} {a : Int} (hc : zat m i j (.ifCond .gt off) [g]) (h : -2147483648 ≤ a ∧ a < 2147483648) (hp : ¬ (0 < a)) (kf : ZX d m j lv st t Q) : ZX d m i lv (.int (zi a) :: st) t Q := z_if_gt hc h (fun q => absurd q hp) (fun _ => kf)
theorem zcc_le {a b : Int} (h : ((-2147483648 ≤ a ∧ a < 2147483648) ∧ (-2147483648 ≤ b ∧ b < 2147483648))) : zcc .le (zi a) (zi b) ↔ a ≤ b := by
  show zi a ≤ zi b ↔ _
  rw [zi_le h]
theorem z_icmp_le {off : Int} {g : Nat} {a b : Int} (hc : zat m i j (.if_icmp .le off) [g]) (h : ((-2147483648 ≤ a ∧ a < 2147483648) ∧ (-2147483648 ≤ b ∧ b < 2147483648))) (kt : a ≤ b → ZX d m g lv st t Q) (kf : ¬ (a ≤ b) → ZX d m j lv st t Q) : ZX d m i lv (.int (zi b) :: .int (zi a) :: st) t Q := by
  obtain ⟨⟨pc, hc⟩, rfl⟩ := hc
  refine zfold hc (fun Z hZ => ?_)
  exact ⟨fun q => kt ((zcc_le h).mp q) Z hZ.1 hZ.2, fun q => kf (fun q2 => q ((zcc_le h).mpr q2)) Z hZ.1 hZ.2⟩
theorem z_if_le {off : Int} {g : Nat} {a : Int} (hc : zat m i j (.ifCond .le off) [g]) (h : -2147483648 ≤ a ∧ a < 2147483648) (kt : a ≤ 0 → ZX d m g lv st t Q) (kf : ¬ (a ≤ 0) → ZX d m j lv st t Q) : ZX d m i lv (.int (zi a) :: st) t Q := by
  obtain ⟨⟨pc, hc⟩, rfl⟩ := hc
  refine zfold hc (fun Z hZ => ?_)
  exact ⟨fun q => kt ((zcc_le (b := 0) ⟨h, by omega⟩).mp q) Z hZ.1 hZ.2, fun q => kf (fun q2 => q ((zcc_le (b := 0) ⟨h, by omega⟩).mpr q2)) Z hZ.1 hZ.2⟩
theorem z_icmp_le_t {off : Int} {g : Nat} {a b : Int} (hc : zat m i j (.if_icmp .le off) [g]) (h : ((-2147483648 ≤ a ∧ a < 2147483648) ∧ (-2147483648 ≤ b ∧ b < 2147483648))) (hp : a ≤ b) (kt : ZX d m g lv st t Q) : ZX d m i lv (.int (zi b) :: .int (zi a) :: st) t Q := z_icmp_le hc h (fun _ => kt) (fun q => absurd hp q)
theorem z_icmp_le_f {off : Int} {g : Nat} {a b : Int} (hc : zat m i j (.if_icmp .le off) [g]) (h : ((-2147483648 ≤ a ∧ a < 2147483648) ∧ (-2147483648 ≤ b ∧ b < 2147483648))) (hp : ¬ (a ≤ b)) (kf : ZX d m j lv st t Q) : ZX d m i lv (.int (zi b) :: .int (zi a) :: st) t Q := z_icmp_le hc h (fun q => absurd q hp) (fun _ => kf)
theorem z_if_le_t {off : Int} {g : Nat} {a : Int} (hc : zat m i j (.ifCond .le off) [g]) (h : -2147483648 ≤ a ∧ a < 2147483648) (hp : a ≤ 0) (kt : ZX d m g lv st t Q) : ZX d m i lv (.int (zi a) :: st) t Q := z_if_le hc h (fun _ => kt) (fun q => absurd hp q)
theorem z_if_le_f {off : Int} {g : Nat} {a : Int} (hc : zat m i j (.ifCond .le off) [g]) (h : -2147483648 ≤ a ∧ a < 2147483648) (hp : ¬ (a ≤ 0)) (kf : ZX d m j lv st t Q) : ZX d m i lv (.int (zi a) :: st) t Q := z_if_le hc h (fun q => absurd q hp) (fun _ => kf)
theorem z_ifnull_N {off : Int} {g : Nat} (hc : zat m i j (.ifnull off) [g]) (k : ZX d m g lv st t Q) : ZX d m i lv (.null :: st) t Q := by
  obtain ⟨⟨pc, hc⟩, rfl⟩ := hc
  refine zfold hc (fun Z hZ => ?_)
  exact ⟨fun _ => k Z hZ.1 hZ.2, ⟨fun b hb => (by cases hb), Or.inl rfl⟩⟩
theorem z_ifnull_R {off : Int} {g b : Nat} (hc : zat m i j (.ifnull off) [g]) (k : ZX d m j lv st t Q) : ZX d m i lv (.ref b :: st) t Q := by
  obtain ⟨⟨pc, hc⟩, rfl⟩ := hc
  refine zfold hc (fun Z hZ => ?_)
  exact ⟨fun hb => (by cases hb), ⟨fun _ _ => k Z hZ.1 hZ.2, Or.inr ⟨_, rfl⟩⟩⟩
theorem z_ifnonnull_N {off : Int} {g : Nat} (hc : zat m i j (.ifnonnull off) [g]) (k : ZX d m j lv st t Q) : ZX d m i lv (.null :: st) t Q := by
  obtain ⟨⟨pc, hc⟩, rfl⟩ := hc
  refine zfold hc (fun Z hZ => ?_)
  exact ⟨fun _ => k Z hZ.1 hZ.2, ⟨fun b hb => (by cases hb), Or.inl rfl⟩⟩
theorem z_ifnonnull_R {off : Int} {g b : Nat} (hc : zat m i j (.ifnonnull off) [g]) (k : ZX d m g lv st t Q) : ZX d m i lv (.ref b :: st) t Q := by
  obtain ⟨⟨pc, hc⟩, rfl⟩ := hc
  refine zfold hc (fun Z hZ => ?_)
  exact ⟨fun hb => (by cases hb), ⟨fun _ _ => k Z hZ.1 hZ.2, Or.inr ⟨_, rfl⟩⟩⟩
theorem z_tabOut {dflt lo hi : Int} {offs : Array Int} {g : Nat} {a : Int} (hc : zat m i j (.tableswitch dflt lo hi offs) L) (h : -2147483648 ≤ a ∧ a < 2147483648) (hp : a < lo ∨ hi < a) (hg : zL L 0 = g) (k : ZX d m g lv st t Q) : ZX d m i lv (.int (zi a) :: st) t Q := by
  obtain ⟨⟨pc, hc⟩, rfl⟩ := hc
  subst hg
  refine zfold hc (fun Z hZ => ?_)
  refine ⟨fun _ => k Z hZ.1 hZ.2, fun h1 h2 => ?_⟩
  rw [zi_toInt h] at h1 h2
  omega
theorem z_tabIn {dflt lo hi : Int} {offs : Array Int} {g : Nat} {a : Int} (hc : zat m i j (.tableswitch dflt lo hi offs) L) (h : -2147483648 ≤ a ∧ a < 2147483648) (hp : lo ≤ a ∧ a ≤ hi) (hg : zL L (1 + (a - lo).toNat) = g) (k : ZX d m g lv st t Q) : ZX d m i lv (.int (zi a) :: st) t Q := by
  obtain ⟨⟨pc, hc⟩, rfl⟩ := hc
  subst hg
  refine zfold hc (fun Z hZ => ?_)
  refine ⟨fun h1 => ?_, fun _ _ => ?_⟩
  · rw [zi_toInt h] at h1
    omega
  · rw [zi_toInt h]
    exact k Z hZ.1 hZ.2
theorem z_ireturn {a : Int} {K : Int → zMI → Prop} (hc : zat m i j .ireturn L) (hr : zr m = some .int) (k : K a t) : ZX d m i lv [.int (zi a)] t (zKi K) := by
  obtain ⟨⟨pc, hc⟩, rfl⟩ := hc
  refine zfold hc (fun Z hZ => ?_)
  exact ⟨rfl, Or.inl hr, t, rfl, a, rfl, k⟩
theorem z_zreturn {a : Int} {K : Int → zMI → Prop} (hc : zat m i j .ireturn L) (hr : zr m = some .boolean) (ha : a = 0 ∨ a = 1) (k : K a t) : ZX d m i lv [.int (zi a)] t (zKi K) := by
  obtain ⟨⟨pc, hc⟩, rfl⟩ := hc
  refine zfold hc (fun Z hZ => ?_)
  refine ⟨rfl, Or.inr ⟨hr, ?_⟩, t, rfl, a, rfl, k⟩
  rcases ha with rfl | rfl
  · exact Or.inl rfl
  · exact Or.inr rfl
theorem z_vreturn {K : zMI → Prop} (hc : zat m i j .return_ L) (hr : zr m = none) (k : K t) : ZX d m i lv [] t (zKv K) := by
  obtain ⟨⟨pc, hc⟩, rfl⟩ := hc
  refine zfold hc (fun Z hZ => ?_)
  exact ⟨rfl, hr, t, rfl, rfl, k⟩
theorem z_areturn {b : Nat} {K : Option Nat → zMI → Prop} (hc : zat m i j .areturn L) (hr : zr m = some (.object RX0)) (k : K (some b) t) : ZX d m i lv [.ref b] t (zKr K) := by
  obtain ⟨⟨pc, hc⟩, rfl⟩ := hc
  refine zfold hc (fun Z hZ => ?_)
  exact ⟨rfl, Or.inr ⟨_, rfl⟩, hr, t, rfl, some b, rfl, k⟩
theorem z_areturnN {K : Option Nat → zMI → Prop} (hc : zat m i j .areturn L) (hr : zr m = some (.object RX0)) (k : K none t) : ZX d m i lv [.null] t (zKr K) := by
  obtain ⟨⟨pc, hc⟩, rfl⟩ := hc
  refine zfold hc (fun Z hZ => ?_)
  exact ⟨rfl, Or.inl rfl, hr, t, rfl, none, rfl, k⟩
theorem z_copy {x p1 p2 p3 p4 a b : Nat} {n : Int} {N n0 n1 : Nat} (hc : zat m i j (.invokestatic x) [999, p1, p2, p3, p4]) (hy0 : zLy[a]? = some (.inl n0)) (hy1 : zLy[b]? = some (.inl n1)) (hn : n = (N : Int)) (h : N ≤ n0 ∧ N ≤ n1 ∧ N < 2147483648) (hcat : zcat st ≤ 8) (k : ZX (d + 1) m j lv st (zcpi t a b N) Q) : ZX (d + 1) m i lv (.int (zi n) :: .int (zi 0) :: .ref b :: .int (zi 0) :: .ref a :: st) t Q := by
  obtain ⟨⟨pc, hc⟩, rfl⟩ := hc
  refine zfold hc (fun Z hZ => ?_)
  have e0 : (zi 0).toNatClampNeg = 0 := rfl
  have en : (zi n).toNatClampNeg = N := zi_clamp hn h.2.2
  have h9 : zL [999, p1, p2, p3, p4] 0 = 999 := rfl
  simp only [zI, if_pos h9]
  refine ⟨n0, n1, hy0, hy1, by decide, by decide, ?_, by rw [e0, en]; omega, by rw [e0, en]; omega, hcat, by omega, ?_⟩
  · intro hlt
    have h2 : zi n < zi 0 := hlt
    rw [zi_lt (by omega)] at h2
    omega
  · rw [e0, en, zlf_cp]
    exact k Z hZ.1 hZ.2
theorem z_cs {x m' p1 p2 : Nat} {Q' : Option Value → zMI → Prop} (as rest : List Value) (hc : zat m i j (.invokestatic x) [m', p1, p2]) (hst : st = as.reverse ++ rest) (hm : ¬ m' = 999) (hlen : as.length = znp m') (hfit : (lg_sl as).length ≤ zl m') (hcat : zcat rest ≤ 8)
    (k : ZX d m' 0 (lv_args 0 as) [] t Q') (kk : ∀ r t', Q' r t' → ZX (d + 1) m j lv (r.toList ++ rest) t' Q) : ZX (d + 1) m i lv st t Q := by
  obtain ⟨⟨pc, hc⟩, rfl⟩ := hc
  refine zfold hc (fun Z hZ => ?_)
  have h9 : ¬ zL [m', p1, p2] 0 = 999 := hm
  simp only [zI, if_neg h9]
  refine ⟨as, rest, hst, hlen, hfit, hcat, d, rfl, _, k Z hZ.1 hZ.2, ?_⟩
  rintro r σ' ⟨t', rfl, hq⟩
  exact kk r t' hq Z hZ.1 hZ.2
theorem z_cv {x m' p1 p2 p3 b : Nat} {Q' : Option Value → zMI → Prop} (as rest : List Value) (hc : zat m i j (.invokevirtual x) [m', p1, p2, p3]) (hst : st = as.reverse ++ .ref b :: rest) (hlen : as.length = znp m') (hfit : (lg_sl (.ref b :: as)).length ≤ zl m') (hcls : zcls b = zci m') (hcat : zcat rest ≤ 8)
    (k : ZX d m' 0 (lv_args 0 (.ref b :: as)) [] t Q') (kk : ∀ r t', Q' r t' → ZX (d + 1) m j lv (r.toList ++ rest) t' Q) : ZX (d + 1) m i lv st t Q := by
  obtain ⟨⟨pc, hc⟩, rfl⟩ := hc
  refine zfold hc (fun Z hZ => ?_)
  refine ⟨b, as, rest, hst, hlen, hfit, hcls, hcat, d, rfl, _, k Z hZ.1 hZ.2, ?_⟩
  rintro r σ' ⟨t', rfl, hq⟩
  exact kk r t' hq Z hZ.1 hZ.2
theorem z_cv0i {x m' p1 p2 p3 b : Nat} (hc : zat m i j (.invokevirtual x) [m', p1, p2, p3]) (hb : zcls b = zci m') (hn : znp m' = 0 ∧ 1 ≤ zl m' ∧ zcat st ≤ 8) (k : ZX d m' 0 [(0, .ref b)] [] t (zKi fun v t' => ZX (d + 1) m j lv (.int (zi v) :: st) t' Q)) : ZX (d + 1) m i lv (.ref b :: st) t Q :=
  z_cv [] st hc rfl hn.1.symm (by rw [show (lg_sl [.ref b]).length = 1 from by simp [lg_sl, show (Value.ref b).category = 1 from rfl]]; exact hn.2.1) hb hn.2.2 (by rw [show lv_args 0 [.ref b] = [(0, .ref b)] from by simp [lv_args, show (Value.ref b).category = 1 from rfl]]; exact k) (by rintro r t' ⟨v, rfl, h⟩; exact h)
theorem z_cv0v {x m' p1 p2 p3 b : Nat} (hc : zat m i j (.invokevirtual x) [m', p1, p2, p3]) (hb : zcls b = zci m') (hn : znp m' = 0 ∧ 1 ≤ zl m' ∧ zcat st ≤ 8) (k : ZX d m' 0 [(0, .ref b)] [] t (zKv fun t' => ZX (d + 1) m j lv st t' Q)) : ZX (d + 1) m i lv (.ref b :: st) t Q :=
  z_cv [] st hc rfl hn.1.symm (by rw [show (lg_sl [.ref b]).length = 1 from by simp [lg_sl, show (Value.ref b).category = 1 from rfl]]; exact hn.2.1) hb hn.2.2 (by rw [show lv_args 0 [.ref b] = [(0, .ref b)] from by simp [lv_args, show (Value.ref b).category = 1 from rfl]]; exact k) (by rintro r t' ⟨rfl, h⟩; exact h)
theorem z_cs1i {x m' p1 p2 : Nat} {v0 : Value} (hc : zat m i j (.invokestatic x) [m', p1, p2]) (c0 : v0.category = 1) (hn : m' ≠ 999 ∧ znp m' = 1 ∧ 1 ≤ zl m' ∧ zcat st ≤ 8) (k : ZX d m' 0 [(0, v0)] [] t (zKi fun v t' => ZX (d + 1) m j lv (.int (zi v) :: st) t' Q)) : ZX (d + 1) m i lv (v0 :: st) t Q :=
  z_cs [v0] st hc rfl hn.1 hn.2.1.symm (by rw [show (lg_sl [v0]).length = 1 from by simp [lg_sl, c0]]; exact hn.2.2.1) hn.2.2.2 (by rw [show lv_args 0 [v0] = [(0, v0)] from by simp [lv_args, c0]]; exact k) (by rintro r t' ⟨v, rfl, h⟩; exact h)
theorem z_cv1i {x m' p1 p2 p3 b : Nat} {v0 : Value} (hc : zat m i j (.invokevirtual x) [m', p1, p2, p3]) (c0 : v0.category = 1) (hb : zcls b = zci m') (hn : znp m' = 1 ∧ 2 ≤ zl m' ∧ zcat st ≤ 8) (k : ZX d m' 0 [(0, .ref b), (1, v0)] [] t (zKi fun v t' => ZX (d + 1) m j lv (.int (zi v) :: st) t' Q)) : ZX (d + 1) m i lv (v0 :: .ref b :: st) t Q :=
  z_cv [v0] st hc rfl hn.1.symm (by rw [show (lg_sl [.ref b, v0]).length = 2 from by simp [lg_sl, show (Value.ref b).category = 1 from rfl, c0]]; exact hn.2.1) hb hn.2.2 (by rw [show lv_args 0 [.ref b, v0] = [(0, .ref b), (1, v0)] from by simp [lv_args, show (Value.ref b).category = 1 from rfl, c0]]; exact k) (by rintro r t' ⟨v, rfl, h⟩; exact h)
theorem z_cs1v {x m' p1 p2 : Nat} {v0 : Value} (hc : zat m i j (.invokestatic x) [m', p1, p2]) (c0 : v0.category = 1) (hn : m' ≠ 999 ∧ znp m' = 1 ∧ 1 ≤ zl m' ∧ zcat st ≤ 8) (k : ZX d m' 0 [(0, v0)] [] t (zKv fun t' => ZX (d + 1) m j lv st t' Q)) : ZX (d + 1) m i lv (v0 :: st) t Q :=
  z_cs [v0] st hc rfl hn.1 hn.2.1.symm (by rw [show (lg_sl [v0]).length = 1 from by simp [lg_sl, c0]]; exact hn.2.2.1) hn.2.2.2 (by rw [show lv_args 0 [v0] = [(0, v0)] from by simp [lv_args, c0]]; exact k) (by rintro r t' ⟨rfl, h⟩; exact h)
theorem z_cv1v {x m' p1 p2 p3 b : Nat} {v0 : Value} (hc : zat m i j (.invokevirtual x) [m', p1, p2, p3]) (c0 : v0.category = 1) (hb : zcls b = zci m') (hn : znp m' = 1 ∧ 2 ≤ zl m' ∧ zcat st ≤ 8) (k : ZX d m' 0 [(0, .ref b), (1, v0)] [] t (zKv fun t' => ZX (d + 1) m j lv st t' Q)) : ZX (d + 1) m i lv (v0 :: .ref b :: st) t Q :=
  z_cv [v0] st hc rfl hn.1.symm (by rw [show (lg_sl [.ref b, v0]).length = 2 from by simp [lg_sl, show (Value.ref b).category = 1 from rfl, c0]]; exact hn.2.1) hb hn.2.2 (by rw [show lv_args 0 [.ref b, v0] = [(0, .ref b), (1, v0)] from by simp [lv_args, show (Value.ref b).category = 1 from rfl, c0]]; exact k) (by rintro r t' ⟨rfl, h⟩; exact h)
theorem z_cs2i {x m' p1 p2 : Nat} {v0 v1 : Value} (hc : zat m i j (.invokestatic x) [m', p1, p2]) (c0 : v0.category = 1) (c1 : v1.category = 1) (hn : m' ≠ 999 ∧ znp m' = 2 ∧ 2 ≤ zl m' ∧ zcat st ≤ 8) (k : ZX d m' 0 [(0, v0), (1, v1)] [] t (zKi fun v t' => ZX (d + 1) m j lv (.int (zi v) :: st) t' Q)) : ZX (d + 1) m i lv (v1 :: v0 :: st) t Q :=
  z_cs [v0, v1] st hc rfl hn.1 hn.2.1.symm (by rw [show (lg_sl [v0, v1]).length = 2 from by simp [lg_sl, c0, c1]]; exact hn.2.2.1) hn.2.2.2 (by rw [show lv_args 0 [v0, v1] = [(0, v0), (1, v1)] from by simp [lv_args, c0, c1]]; exact k) (by rintro r t' ⟨v, rfl, h⟩; exact h)
theorem z_cv2i {x m' p1 p2 p3 b : Nat} {v0 v1 : Value} (hc : zat m i j (.invokevirtual x) [m', p1, p2, p3]) (c0 : v0.category = 1) (c1 : v1.category = 1) (hb : zcls b = zci m') (hn : znp m' = 2 ∧ 3 ≤ zl m' ∧ zcat st ≤ 8) (k : ZX d m' 0 [(0, .ref b), (1, v0), (2, v1)] [] t (zKi fun v t' => ZX (d + 1) m j lv (.int (zi v) :: st) t' Q)) : ZX (d + 1) m i lv (v1 :: v0 :: .ref b :: st) t Q :=
  z_cv [v0, v1] st hc rfl hn.1.symm (by rw [show (lg_sl [.ref b, v0, v1]).length = 3 from by simp [lg_sl, show (Value.ref b).category = 1 from rfl, c0, c1]]; exact hn.2.1) hb hn.2.2 (by rw [show lv_args 0 [.ref b, v0, v1] = [(0, .ref b), (1, v0), (2, v1)] from by simp [lv_args, show (Value.ref b).category = 1 from rfl, c0, c1]]; exact k) (by rintro r t' ⟨v, rfl, h⟩; exact h)
theorem z_cs2v {x m' p1 p2 : Nat} {v0 v1 : Value} (hc : zat m i j (.invokestatic x) [m', p1, p2]) (c0 : v0.category = 1) (c1 : v1.category = 1) (hn : m' ≠ 999 ∧ znp m' = 2 ∧ 2 ≤ zl m' ∧ zcat st ≤ 8) (k : ZX d m' 0 [(0, v0), (1, v1)] [] t (zKv fun t' => ZX (d + 1) m j lv st t' Q)) : ZX (d + 1) m i lv (v1 :: v0 :: st) t Q :=
  z_cs [v0, v1] st hc rfl hn.1 hn.2.1.symm (by rw [show (lg_sl [v0, v1]).length = 2 from by simp [lg_sl, c0, c1]]; exact hn.2.2.1) hn.2.2.2 (by rw [show lv_args 0 [v0, v1] = [(0, v0), (1, v1)] from by simp [lv_args, c0, c1]]; exact k) (by rintro r t' ⟨rfl, h⟩; exact h)
theorem z_cv2v {x m' p1 p2 p3 b : Nat} {v0 v1 : Value} (hc : zat m i j (.invokevirtual x) [m', p1, p2, p3]) (c0 : v0.category = 1) (c1 : v1.category = 1) (hb : zcls b = zci m') (hn : znp m' = 2 ∧ 3 ≤ zl m' ∧ zcat st ≤ 8) (k : ZX d m' 0 [(0, .ref b), (1, v0), (2, v1)] [] t (zKv fun t' => ZX (d + 1) m j lv st t' Q)) : ZX (d + 1) m i lv (v1 :: v0 :: .ref b :: st) t Q :=
  z_cv [v0, v1] st hc rfl hn.1.symm (by rw [show (lg_sl [.ref b, v0, v1]).length = 3 from by simp [lg_sl, show (Value.ref b).category = 1 from rfl, c0, c1]]; exact hn.2.1) hb hn.2.2 (by rw [show lv_args 0 [.ref b, v0, v1] = [(0, .ref b), (1, v0), (2, v1)] from by simp [lv_args, show (Value.ref b).category = 1 from rfl, c0, c1]]; exact k) (by rintro r t' ⟨rfl, h⟩; exact h)
theorem z_cs3i {x m' p1 p2 : Nat} {v0 v1 v2 : Value} (hc : zat m i j (.invokestatic x) [m', p1, p2]) (c0 : v0.category = 1) (c1 : v1.category = 1) (c2 : v2.category = 1) (hn : m' ≠ 999 ∧ znp m' = 3 ∧ 3 ≤ zl m' ∧ zcat st ≤ 8) (k : ZX d m' 0 [(0, v0), (1, v1), (2, v2)] [] t (zKi fun v t' => ZX (d + 1) m j lv (.int (zi v) :: st) t' Q)) : ZX (d + 1) m i lv (v2 :: v1 :: v0 :: st) t Q :=
  z_cs [v0, v1, v2] st hc rfl hn.1 hn.2.1.symm (by rw [show (lg_sl [v0, v1, v2]).length = 3 from by simp [lg_sl, c0, c1, c2]]; exact hn.2.2.1) hn.2.2.2 (by rw [show lv_args 0 [v0, v1, v2] = [(0, v0), (1, v1), (2, v2)] from by simp [lv_args, c0, c1, c2]]; exact k) (by rintro r t' ⟨v, rfl, h⟩; exact h)
theorem z_cv3i {x m' p1 p2 p3 b : Nat} {v0 v1 v2 : Value} (hc : zat m i j (.invokevirtual x) [m', p1, p2, p3]) (c0 : v0.category = 1) (c1 : v1.category = 1) (c2 : v2.category = 1) (hb : zcls b = zci m') (hn : znp m' = 3 ∧ 4 ≤ zl m' ∧ zcat st ≤ 8) (k : ZX d m' 0 [(0, .ref b), (1, v0), (2, v1), (3, v2)] [] t (zKi fun v t' => ZX (d + 1) m j lv (.int (zi v) :: st) t' Q)) : ZX (d + 1) m i lv (v2 :: v1 :: v0 :: .ref b :: st) t Q :=
  z_cv [v0, v1, v2] st hc rfl hn.1.symm (by rw [show (lg_sl [.ref b, v0, v1, v2]).length = 4 from by simp [lg_sl, show (Value.ref b).category = 1 from rfl, c0, c1, c2]]; exact hn.2.1) hb hn.2.2 (by rw [show lv_args 0 [.ref b, v0, v1, v2] = [(0, .ref b), (1, v0), (2, v1), (3, v2)] from by simp [lv_args, show (Value.ref b).category = 1 from rfl, c0, c1, c2]]; exact k) (by rintro r t' ⟨v, rfl, h⟩; exact h)
theorem z_cs3v {x m' p1 p2 : Nat} {v0 v1 v2 : Value} (hc : zat m i j (.invokestatic x) [m', p1, p2]) (c0 : v0.category = 1) (c1 : v1.category = 1) (c2 : v2.category = 1) (hn : m' ≠ 999 ∧ znp m' = 3 ∧ 3 ≤ zl m' ∧ zcat st ≤ 8) (k : ZX d m' 0 [(0, v0), (1, v1), (2, v2)] [] t (zKv fun t' => ZX (d + 1) m j lv st t' Q)) : ZX (d + 1) m i lv (v2 :: v1 :: v0 :: st) t Q :=
  z_cs [v0, v1, v2] st hc rfl hn.1 hn.2.1.symm (by rw [show (lg_sl [v0, v1, v2]).length = 3 from by simp [lg_sl, c0, c1, c2]]; exact hn.2.2.1) hn.2.2.2 (by rw [show lv_args 0 [v0, v1, v2] = [(0, v0), (1, v1), (2, v2)] from by simp [lv_args, c0, c1, c2]]; exact k) (by rintro r t' ⟨rfl, h⟩; exact h)
theorem z_cv3v {x m' p1 p2 p3 b : Nat} {v0 v1 v2 : Value} (hc : zat m i j (.invokevirtual x) [m', p1, p2, p3]) (c0 : v0.category = 1) (c1 : v1.category = 1) (c2 : v2.category = 1) (hb : zcls b = zci m') (hn : znp m' = 3 ∧ 4 ≤ zl m' ∧ zcat st ≤ 8) (k : ZX d m' 0 [(0, .ref b), (1, v0), (2, v1), (3, v2)] [] t (zKv fun t' => ZX (d + 1) m j lv st t' Q)) : ZX (d + 1) m i lv (v2 :: v1 :: v0 :: .ref b :: st) t Q :=
  z_cv [v0, v1, v2] st hc rfl hn.1.symm (by rw [show (lg_sl [.ref b, v0, v1, v2]).length = 4 from by simp [lg_sl, show (Value.ref b).category = 1 from rfl, c0, c1, c2]]; exact hn.2.1) hb hn.2.2 (by rw [show lv_args 0 [.ref b, v0, v1, v2] = [(0, .ref b), (1, v0), (2, v1), (3, v2)] from by simp [lv_args, show (Value.ref b).category = 1 from rfl, c0, c1, c2]]; exact k) (by rintro r t' ⟨rfl, h⟩; exact h)
theorem z_cs4i {x m' p1 p2 : Nat} {v0 v1 v2 v3 : Value} (hc : zat m i j (.invokestatic x) [m', p1, p2]) (c0 : v0.category = 1) (c1 : v1.category = 1) (c2 : v2.category = 1) (c3 : v3.category = 1) (hn : m' ≠ 999 ∧ znp m' = 4 ∧ 4 ≤ zl m' ∧ zcat st ≤ 8) (k : ZX d m' 0 [(0, v0), (1, v1), (2, v2), (3, v3)] [] t (zKi fun v t' => ZX (d + 1) m j lv (.int (zi v) :: st) t' Q)) : ZX (d + 1) m i lv (v3 :: v2 :: v1 :: v0 :: st) t Q :=
  z_cs [v0, v1, v2, v3] st hc rfl hn.1 hn.2.1.symm (by rw [show (lg_sl [v0, v1, v2, v3]).length = 4 from by simp [lg_sl, c0, c1, c2, c3]]; exact hn.2.2.1) hn.2.2.2 (by rw [show lv_args 0 [v0, v1, v2, v3] = [(0, v0), (1, v1), (2, v2), (3, v3)] from by simp [lv_args, c0, c1, c2, c3]]; exact k) (by rintro r t' ⟨v, rfl, h⟩; exact h)
theorem z_cv4i {x m' p1 p2 p3 b : Nat} {v0 v1 v2 v3 : Value} (hc : zat m i j (.invokevirtual x) [m', p1, p2, p3]) (c0 : v0.category = 1) (c1 : v1.category = 1) (c2 : v2.category = 1) (c3 : v3.category = 1) (hb : zcls b = zci m') (hn : znp m' = 4 ∧ 5 ≤ zl m' ∧ zcat st ≤ 8) (k : ZX d m' 0 [(0, .ref b), (1, v0), (2, v1), (3, v2), (4, v3)] [] t (zKi fun v t' => ZX (d + 1) m j lv (.int (zi v) :: st) t' Q)) : ZX (d + 1) m i lv (v3 :: v2 :: v1 :: v0 :: .ref b :: st) t Q :=
  z_cv [v0, v1, v2, v3] st hc rfl hn.1.symm (by rw [show (lg_sl [.ref b, v0, v1, v2, v3]).length = 5 from by simp [lg_sl, show (Value.ref b).category = 1 from rfl, c0, c1, c2, c3]]; exact hn.2.1) hb hn.2.2 (by rw [show lv_args 0 [.ref b, v0, v1, v2, v3] = [(0, .ref b), (1, v0), (2, v1), (3, v2), (4, v3)] from by simp [lv_args, show (Value.ref b).category = 1 from rfl, c0, c1, c2, c3]]; exact k) (by rintro r t' ⟨v, rfl, h⟩; exact h)
theorem z_cs4v {x m' p1 p2 : Nat} {v0 v1 v2 v3 : Value} (hc : zat m i j (.invokestatic x) [m', p1, p2]) (c0 : v0.category = 1) (c1 : v1.category = 1) (c2 : v2.category = 1) (c3 : v3.category = 1) (hn : m' ≠ 999 ∧ znp m' = 4 ∧ 4 ≤ zl m' ∧ zcat st ≤ 8) (k : ZX d m' 0 [(0, v0), (1, v1), (2, v2), (3, v3)] [] t (zKv fun t' => ZX (d + 1) m j lv st t' Q)) : ZX (d + 1) m i lv (v3 :: v2 :: v1 :: v0 :: st) t Q :=
  z_cs [v0, v1, v2, v3] st hc rfl hn.1 hn.2.1.symm (by rw [show (lg_sl [v0, v1, v2, v3]).length = 4 from by simp [lg_sl, c0, c1, c2, c3]]; exact hn.2.2.1) hn.2.2.2 (by rw [show lv_args 0 [v0, v1, v2, v3] = [(0, v0), (1, v1), (2, v2), (3, v3)] from by simp [lv_args, c0, c1, c2, c3]]; exact k) (by rintro r t' ⟨rfl, h⟩; exact h)
theorem z_cv4v {x m' p1 p2 p3 b : Nat} {v0 v1 v2 v3 : Value} (hc : zat m i j (.invokevirtual x) [m', p1, p2, p3]) (c0 : v0.category = 1) (c1 : v1.category = 1) (c2 : v2.category = 1) (c3 : v3.category = 1) (hb : zcls b = zci m') (hn : znp m' = 4 ∧ 5 ≤ zl m' ∧ zcat st ≤ 8) (k : ZX d m' 0 [(0, .ref b), (1, v0), (2, v1), (3, v2), (4, v3)] [] t (zKv fun t' => ZX (d + 1) m j lv st t' Q)) : ZX (d + 1) m i lv (v3 :: v2 :: v1 :: v0 :: .ref b :: st) t Q :=
  z_cv [v0, v1, v2, v3] st hc rfl hn.1.symm (by rw [show (lg_sl [.ref b, v0, v1, v2, v3]).length = 5 from by simp [lg_sl, show (Value.ref b).category = 1 from rfl, c0, c1, c2, c3]]; exact hn.2.1) hb hn.2.2 (by rw [show lv_args 0 [.ref b, v0, v1, v2, v3] = [(0, .ref b), (1, v0), (2, v1), (3, v2), (4, v3)] from by simp [lv_args, show (Value.ref b).category = 1 from rfl, c0, c1, c2, c3]]; exact k) (by rintro r t' ⟨rfl, h⟩; exact h)
theorem z_cs5i {x m' p1 p2 : Nat} {v0 v1 v2 v3 v4 : Value} (hc : zat m i j (.invokestatic x) [m', p1, p2]) (c0 : v0.category = 1) (c1 : v1.category = 1) (c2 : v2.category = 1) (c3 : v3.category = 1) (c4 : v4.category = 1) (hn : m' ≠ 999 ∧ znp m' = 5 ∧ 5 ≤ zl m' ∧ zcat st ≤ 8) (k : ZX d m' 0 [(0, v0), (1, v1), (2, v2), (3, v3), (4, v4)] [] t (zKi fun v t' => ZX (d + 1) m j lv (.int (zi v) :: st) t' Q)) : ZX (d + 1) m i lv (v4 :: v3 :: v2 :: v1 :: v0 :: st) t Q :=
  z_cs [v0, v1, v2, v3, v4] st hc rfl hn.1 hn.2.1.symm (by rw [show (lg_sl [v0, v1, v2, v3, v4]).length = 5 from by simp [lg_sl, c0, c1, c2, c3, c4]]; exact hn.2.2.1) hn.2.2.2 (by rw [show lv_args 0 [v0, v1, v2, v3, v4] = [(0, v0), (1, v1), (2, v2), (3, v3), (4, v4)] from by simp [lv_args, c0, c1, c2, c3, c4]]; exact k) (by rintro r t' ⟨v, rfl, h⟩; exact h)
theorem z_cv5i {x m' p1 p2 p3 b : Nat} {v0 v1 v2 v3 v4 : Value} (hc : zat m i j (.invokevirtual x) [m', p1, p2, p3]) (c0 : v0.category = 1) (c1 : v1.category = 1) (c2 : v2.category = 1) (c3 : v3.category = 1) (c4 : v4.category = 1) (hb : zcls b = zci m') (hn : znp m' = 5 ∧ 6 ≤ zl m' ∧ zcat st ≤ 8) (k : ZX d m' 0 [(0, .ref b), (1, v0), (2, v1), (3, v2), (4, v3), (5, v4)] [] t (zKi fun v t' => ZX (d + 1) m j lv (.int (zi v) :: st) t' Q)) : ZX (d + 1) m i lv (v4 :: v3 :: v2 :: v1 :: v0 :: .ref b :: st) t Q :=
  z_cv [v0, v1, v2, v3, v4] st hc rfl hn.1.symm (by rw [show (lg_sl [.ref b, v0, v1, v2, v3, v4]).length = 6 from by simp [lg_sl, show (Value.ref b).category = 1 from rfl, c0, c1, c2, c3, c4]]; exact hn.2.1) hb hn.2.2 (by rw [show lv_args 0 [.ref b, v0, v1, v2, v3, v4] = [(0, .ref b), (1, v0), (2, v1), (3, v2), (4, v3), (5, v4)] from by simp [lv_args, show (Value.ref b).category = 1 from rfl, c0, c1, c2, c3, c4]]; exact k) (by rintro r t' ⟨v, rfl, h⟩; exact h)
theorem z_cs5v {x m' p1 p2 : Nat} {v0 v1 v2 v3 v4 : Value} (hc : zat m i j (.invokestatic x) [m', p1, p2]) (c0 : v0.category = 1) (c1 : v1.category = 1) (c2 : v2.category = 1) (c3 : v3.category = 1) (c4 : v4.category = 1) (hn : m' ≠ 999 ∧ znp m' = 5 ∧ 5 ≤ zl m' ∧ zcat st ≤ 8) (k : ZX d m' 0 [(0, v0), (1, v1), (2, v2), (3, v3), (4, v4)] [] t (zKv fun t' => ZX (d + 1) m j lv st t' Q)) : ZX (d + 1) m i lv (v4 :: v3 :: v2 :: v1 :: v0 :: st) t Q :=
  z_cs [v0, v1, v2, v3, v4] st hc rfl hn.1 hn.2.1.symm (by rw [show (lg_sl [v0, v1, v2, v3, v4]).length = 5 from by simp [lg_sl, c0, c1, c2, c3, c4]]; exact hn.2.2.1) hn.2.2.2 (by rw [show lv_args 0 [v0, v1, v2, v3, v4] = [(0, v0), (1, v1), (2, v2), (3, v3), (4, v4)] from by simp [lv_args, c0, c1, c2, c3, c4]]; exact k) (by rintro r t' ⟨rfl, h⟩; exact h)
theorem z_cv5v {x m' p1 p2 p3 b : Nat} {v0 v1 v2 v3 v4 : Value} (hc : zat m i j (.invokevirtual x) [m', p1, p2, p3]) (c0 : v0.category = 1) (c1 : v1.category = 1) (c2 : v2.category = 1) (c3 : v3.category = 1) (c4 : v4.category = 1) (hb : zcls b = zci m') (hn : znp m' = 5 ∧ 6 ≤ zl m' ∧ zcat st ≤ 8) (k : ZX d m' 0 [(0, .ref b), (1, v0), (2, v1), (3, v2), (4, v3), (5, v4)] [] t (zKv fun t' => ZX (d + 1) m j lv st t' Q)) : ZX (d + 1) m i lv (v4 :: v3 :: v2 :: v1 :: v0 :: .ref b :: st) t Q :=
  z_cv [v0, v1, v2, v3, v4] st hc rfl hn.1.symm (by rw [show (lg_sl [.ref b, v0, v1, v2, v3, v4]).length = 6 from by simp [lg_sl, show (Value.ref b).category = 1 from rfl, c0, c1, c2, c3, c4]]; exact hn.2.1) hb hn.2.2 (by rw [show lv_args 0 [.ref b, v0, v1, v2, v3, v4] = [(0, .ref b), (1, v0), (2, v1), (3, v2), (4, v3), (5, v4)] from by simp [lv_args, show (Value.ref b).category = 1 from rfl, c0, c1, c2, c3, c4]]; exact k) (by rintro r t' ⟨rfl, h⟩; exact h)
theorem z_cs6i {x m' p1 p2 : Nat} {v0 v1 v2 v3 v4 v5 : Value} (hc : zat m i j (.invokestatic x) [m', p1, p2]) (c0 : v0.category = 1) (c1 : v1.category = 1) (c2 : v2.category = 1) (c3 : v3.category = 1) (c4 : v4.category = 1) (c5 : v5.category = 1) (hn : m' ≠ 999 ∧ znp m' = 6 ∧ 6 ≤ zl m' ∧ zcat st ≤ 8) (k : ZX d m' 0 [(0, v0), (1, v1), (2, v2), (3, v3), (4, v4), (5, v5)] [] t (zKi fun v t' => ZX (d + 1) m j lv (.int (zi v) :: st) t' Q)) : ZX (d + 1) m i lv (v5 :: v4 :: v3 :: v2 :: v1 :: v0 :: st) t Q :=
  z_cs [v0, v1, v2, v3, v4, v5] st hc rfl hn.1 hn.2.1.symm (by rw [show (lg_sl [v0, v1, v2, v3, v4, v5]).length = 6 from by simp [lg_sl, c0, c1, c2, c3, c4, c5]]; exact hn.2.2.1) hn.2.2.2 (by rw [show lv_args 0 [v0, v1, v2, v3, v4, v5] = [(0, v0), (1, v1), (2, v2), (3, v3), (4, v4), (5, v5)] from by simp [lv_args, c0, c1, c2, c3, c4, c5]]; exact k) (by rintro r t' ⟨v, rfl, h⟩; exact h)
theorem z_cv6i {x m' p1 p2 p3 b : Nat} {v0 v1 v2 v3 v4 v5 : Value} (hc : zat m i j (.invokevirtual x) [m', p1, p2, p3]) (c0 : v0.category = 1) (c1 : v1.category = 1) (c2 : v2.category = 1) (c3 : v3.category = 1) (c4 : v4.category = 1) (c5 : v5.category = 1) (hb : zcls b = zci m') (hn : znp m' = 6 ∧ 7 ≤ zl m' ∧ zcat st ≤ 8) (k : ZX d m' 0 [(0, .ref b), (1, v0), (2, v1), (3, v2), (4, v3), (5, v4), (6, v5)] [] t (zKi fun v t' => ZX (d + 1) m j lv (.int (zi v) :: st) t' Q)) : ZX (d + 1) m i lv (v5 :: v4 :: v3 :: v2 :: v1 :: v0 :: .ref b :: st) t Q :=
  z_cv [v0, v1, v2, v3, v4, v5] st hc rfl hn.1.symm (by rw [show (lg_sl [.ref b, v0, v1, v2, v3, v4, v5]).length = 7 from by simp [lg_sl, show (Value.ref b).category = 1 from rfl, c0, c1, c2, c3, c4, c5]]; exact hn.2.1) hb hn.2.2 (by rw [show lv_args 0 [.ref b, v0, v1, v2, v3, v4, v5] = [(0, .ref b), (1, v0), (2, v1), (3, v2), (4, v3), (5, v4), (6, v5)] from by simp [lv_args, show (Value.ref b).category = 1 from rfl, c0, c1, c2, c3, c4, c5]]; exact k) (by rintro r t' ⟨v, rfl, h⟩; exact h)
theorem z_cs6v {x m' p1 p2 : Nat} {v0 v1 v2 v3 v4 v5 : Value} (hc : zat m i j (.invokestatic x) [m', p1, p2]) (c0 : v0.category = 1) (c1 : v1.category = 1) (c2 : v2.category = 1) (c3 : v3.category = 1) (c4 : v4.category = 1) (c5 : v5.category = 1) (hn : m' ≠ 999 ∧ znp m' = 6 ∧ 6 ≤ zl m' ∧ zcat st ≤ 8) (k : ZX d m' 0 [(0, v0), (1, v1), (2, v2), (3, v3), (4, v4), (5, v5)] [] t (zKv fun t' => ZX (d + 1) m j lv st t' Q)) : ZX (d + 1) m i lv (v5 :: v4 :: v3 :: v2 :: v1 :: v0 :: st) t Q :=
  z_cs [v0, v1, v2, v3, v4, v5] st hc rfl hn.1 hn.2.1.symm (by rw [show (lg_sl [v0, v1, v2, v3, v4, v5]).length = 6 from by simp [lg_sl, c0, c1, c2, c3, c4, c5]]; exact hn.2.2.1) hn.2.2.2 (by rw [show lv_args 0 [v0, v1, v2, v3, v4, v5] = [(0, v0), (1, v1), (2, v2), (3, v3), (4, v4), (5, v5)] from by simp [lv_args, c0, c1, c2, c3, c4, c5]]; exact k) (by rintro r t' ⟨rfl, h⟩; exact h)
theorem z_cv6v {x m' p1 p2 p3 b : Nat} {v0 v1 v2 v3 v4 v5 : Value} (hc : zat m i j (.invokevirtual x) [m', p1, p2, p3]) (c0 : v0.category = 1) (c1 : v1.category = 1) (c2 : v2.category = 1) (c3 : v3.category = 1) (c4 : v4.category = 1) (c5 : v5.category = 1) (hb : zcls b = zci m') (hn : znp m' = 6 ∧ 7 ≤ zl m' ∧ zcat st ≤ 8) (k : ZX d m' 0 [(0, .ref b), (1, v0), (2, v1), (3, v2), (4, v3), (5, v4), (6, v5)] [] t (zKv fun t' => ZX (d + 1) m j lv st t' Q)) : ZX (d + 1) m i lv (v5 :: v4 :: v3 :: v2 :: v1 :: v0 :: .ref b :: st) t Q :=
  z_cv [v0, v1, v2, v3, v4, v5] st hc rfl hn.1.symm (by rw [show (lg_sl [.ref b, v0, v1, v2, v3, v4, v5]).length = 7 from by simp [lg_sl, show (Value.ref b).category = 1 from rfl, c0, c1, c2, c3, c4, c5]]; exact hn.2.1) hb hn.2.2 (by rw [show lv_args 0 [.ref b, v0, v1, v2, v3, v4, v5] = [(0, .ref b), (1, v0), (2, v1), (3, v2), (4, v3), (5, v4), (6, v5)] from by simp [lv_args, show (Value.ref b).category = 1 from rfl, c0, c1, c2, c3, c4, c5]]; exact k) (by rintro r t' ⟨rfl, h⟩; exact h)
end
