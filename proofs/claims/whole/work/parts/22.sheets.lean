/-! sheets: lanes (-1: nothing), how many items, items -/
abbrev gSh := (Nat → Int) × (Nat → Int) × (Nat → Nat → Int)
def zSC (t : zMI) (sh : gSh) : Prop := ∀ n, n < 4 → t (40 + 2 * n) 1 = (if sh.1 n < 0 then 0 else 1) ∧ (0 ≤ sh.1 n → t (40 + 2 * n) 2 = sh.1 n) ∧ t (40 + 2 * n) 3 = sh.2.1 n ∧ ∀ i, i < 24 → t (40 + 2 * n + 1) i = sh.2.2 n i
def gShW (sh : gSh) : Prop := ∀ n, n < 4 → (-1 ≤ sh.1 n ∧ sh.1 n ≤ 2) ∧ (0 ≤ sh.2.1 n ∧ sh.2.1 n ≤ 24) ∧ ∀ i, i < 24 → -2147483648 ≤ sh.2.2 n i ∧ sh.2.2 n i < 2147483648
theorem zShO {n : Nat} (h : n < 4) : zSh (40 + 2 * n) := by unfold zSh; omega
def gLack (sh : gSh) (n : Nat) (lane fr w : Int) : Int := if sh.1 n < 0 then -11 else if sh.1 n ≠ lane then -12 else if 0 ≤ fr ∧ fr ≤ sh.2.1 n - w then 0 else -13
def gnr (lane v : Int) : Int := if lane = 0 then (v + 128) % 256 - 128 else if lane = 1 then (v + 32768) % 65536 - 32768 else v
def oSheet (sh : gSh) (s lane n : Int) : Int × gSh := if (0 ≤ s ∧ s < 4) ∧ (0 ≤ lane ∧ lane ≤ 2) ∧ n ≤ 24 then (if n < 0 then (-14, sh) else (n, (fup sh.1 s.toNat lane, fup sh.2.1 s.toNat n, fun q i => if q = s.toNat then 0 else sh.2.2 q i))) else (-1, sh)
def oDrop (sh : gSh) (s : Int) : Int × gSh := if 0 ≤ s ∧ s < 4 then (if sh.1 s.toNat < 0 then (-11, sh) else (sh.2.1 s.toNat, (fup sh.1 s.toNat (-1), sh.2.1, sh.2.2))) else (-1, sh)
def oItem (sh : gSh) (s lane i v : Int) : Int × gSh := if (0 ≤ s ∧ s < 4) ∧ (0 ≤ lane ∧ lane ≤ 2) then (if gLack sh s.toNat lane i 1 ≠ 0 then (gLack sh s.toNat lane i 1, sh) else (1, (sh.1, sh.2.1, fup2 sh.2.2 s.toNat i.toNat (gnr lane v)))) else (-1, sh)
def gfi (g : zG) (si : Nat → Nat → Int) (s fr : Nat) : Nat → Nat → Nat → Int
  | 0 => si
  | n + 1 => fup2 (fup2 (gfi g si s fr n) s (fr + 2 * n) (gM g (gR g n) (gF g n))) s (fr + 2 * n + 1) (gM g (gR g n) (1 - gF g n))
def oFilm (g : zG) (sh : gSh) (s lane fr : Int) : Int × gSh := if (0 ≤ s ∧ s < 4) ∧ (0 ≤ lane ∧ lane ≤ 2) then (if gLack sh s.toNat lane fr (2 * (gL g : Int)) ≠ 0 then (gLack sh s.toNat lane fr (2 * (gL g : Int)), sh) else (2 * (gL g : Int), (sh.1, sh.2.1, gfi g sh.2.2 s.toNat fr.toNat (gL g)))) else (-1, sh)
theorem gnr_rng {lane v : Int} (hv : -2147483648 ≤ v ∧ v < 2147483648) : -2147483648 ≤ gnr lane v ∧ gnr lane v < 2147483648 := by
  unfold gnr
  split
  · omega
  · split <;> omega
theorem fup2_rng {f : Nat → Nat → Int} {s i : Nat} {v : Int} {q j : Nat} (h : -2147483648 ≤ f q j ∧ f q j < 2147483648) (hv : -2147483648 ≤ v ∧ v < 2147483648) : -2147483648 ≤ fup2 f s i v q j ∧ fup2 f s i v q j < 2147483648 := by
  unfold fup2
  split
  · exact hv
  · exact h
theorem oSheet_ok {sh : gSh} (h : gShW sh) (s lane n : Int) : gShW (oSheet sh s lane n).2 := by
  unfold oSheet
  split
  · rename_i c
    split
    · exact h
    · intro q hq
      have hh := h q hq
      refine ⟨?_, ?_, fun i hi => ?_⟩
      · show -1 ≤ fup sh.1 s.toNat lane q ∧ fup sh.1 s.toNat lane q ≤ 2
        unfold fup
        split
        · omega
        · exact hh.1
      · show 0 ≤ fup sh.2.1 s.toNat n q ∧ fup sh.2.1 s.toNat n q ≤ 24
        unfold fup
        split
        · omega
        · exact hh.2.1
      · show -2147483648 ≤ (if q = s.toNat then 0 else sh.2.2 q i) ∧ (if q = s.toNat then 0 else sh.2.2 q i) < 2147483648
        split
        · omega
        · exact hh.2.2 i hi
  · exact h
theorem oDrop_ok {sh : gSh} (h : gShW sh) (s : Int) : gShW (oDrop sh s).2 := by
  unfold oDrop
  split
  · split
    · exact h
    · intro q hq
      have hh := h q hq
      refine ⟨?_, hh.2⟩
      show -1 ≤ fup sh.1 s.toNat (-1) q ∧ fup sh.1 s.toNat (-1) q ≤ 2
      unfold fup
      split
      · omega
      · exact hh.1
  · exact h
theorem oItem_ok {sh : gSh} (h : gShW sh) (s lane i : Int) {v : Int} (hv : -2147483648 ≤ v ∧ v < 2147483648) : gShW (oItem sh s lane i v).2 := by
  unfold oItem
  split
  · split
    · exact h
    · intro q hq
      have hh := h q hq
      exact ⟨hh.1, hh.2.1, fun j hj => fup2_rng (hh.2.2 j hj) (gnr_rng hv)⟩
  · exact h
theorem gfi_rng {g : zG} (hw : gWF g) {si : Nat → Nat → Int} {s fr q j : Nat} (h : -2147483648 ≤ si q j ∧ si q j < 2147483648) : ∀ n, n ≤ gL g → -2147483648 ≤ gfi g si s fr n q j ∧ gfi g si s fr n q j < 2147483648
  | 0, _ => h
  | n + 1, hn => by
    have hr := hw.r (p := n) (by omega)
    have h1 := hw.t hr.1 hr.2
    have h2 := hw.t hr.1 (show 1 - gF g n < 2 by omega)
    exact fup2_rng (fup2_rng (gfi_rng hw h n (by omega)) (by omega)) (by omega)
theorem oFilm_ok {g : zG} (hw : gWF g) {sh : gSh} (h : gShW sh) (s lane fr : Int) : gShW (oFilm g sh s lane fr).2 := by
  unfold oFilm
  split
  · split
    · exact h
    · intro q hq
      have hh := h q hq
      exact ⟨hh.1, hh.2.1, fun j hj => gfi_rng hw (hh.2.2 j hj) _ (Nat.le_refl _)⟩
  · exact h
theorem gLack_0 {sh : gSh} {n : Nat} {lane fr w : Int} (h : gLack sh n lane fr w = 0) : 0 ≤ sh.1 n ∧ sh.1 n = lane ∧ 0 ≤ fr ∧ fr ≤ sh.2.1 n - w := by
  unfold gLack at h
  split at h
  · omega
  · split at h
    · omega
    · split at h
      · omega
      · omega
theorem zb8 {v : Int} (hv : -2147483648 ≤ v ∧ v < 2147483648) : (zi v).toInt8.toInt32 = zi ((v + 128) % 256 - 128) := by
  rw [← Int32.toInt_inj, Int8.toInt_toInt32, zi_toInt (by omega)]
  show (BitVec.signExtend 8 (zi v).toBitVec).toInt = _
  rw [BitVec.signExtend_eq_setWidth_of_le _ (by omega), BitVec.toInt_setWidth]
  have e : (zi v).toBitVec.toNat = (v % 4294967296).toNat := by
    show (BitVec.ofInt 32 v).toNat = _
    rw [BitVec.toNat_ofInt]
    rfl
  rw [e, Int.bmod_def]
  split <;> omega
theorem zs16 {v : Int} (hv : -2147483648 ≤ v ∧ v < 2147483648) : (zi v).toInt16.toInt32 = zi ((v + 32768) % 65536 - 32768) := by
  rw [← Int32.toInt_inj, Int16.toInt_toInt32, zi_toInt (by omega)]
  show (BitVec.signExtend 16 (zi v).toBitVec).toInt = _
  rw [BitVec.signExtend_eq_setWidth_of_le _ (by omega), BitVec.toInt_setWidth]
  have e : (zi v).toBitVec.toNat = (v % 4294967296).toNat := by
    show (BitVec.ofInt 32 v).toNat = _
    rw [BitVec.toNat_ofInt]
    rfl
  rw [e, Int.bmod_def]
  split <;> omega
theorem z_cv1r {d m i j : Nat} {lv : List (Nat × Value)} {st : List Value} {t : zMI} {Q : Option Value → zMI → Prop} {x m' p1 p2 p3 b : Nat} {v0 : Value} (hc : zat m i j (.invokevirtual x) [m', p1, p2, p3]) (c0 : v0.category = 1) (hb : zcls b = zci m') (hn : znp m' = 1 ∧ 2 ≤ zl m' ∧ zcat st ≤ 8)
    (k : ZX d m' 0 [(0, .ref b), (1, v0)] [] t (zKr fun v t' => ZX (d + 1) m j lv (va_rf v :: st) t' Q)) : ZX (d + 1) m i lv (v0 :: .ref b :: st) t Q :=
  z_cv [v0] st hc rfl hn.1.symm (by rw [show (lg_sl [.ref b, v0]).length = 2 from by simp [lg_sl, show (Value.ref b).category = 1 from rfl, c0]]; exact hn.2.1) hb hn.2.2 (by rw [show lv_args 0 [.ref b, v0] = [(0, .ref b), (1, v0)] from by simp [lv_args, show (Value.ref b).category = 1 from rfl, c0]]; exact k) (by rintro r t' ⟨v, rfl, h⟩; exact h)
section
variable {d : Nat} {t : zMI} {g : zG} {sh : gSh} {K : Int → zMI → Prop} {Kv : zMI → Prop} {Kr : Option Nat → zMI → Prop}
theorem s_sheetAt {a : Int} (r1 : -2147483648 ≤ a ∧ a < 2147483648) (kt : ∀ n : Nat, a = n → n < 4 → Kr (some (40 + 2 * n)) t) (kf : ¬ (0 ≤ a ∧ a < 4) → Kr none t) : ZX d 99 0 [(0, .ref 0), (1, .int (zi a))] [] t (zKr Kr) := by
  refine z_iload_n zi_99_0 rfl ?_
  refine z_if_lt zi_99_1 (by omega) (fun c => ?_) (fun c => ?_)
  · refine z_aconst_null zi_99_12 ?_
    refine z_areturnN zi_99_13 rfl (kf (by omega))
  · refine z_iload_n zi_99_2 rfl ?_
    refine z_aload_n zi_99_3 rfl ?_
    refine z_getfield zi_99_4 rfl ?_
    refine z_alenq zi_99_5 rfl rfl ?_
    show ZX d 99 6 _ (.int (zi 4) :: _) t _
    refine z_icmp_ge zi_99_6 (by omega) (fun c2 => ?_) (fun c2 => ?_)
    · refine z_aconst_null zi_99_12 ?_
      refine z_areturnN zi_99_13 rfl (kf (by omega))
    · obtain ⟨n, rfl⟩ : ∃ n : Nat, a = n := ⟨a.toNat, by omega⟩
      rcases (by omega : n = 0 ∨ n = 1 ∨ n = 2 ∨ n = 3) with rfl | rfl | rfl | rfl
      · refine z_aload_n zi_99_7 rfl ?_
        refine z_getfield zi_99_8 rfl ?_
        refine z_iload_n zi_99_9 rfl ?_
        refine z_aaload (n := 0) (q := 40) zi_99_10 rfl (by decide) rfl rfl ?_
        refine z_goto zi_99_11 ?_
        refine z_areturn zi_99_13 rfl (kt 0 rfl (by omega))
      · refine z_aload_n zi_99_7 rfl ?_
        refine z_getfield zi_99_8 rfl ?_
        refine z_iload_n zi_99_9 rfl ?_
        refine z_aaload (n := 1) (q := 42) zi_99_10 rfl (by decide) rfl rfl ?_
        refine z_goto zi_99_11 ?_
        refine z_areturn zi_99_13 rfl (kt 1 rfl (by omega))
      · refine z_aload_n zi_99_7 rfl ?_
        refine z_getfield zi_99_8 rfl ?_
        refine z_iload_n zi_99_9 rfl ?_
        refine z_aaload (n := 2) (q := 44) zi_99_10 rfl (by decide) rfl rfl ?_
        refine z_goto zi_99_11 ?_
        refine z_areturn zi_99_13 rfl (kt 2 rfl (by omega))
      · refine z_aload_n zi_99_7 rfl ?_
        refine z_getfield zi_99_8 rfl ?_
        refine z_iload_n zi_99_9 rfl ?_
        refine z_aaload (n := 3) (q := 46) zi_99_10 rfl (by decide) rfl rfl ?_
        refine z_goto zi_99_11 ?_
        refine z_areturn zi_99_13 rfl (kt 3 rfl (by omega))
theorem s_refusalOf {lane fr w : Int} {n : Nat} (h : zSC t sh) (hw : gShW sh) (hn : n < 4) (r1 : -2147483648 ≤ lane ∧ lane < 2147483648) (r2 : -2147483648 ≤ fr ∧ fr < 2147483648) (r3 : 0 ≤ w ∧ w ≤ 24) (k : K (gLack sh n lane fr w) t) : ZX d 3 0 [(0, .ref (40 + 2 * n)), (1, .int (zi lane)), (2, .int (zi fr)), (3, .int (zi w))] [] t (zKi K) := by
  have hS := zShO hn
  obtain ⟨h1, h2, h3, -⟩ := h n hn
  obtain ⟨w1, w2, -⟩ := hw n hn
  unfold gLack at k
  refine z_aload_n zi_3_0 rfl ?_
  refine z_getfield zi_3_1 (zsh_f1 hS) ?_
  rw [h1]
  by_cases c : sh.1 n < 0
  · rw [if_pos c] at k ⊢
    refine z_if_ne_f zi_3_2 (by omega) (by omega) ?_
    refine z_bipush zi_3_3 (by decide) ?_
    refine z_ireturn zi_3_4 rfl k
  · rw [if_neg c] at k ⊢
    refine z_if_ne_t zi_3_2 (by omega) (by omega) ?_
    refine z_iload_n zi_3_5 rfl ?_
    refine z_aload_n zi_3_6 rfl ?_
    refine z_getfield zi_3_7 (zsh_f2 hS) ?_
    rw [h2 (by omega)]
    refine z_icmp_eq zi_3_8 (by omega) (fun c2 => ?_) (fun c2 => ?_)
    · rw [if_neg (fun z => z c2.symm)] at k
      refine z_iload_n zi_3_11 rfl ?_
      refine z_if_lt zi_3_12 (by omega) (fun c3 => ?_) (fun c3 => ?_)
      · rw [if_neg (by omega)] at k
        refine z_bipush zi_3_19 (by decide) ?_
        refine z_goto zi_3_20 ?_
        refine z_ireturn zi_3_22 rfl k
      · refine z_iload_n zi_3_13 rfl ?_
        refine z_aload_n zi_3_14 rfl ?_
        refine z_getfield zi_3_15 (zsh_f3 hS) ?_
        rw [h3]
        refine z_iload_n zi_3_16 rfl ?_
        refine z_isub zi_3_17 ?_
        refine z_icmp_le zi_3_18 (by omega) (fun c4 => ?_) (fun c4 => ?_)
        · rw [if_pos (by omega)] at k
          refine z_iconst zi_3_21 ?_
          refine z_ireturn zi_3_22 rfl k
        · rw [if_neg (by omega)] at k
          refine z_bipush zi_3_19 (by decide) ?_
          refine z_goto zi_3_20 ?_
          refine z_ireturn zi_3_22 rfl k
    · rw [if_pos (fun z => c2 z.symm)] at k
      refine z_bipush zi_3_9 (by decide) ?_
      refine z_ireturn zi_3_10 rfl k
theorem s_itemAt {a : Int} {n i : Nat} (h : zSC t sh) (hn : n < 4) (ha : a = (i : Int)) (hi : i < 24) (k : K (sh.2.2 n i) t) : ZX (d + 1) 4 0 [(0, .ref (40 + 2 * n)), (1, .int (zi a))] [] t (zKi K) := by
  have hS := zShO hn
  refine z_aload_n zi_4_0 rfl ?_
  refine z_getfield zi_4_1 (zsh_f0 hS) ?_
  refine z_iload_n zi_4_2 rfl ?_
  refine z_cs2i zi_4_3 rfl rfl ⟨by decide, rfl, Nat.le_of_ble_eq_true rfl, Nat.le_of_ble_eq_true rfl⟩ (s_at (zsh_a hS) (by omega) ha hi ?_)
  rw [(h n hn).2.2.2 i hi]
  refine z_ireturn zi_4_4 rfl k
theorem s_setItem {a v : Int} {n i : Nat} (h : zSC t sh) (hn : n < 4) (hl : 0 ≤ sh.1 n ∧ sh.1 n ≤ 2) (ha : a = (i : Int)) (hi : i < 24) (hv : -2147483648 ≤ v ∧ v < 2147483648) (k : Kv (zup t (40 + 2 * n + 1) i (gnr (sh.1 n) v))) : ZX (d + 1) 5 0 [(0, .ref (40 + 2 * n)), (1, .int (zi a)), (2, .int (zi v))] [] t (zKv Kv) := by
  have hS := zShO hn
  obtain ⟨-, h2, -, -⟩ := h n hn
  unfold gnr at k
  refine z_aload_n zi_5_0 rfl ?_
  refine z_getfield zi_5_1 (zsh_f0 hS) ?_
  refine z_iload_n zi_5_2 rfl ?_
  refine z_aload_n zi_5_3 rfl ?_
  refine z_getfield zi_5_4 (zsh_f2 hS) ?_
  rw [h2 (by omega)]
  refine z_if_ne zi_5_5 (by omega) (fun c => ?_) (fun c => ?_)
  · refine z_aload_n zi_5_9 rfl ?_
    refine z_getfield zi_5_10 (zsh_f2 hS) ?_
    rw [h2 (by omega)]
    rw [if_neg c] at k
    refine z_iconst zi_5_11 ?_
    refine z_icmp_ne zi_5_12 (by omega) (fun c2 => ?_) (fun c2 => ?_)
    · rw [if_neg c2] at k
      refine z_iload_n zi_5_16 rfl ?_
      refine z_cs3v zi_5_17 rfl rfl rfl ⟨by decide, rfl, Nat.le_of_ble_eq_true rfl, Nat.le_of_ble_eq_true rfl⟩ (s_put (zsh_a hS) (by omega) ha hi ?_)
      refine z_vreturn zi_5_18 rfl k
    · rw [if_pos (by omega)] at k
      refine z_iload_n zi_5_13 rfl ?_
      refine z_i2s zi_5_14 (zs16 hv) ?_
      refine z_goto zi_5_15 ?_
      refine z_cs3v zi_5_17 rfl rfl rfl ⟨by decide, rfl, Nat.le_of_ble_eq_true rfl, Nat.le_of_ble_eq_true rfl⟩ (s_put (zsh_a hS) (by omega) ha hi ?_)
      refine z_vreturn zi_5_18 rfl k
  · rw [if_pos (by omega)] at k
    refine z_iload_n zi_5_6 rfl ?_
    refine z_i2b zi_5_7 (zb8 hv) ?_
    refine z_goto zi_5_8 ?_
    refine z_cs3v zi_5_17 rfl rfl rfl ⟨by decide, rfl, Nat.le_of_ble_eq_true rfl, Nat.le_of_ble_eq_true rfl⟩ (s_put (zsh_a hS) (by omega) ha hi ?_)
    refine z_vreturn zi_5_18 rfl k
theorem zSC_set {n i : Nat} {v : Int} (h : zSC t sh) (hn : n < 4) : zSC (zup t (40 + 2 * n + 1) i v) (sh.1, sh.2.1, fup2 sh.2.2 n i v) := by
  intro q hq
  obtain ⟨h1, h2, h3, h4⟩ := h q hq
  rw [zup_o (k := 40 + 2 * q) (by omega)]
  refine ⟨h1, h2, h3, fun j hj => ?_⟩
  show zup t (40 + 2 * n + 1) i v (40 + 2 * q + 1) j = fup2 sh.2.2 n i v q j
  unfold fup2
  by_cases z : q = n
  · subst z
    rw [zup_at]
    by_cases z2 : j = i
    · rw [if_pos z2, if_pos ⟨rfl, z2⟩]
    · rw [if_neg z2, if_neg (fun y => z2 y.2)]
      exact h4 j hj
  · rw [zup_o (by omega), if_neg (fun y => z y.1)]
    exact h4 j hj
theorem s_holdNew {lane w : Int} {n : Nat} (h : zSC t sh) (hn : n < 4) (hl : 0 ≤ lane) (k : ∀ t', zSC t' (fup sh.1 n lane, fup sh.2.1 n w, fun q i => if q = n then 0 else sh.2.2 q i) → (∀ q, ¬ (40 ≤ q ∧ q < 48) → t' q = t q) → Kv t') : ZX (d + 1) 1 0 [(0, .ref (40 + 2 * n)), (1, .int (zi lane)), (2, .int (zi w))] [] t (zKv Kv) := by
  have hS := zShO hn
  have loop : ∀ (j i : Nat) (t' : zMI), i + j = 24 → (∀ q, ¬ (40 ≤ q ∧ q < 48) → t' q = t q) → (∀ q, q < 4 → t' (40 + 2 * q) 1 = (if fup sh.1 n lane q < 0 then 0 else 1) ∧ (0 ≤ fup sh.1 n lane q → t' (40 + 2 * q) 2 = fup sh.1 n lane q) ∧ t' (40 + 2 * q) 3 = fup sh.2.1 n w q) → (∀ q, q < 4 → q ≠ n → ∀ i', i' < 24 → t' (40 + 2 * q + 1) i' = sh.2.2 q i') → (∀ i', i' < i → t' (40 + 2 * n + 1) i' = 0) → ZX (d + 1) 1 11 [(3, .int (zi i)), (0, .ref (40 + 2 * n)), (1, .int (zi lane)), (2, .int (zi w))] [] t' (zKv Kv) := by
    intro j
    induction j with
    | zero =>
      intro i t' e hf ha hb hc
      refine z_iload_n zi_1_11 rfl ?_
      refine z_bipush zi_1_12 (by decide) ?_
      refine z_icmp_ge_t zi_1_13 (by omega) (by omega) ?_
      refine z_vreturn zi_1_21 rfl (k t' (fun q hq => ⟨(ha q hq).1, (ha q hq).2.1, (ha q hq).2.2, fun i' hi' => ?_⟩) hf)
      show _ = (if q = n then 0 else sh.2.2 q i')
      by_cases z : q = n
      · rw [if_pos z, z]; exact hc i' (by omega)
      · rw [if_neg z]; exact hb q hq z i' hi'
    | succ j ih =>
      intro i t' e hf ha hb hc
      refine z_iload_n zi_1_11 rfl ?_
      refine z_bipush zi_1_12 (by decide) ?_
      refine z_icmp_ge_f zi_1_13 (by omega) (by omega) ?_
      refine z_aload_n zi_1_14 rfl ?_
      refine z_getfield zi_1_15 (zsh_f0 hS) ?_
      refine z_iload_n zi_1_16 rfl ?_
      refine z_iconst zi_1_17 ?_
      refine z_cs3v zi_1_18 rfl rfl rfl ⟨by decide, rfl, Nat.le_of_ble_eq_true rfl, Nat.le_of_ble_eq_true rfl⟩ (s_put (n := i) (zsh_a hS) (by omega) rfl (by omega) ?_)
      refine z_iinc zi_1_19 rfl rfl ?_
      refine z_goto zi_1_20 ?_
      refine z_loc (lv' := [(3, .int (zi ((i + 1 : Nat) : Int))), (0, .ref (40 + 2 * n)), (1, .int (zi lane)), (2, .int (zi w))]) rfl ?_
      refine ih (i + 1) _ (by omega) (fun q hq => ?_) (fun q hq => ?_) (fun q hq hqn i' hi' => ?_) (fun i' hi' => ?_)
      · rw [zup_o (by omega)]; exact hf q hq
      · rw [zup_o (by omega)]; exact ha q hq
      · rw [zup_o (by omega)]; exact hb q hq hqn i' hi'
      · rw [zup_at]
        split
        · rfl
        · exact hc i' (by omega)
  refine z_aload_n zi_1_0 rfl ?_
  refine z_iconst zi_1_1 ?_
  refine z_putfield zi_1_2 (zsh_i1 hS) (Or.inr ⟨rfl, by omega⟩) ?_
  refine z_aload_n zi_1_3 rfl ?_
  refine z_iload_n zi_1_4 rfl ?_
  refine z_putfield zi_1_5 (zsh_i2 hS) (Or.inl rfl) ?_
  refine z_aload_n zi_1_6 rfl ?_
  refine z_iload_n zi_1_7 rfl ?_
  refine z_putfield zi_1_8 (zsh_i3 hS) (Or.inl rfl) ?_
  refine z_iconst zi_1_9 ?_
  refine z_istore_n zi_1_10 rfl ?_
  refine z_loc (lv' := [(3, .int (zi ((0 : Nat) : Int))), (0, .ref (40 + 2 * n)), (1, .int (zi lane)), (2, .int (zi w))]) rfl ?_
  refine loop 24 0 _ (by omega) (fun q hq => ?_) (fun q hq => ?_) (fun q hq hqn i' hi' => ?_) (fun i' hi' => by omega)
  · rw [zup_o (by omega), zup_o (by omega), zup_o (by omega)]
  · unfold fup
    by_cases z : q = n
    · subst z
      rw [if_pos rfl, if_pos rfl, if_neg (by omega)]
      refine ⟨?_, fun _ => ?_, ?_⟩ <;> simp (disch := omega) only [zup_n, zup_s]
    · rw [if_neg z, if_neg z]
      simp (disch := omega) only [zup_o]
      exact ⟨(h q hq).1, (h q hq).2.1, (h q hq).2.2.1⟩
  · simp (disch := omega) only [zup_o]
    exact (h q hq).2.2.2 i' hi'
theorem s_sheet {s lane n : Int} (h : zSC t sh) (hw : gShW sh) (r1 : -2147483648 ≤ s ∧ s < 2147483648) (r2 : -2147483648 ≤ lane ∧ lane < 2147483648) (r3 : -2147483648 ≤ n ∧ n < 2147483648) (k : ∀ t', zSC t' (oSheet sh s lane n).2 → (∀ q, ¬ (40 ≤ q ∧ q < 48) → t' q = t q) → K (oSheet sh s lane n).1 t') : ZX (d + 3) 89 0 [(0, .ref 0), (1, .int (zi s)), (2, .int (zi lane)), (3, .int (zi n))] [] t (zKi K) := by
  unfold oSheet at k
  refine z_aload_n zi_89_0 rfl ?_
  refine z_iload_n zi_89_1 rfl ?_
  refine z_cv1r zi_89_2 rfl rfl ⟨rfl, Nat.le_of_ble_eq_true rfl, Nat.le_of_ble_eq_true rfl⟩ (s_sheetAt r1 (fun m em hm => ?_) (fun q => ?_))
  · subst em
    have hS := zShO hm
    show ZX _ _ _ _ [.ref (40 + 2 * m)] _ _
    refine z_astore zi_89_3 rfl ?_
    refine z_aload zi_89_4 rfl ?_
    refine z_ifnull_R zi_89_5 ?_
    refine z_iload_n zi_89_6 rfl ?_
    refine z_cs1i zi_89_7 rfl ⟨by decide, rfl, Nat.le_of_ble_eq_true rfl, Nat.le_of_ble_eq_true rfl⟩ (s_isLane r2 (fun q2 => ?_) (fun q2 => ?_))
    · refine z_if_eq_f zi_89_8 (by omega) (by omega) ?_
      refine z_iload_n zi_89_9 rfl ?_
      refine z_bipush zi_89_10 (by decide) ?_
      refine z_icmp_le zi_89_11 (by omega) (fun c => ?_) (fun c => ?_)
      · rw [if_pos ⟨by omega, q2, c⟩] at k
        refine z_iload_n zi_89_14 rfl ?_
        refine z_if_ge zi_89_15 (by omega) (fun c2 => ?_) (fun c2 => ?_)
        · rw [if_neg (by omega)] at k
          refine z_aload zi_89_18 rfl ?_
          refine z_iload_n zi_89_19 rfl ?_
          refine z_iload_n zi_89_20 rfl ?_
          refine z_cv2v zi_89_21 rfl rfl (zsh_c hS) ⟨rfl, Nat.le_of_ble_eq_true rfl, Nat.le_of_ble_eq_true rfl⟩ (s_holdNew (n := m) h hm q2.1 (fun t1 h1 f1 => ?_))
          refine z_iload_n zi_89_22 rfl ?_
          refine z_ireturn zi_89_23 rfl (k t1 h1 f1)
        · rw [if_pos (by omega)] at k
          refine z_bipush zi_89_16 (by decide) ?_
          refine z_ireturn zi_89_17 rfl (k t h (fun _ _ => rfl))
      · rw [if_neg (fun z => c z.2.2)] at k
        refine z_iconst zi_89_12 ?_
        refine z_ireturn zi_89_13 rfl (k t h (fun _ _ => rfl))
    · rw [if_neg (fun z => q2 z.2.1)] at k
      refine z_if_eq_t zi_89_8 (by omega) (by omega) ?_
      refine z_iconst zi_89_12 ?_
      refine z_ireturn zi_89_13 rfl (k t h (fun _ _ => rfl))
  · rw [if_neg (fun z => q z.1)] at k
    show ZX _ _ _ _ [.null] _ _
    refine z_astoreN zi_89_3 rfl ?_
    refine z_aloadN zi_89_4 rfl ?_
    refine z_ifnull_N zi_89_5 ?_
    refine z_iconst zi_89_12 ?_
    refine z_ireturn zi_89_13 rfl (k t h (fun _ _ => rfl))
theorem s_drop {s : Int} (h : zSC t sh) (hw : gShW sh) (r1 : -2147483648 ≤ s ∧ s < 2147483648) (k : ∀ t', zSC t' (oDrop sh s).2 → (∀ q, ¬ (40 ≤ q ∧ q < 48) → t' q = t q) → K (oDrop sh s).1 t') : ZX (d + 3) 90 0 [(0, .ref 0), (1, .int (zi s))] [] t (zKi K) := by
  unfold oDrop at k
  refine z_aload_n zi_90_0 rfl ?_
  refine z_iload_n zi_90_1 rfl ?_
  refine z_cv1r zi_90_2 rfl rfl ⟨rfl, Nat.le_of_ble_eq_true rfl, Nat.le_of_ble_eq_true rfl⟩ (s_sheetAt r1 (fun m em hm => ?_) (fun q => ?_))
  · subst em
    have hS := zShO hm
    obtain ⟨h1, h2, h3, h4⟩ := h m hm
    rw [if_pos (by omega)] at k
    have em : ((m : Int)).toNat = m := by omega
    rw [em] at k
    show ZX _ _ _ _ [.ref (40 + 2 * m)] _ _
    refine z_astore_n zi_90_3 rfl ?_
    refine z_aload_n zi_90_4 rfl ?_
    refine z_ifnonnull_R zi_90_5 ?_
    refine z_aload_n zi_90_8 rfl ?_
    refine z_cv0i zi_90_9 (zsh_c hS) ⟨rfl, Nat.le_of_ble_eq_true rfl, Nat.le_of_ble_eq_true rfl⟩ ?_
    refine z_aload_n zi_0_0 rfl ?_
    refine z_getfield zi_0_1 (zsh_f1 hS) ?_
    rw [h1]
    by_cases c : sh.1 m < 0
    · rw [if_pos c] at k ⊢
      refine z_if_ne_f zi_0_2 (by omega) (by omega) ?_
      refine z_iconst zi_0_3 ?_
      refine z_goto zi_0_4 ?_
      refine z_zreturn zi_0_6 rfl (by omega) ?_
      refine z_if_eq_f zi_90_10 (by omega) (by omega) ?_
      refine z_bipush zi_90_11 (by decide) ?_
      refine z_goto zi_90_12 ?_
      refine z_ireturn zi_90_15 rfl (k t h (fun _ _ => rfl))
    · rw [if_neg c] at k ⊢
      refine z_if_ne_t zi_0_2 (by omega) (by omega) ?_
      refine z_iconst zi_0_5 ?_
      refine z_zreturn zi_0_6 rfl (by omega) ?_
      refine z_if_eq_t zi_90_10 (by omega) (by omega) ?_
      refine z_aload_n zi_90_13 rfl ?_
      refine z_cv0i zi_90_14 (zsh_c hS) ⟨rfl, Nat.le_of_ble_eq_true rfl, Nat.le_of_ble_eq_true rfl⟩ ?_
      refine z_aload_n zi_2_0 rfl ?_
      refine z_iconst zi_2_1 ?_
      refine z_putfield zi_2_2 (zsh_i1 hS) (Or.inr ⟨rfl, by omega⟩) ?_
      refine z_aload_n zi_2_3 rfl ?_
      refine z_getfield zi_2_4 (zsh_f3 hS) ?_
      rw [zup_n (by omega), h3]
      refine z_ireturn zi_2_5 rfl ?_
      refine z_ireturn zi_90_15 rfl (k _ (fun q hq => ?_) (fun q hq => zup_o (by omega)))
      show zup t (40 + 2 * m) 1 0 (40 + 2 * q) 1 = (if fup sh.1 m (-1) q < 0 then 0 else 1) ∧ (0 ≤ fup sh.1 m (-1) q → zup t (40 + 2 * m) 1 0 (40 + 2 * q) 2 = fup sh.1 m (-1) q) ∧ zup t (40 + 2 * m) 1 0 (40 + 2 * q) 3 = sh.2.1 q ∧ ∀ i, i < 24 → zup t (40 + 2 * m) 1 0 (40 + 2 * q + 1) i = sh.2.2 q i
      unfold fup
      by_cases z : q = m
      · subst z
        rw [if_pos rfl, if_pos (by omega)]
        simp (disch := omega) only [zup_n, zup_s, zup_o]
        exact ⟨trivial, fun y => by omega, h3, h4⟩
      · rw [if_neg z]
        simp (disch := omega) only [zup_o]
        exact h q hq
  · rw [if_neg q] at k
    show ZX _ _ _ _ [.null] _ _
    refine z_astore_nN zi_90_3 rfl ?_
    refine z_aload_nN zi_90_4 rfl ?_
    refine z_ifnonnull_N zi_90_5 ?_
    refine z_iconst zi_90_6 ?_
    refine z_ireturn zi_90_7 rfl (k t h (fun _ _ => rfl))
theorem s_item {s lane i v : Int} (h : zSC t sh) (hw : gShW sh) (r1 : -2147483648 ≤ s ∧ s < 2147483648) (r2 : -2147483648 ≤ lane ∧ lane < 2147483648) (r3 : -2147483648 ≤ i ∧ i < 2147483648) (r4 : -2147483648 ≤ v ∧ v < 2147483648) (k : ∀ t', zSC t' (oItem sh s lane i v).2 → (∀ q, ¬ (40 ≤ q ∧ q < 48) → t' q = t q) → K (oItem sh s lane i v).1 t') : ZX (d + 3) 91 0 [(0, .ref 0), (1, .int (zi s)), (2, .int (zi lane)), (3, .int (zi i)), (4, .int (zi v))] [] t (zKi K) := by
  unfold oItem at k
  refine z_aload_n zi_91_0 rfl ?_
  refine z_iload_n zi_91_1 rfl ?_
  refine z_cv1r zi_91_2 rfl rfl ⟨rfl, Nat.le_of_ble_eq_true rfl, Nat.le_of_ble_eq_true rfl⟩ (s_sheetAt r1 (fun m em hm => ?_) (fun q => ?_))
  · subst em
    have hS := zShO hm
    have em : ((m : Int)).toNat = m := by omega
    rw [em] at k
    show ZX _ _ _ _ [.ref (40 + 2 * m)] _ _
    refine z_astore zi_91_3 rfl ?_
    refine z_aload zi_91_4 rfl ?_
    refine z_ifnull_R zi_91_5 ?_
    refine z_iload_n zi_91_6 rfl ?_
    refine z_cs1i zi_91_7 rfl ⟨by decide, rfl, Nat.le_of_ble_eq_true rfl, Nat.le_of_ble_eq_true rfl⟩ (s_isLane r2 (fun q2 => ?_) (fun q2 => ?_))
    · rw [if_pos ⟨by omega, q2⟩] at k
      refine z_if_ne_t zi_91_8 (by omega) (by omega) ?_
      refine z_aload zi_91_11 rfl ?_
      refine z_iload_n zi_91_12 rfl ?_
      refine z_iload_n zi_91_13 rfl ?_
      refine z_iconst zi_91_14 ?_
      refine z_cv3i zi_91_15 rfl rfl rfl (zsh_c hS) ⟨rfl, Nat.le_of_ble_eq_true rfl, Nat.le_of_ble_eq_true rfl⟩ (s_refusalOf (n := m) h hw hm r2 r3 (by omega) ?_)
      have hg : -20 ≤ gLack sh m lane i 1 ∧ gLack sh m lane i 1 ≤ 0 := by
        unfold gLack
        split
        · omega
        · split
          · omega
          · split <;> omega
      refine z_istore zi_91_16 rfl ?_
      refine z_iload zi_91_17 rfl ?_
      refine z_if_eq zi_91_18 (by omega) (fun c => ?_) (fun c => ?_)
      · rw [if_neg (fun z => z c)] at k
        obtain ⟨g1, g2, g3, g4⟩ := gLack_0 c
        have w1 := hw m hm
        refine z_aload zi_91_21 rfl ?_
        refine z_iload_n zi_91_22 rfl ?_
        refine z_iload zi_91_23 rfl ?_
        refine z_cv2v zi_91_24 rfl rfl (zsh_c hS) ⟨rfl, Nat.le_of_ble_eq_true rfl, Nat.le_of_ble_eq_true rfl⟩ (s_setItem (n := m) (i := i.toNat) h hm (by omega) (by omega) (by omega) r4 ?_)
        refine z_iconst zi_91_25 ?_
        rw [g2]
        refine z_ireturn zi_91_26 rfl (k _ (zSC_set h hm) (fun q hq => zup_o (by omega)))
      · rw [if_pos c] at k
        refine z_iload zi_91_19 rfl ?_
        refine z_ireturn zi_91_20 rfl (k t h (fun _ _ => rfl))
    · rw [if_neg (fun z => q2 z.2)] at k
      refine z_if_ne_f zi_91_8 (by omega) (by omega) ?_
      refine z_iconst zi_91_9 ?_
      refine z_ireturn zi_91_10 rfl (k t h (fun _ _ => rfl))
  · rw [if_neg (fun z => q z.1)] at k
    show ZX _ _ _ _ [.null] _ _
    refine z_astoreN zi_91_3 rfl ?_
    refine z_aloadN zi_91_4 rfl ?_
    refine z_ifnull_N zi_91_5 ?_
    refine z_iconst zi_91_9 ?_
    refine z_ireturn zi_91_10 rfl (k t h (fun _ _ => rfl))
theorem s_film {s lane fr : Int} (h : zSC t sh) (hw : gShW sh) (hg : zTB 1 t g) (hgw : gWF g) (r1 : -2147483648 ≤ s ∧ s < 2147483648) (r2 : -2147483648 ≤ lane ∧ lane < 2147483648) (r3 : -2147483648 ≤ fr ∧ fr < 2147483648) (k : ∀ t', zSC t' (oFilm g sh s lane fr).2 → (∀ q, ¬ (40 ≤ q ∧ q < 48) → t' q = t q) → K (oFilm g sh s lane fr).1 t') : ZX (d + 3) 92 0 [(0, .ref 0), (1, .int (zi s)), (2, .int (zi lane)), (3, .int (zi fr))] [] t (zKi K) := by
  have hT := zT1
  have hn := hgw.n
  unfold oFilm at k
  refine z_aload_n zi_92_0 rfl ?_
  refine z_iload_n zi_92_1 rfl ?_
  refine z_cv1r zi_92_2 rfl rfl ⟨rfl, Nat.le_of_ble_eq_true rfl, Nat.le_of_ble_eq_true rfl⟩ (s_sheetAt r1 (fun m em hm => ?_) (fun q => ?_))
  · subst em
    have hS := zShO hm
    have em : ((m : Int)).toNat = m := by omega
    rw [em] at k
    show ZX _ _ _ _ [.ref (40 + 2 * m)] _ _
    refine z_astore zi_92_3 rfl ?_
    refine z_aload zi_92_4 rfl ?_
    refine z_ifnull_R zi_92_5 ?_
    refine z_iload_n zi_92_6 rfl ?_
    refine z_cs1i zi_92_7 rfl ⟨by decide, rfl, Nat.le_of_ble_eq_true rfl, Nat.le_of_ble_eq_true rfl⟩ (s_isLane r2 (fun q2 => ?_) (fun q2 => ?_))
    · rw [if_pos ⟨by omega, q2⟩] at k
      refine z_if_ne_t zi_92_8 (by omega) (by omega) ?_
      refine z_iconst zi_92_11 ?_
      refine z_aload_n zi_92_12 rfl ?_
      refine z_getfield zi_92_13 rfl ?_
      refine z_cv0i zi_92_14  (zt_c hT) ⟨rfl, Nat.le_of_ble_eq_true rfl, Nat.le_of_ble_eq_true rfl⟩ (s_trainLength hT hg ?_)
      refine z_imul zi_92_15 ?_
      refine z_istore zi_92_16 rfl ?_
      refine z_aload zi_92_17 rfl ?_
      refine z_iload_n zi_92_18 rfl ?_
      refine z_iload_n zi_92_19 rfl ?_
      refine z_iload zi_92_20 rfl ?_
      refine z_cv3i zi_92_21 rfl rfl rfl (zsh_c hS) ⟨rfl, Nat.le_of_ble_eq_true rfl, Nat.le_of_ble_eq_true rfl⟩ (s_refusalOf (n := m) h hw hm r2 r3 (by omega) ?_)
      have hgl : -20 ≤ gLack sh m lane fr (2 * (gL g : Int)) ∧ gLack sh m lane fr (2 * (gL g : Int)) ≤ 0 := by
        unfold gLack
        split
        · omega
        · split
          · omega
          · split <;> omega
      refine z_istore zi_92_22 rfl ?_
      refine z_iload zi_92_23 rfl ?_
      refine z_if_eq zi_92_24 (by omega) (fun c => ?_) (fun c => ?_)
      · rw [if_neg (fun z => z c)] at k
        obtain ⟨g1, g2, g3, g4⟩ := gLack_0 c
        obtain ⟨w1, w2, w3⟩ := hw m hm
        have loop : ∀ (j n : Nat) (t' : zMI), n + j = gL g → zSC t' (sh.1, sh.2.1, gfi g sh.2.2 m fr.toNat n) → (∀ q, ¬ (40 ≤ q ∧ q < 48) → t' q = t q) → ZX (d + 3) 92 29 [(7, .int (zi n)), (5, .int (zi (2 * (gL g : Int)))), (4, .ref (40 + 2 * m)), (0, .ref 0), (3, .int (zi fr))] [] t' (zKi K) := by
          intro j
          induction j with
          | zero =>
            intro n t' e h' f'
            have e1 : n = gL g := by omega
            subst e1
            have hg' : zTB 1 t' g := zTB_congr hg (fun q _ _ => f' q (by omega))
            refine z_iload zi_92_29 rfl ?_
            refine z_aload_n zi_92_30 rfl ?_
            refine z_getfield zi_92_31 rfl ?_
            refine z_cv0i zi_92_32  (zt_c hT) ⟨rfl, Nat.le_of_ble_eq_true rfl, Nat.le_of_ble_eq_true rfl⟩ (s_trainLength hT hg' ?_)
            refine z_icmp_ge_t zi_92_33 (by omega) (by omega) ?_
            refine z_iload zi_92_73 rfl ?_
            refine z_ireturn zi_92_74 rfl (k t' h' f')
          | succ j ih =>
            intro n t' e h' f'
            have hg' : zTB 1 t' g := zTB_congr hg (fun q _ _ => f' q (by omega))
            have hr := hgw.r (p := n) (by omega)
            have t1 := hgw.t hr.1 hr.2
            have t2 := hgw.t hr.1 (show 1 - gF g n < 2 by omega)
            have eF : gFi g (gR g n) = (gF g n : Int) := by
              unfold gFi
              rw [gPi_at hgw (show n < gL g by omega)]
            have eF1 : 1 - gFi g (gR g n) = ((1 - gF g n : Nat) : Int) := by rw [eF]; omega
            refine z_iload zi_92_29 rfl ?_
            refine z_aload_n zi_92_30 rfl ?_
            refine z_getfield zi_92_31 rfl ?_
            refine z_cv0i zi_92_32  (zt_c hT) ⟨rfl, Nat.le_of_ble_eq_true rfl, Nat.le_of_ble_eq_true rfl⟩ (s_trainLength hT hg' ?_)
            refine z_icmp_ge_f zi_92_33 (by omega) (by omega) ?_
            refine z_aload_n zi_92_34 rfl ?_
            refine z_getfield zi_92_35 rfl ?_
            refine z_iload zi_92_36 rfl ?_
            refine z_cv1i zi_92_37 rfl (zt_c hT) ⟨rfl, Nat.le_of_ble_eq_true rfl, Nat.le_of_ble_eq_true rfl⟩ (s_stoneInTrain (p := n) hT hg' hgw rfl (by omega) ?_)
            refine z_istore zi_92_38 rfl ?_
            refine z_aload zi_92_39 rfl ?_
            refine z_iload_n zi_92_40 rfl ?_
            refine z_iconst zi_92_41 ?_
            refine z_iload zi_92_42 rfl ?_
            refine z_imul zi_92_43 ?_
            refine z_iadd zi_92_44 ?_
            refine z_aload_n zi_92_45 rfl ?_
            refine z_getfield zi_92_46 rfl ?_
            refine z_iload zi_92_47 rfl ?_
            refine z_aload_n zi_92_48 rfl ?_
            refine z_getfield zi_92_49 rfl ?_
            refine z_iload zi_92_50 rfl ?_
            refine z_cv1i zi_92_51 rfl (zt_c hT) ⟨rfl, Nat.le_of_ble_eq_true rfl, Nat.le_of_ble_eq_true rfl⟩ (s_frontOf (s := gR g n) hT hg' hgw rfl hr.1 ?_)
            refine z_cv2i zi_92_52 rfl rfl (zt_c hT) ⟨rfl, Nat.le_of_ble_eq_true rfl, Nat.le_of_ble_eq_true rfl⟩ (s_markOf (s := gR g n) (w := gF g n) hT hg' hgw rfl hr.1 eF hr.2 ?_)
            refine z_cv2v zi_92_53 rfl rfl (zsh_c hS) ⟨rfl, Nat.le_of_ble_eq_true rfl, Nat.le_of_ble_eq_true rfl⟩ (s_setItem (n := m) (i := fr.toNat + 2 * n) h' hm ⟨g1, w1.2⟩ (by omega) (by omega) (by omega) ?_)
            have en1 : gnr (sh.1 m) (gM g (gR g n) (gF g n)) = gM g (gR g n) (gF g n) := by
              unfold gnr
              split
              · omega
              · split <;> omega
            have en2 : gnr (sh.1 m) (gM g (gR g n) (1 - gF g n)) = gM g (gR g n) (1 - gF g n) := by
              unfold gnr
              split
              · omega
              · split <;> omega
            refine z_mem (t' := zup t' (40 + 2 * m + 1) (fr.toNat + 2 * n) (gM g (gR g n) (gF g n))) (by rw [en1]) ?_
            have h1 := zSC_set (i := fr.toNat + 2 * n) (v := gM g (gR g n) (gF g n)) h' hm
            have hg1 : zTB 1 (zup t' (40 + 2 * m + 1) (fr.toNat + 2 * n) (gM g (gR g n) (gF g n))) g := zTB_congr hg' (fun q _ _ => zup_o (by omega))
            refine z_aload zi_92_54 rfl ?_
            refine z_iload_n zi_92_55 rfl ?_
            refine z_iconst zi_92_56 ?_
            refine z_iload zi_92_57 rfl ?_
            refine z_imul zi_92_58 ?_
            refine z_iadd zi_92_59 ?_
            refine z_iconst zi_92_60 ?_
            refine z_iadd zi_92_61 ?_
            refine z_aload_n zi_92_62 rfl ?_
            refine z_getfield zi_92_63 rfl ?_
            refine z_iload zi_92_64 rfl ?_
            refine z_aload_n zi_92_65 rfl ?_
            refine z_getfield zi_92_66 rfl ?_
            refine z_iload zi_92_67 rfl ?_
            refine z_cv1i zi_92_68 rfl (zt_c hT) ⟨rfl, Nat.le_of_ble_eq_true rfl, Nat.le_of_ble_eq_true rfl⟩ (s_backOf (s := gR g n) hT hg1 hgw rfl hr.1 ?_)
            refine z_cv2i zi_92_69 rfl rfl (zt_c hT) ⟨rfl, Nat.le_of_ble_eq_true rfl, Nat.le_of_ble_eq_true rfl⟩ (s_markOf (s := gR g n) (w := 1 - gF g n) hT hg1 hgw rfl hr.1 eF1 (by omega) ?_)
            refine z_cv2v zi_92_70 rfl rfl (zsh_c hS) ⟨rfl, Nat.le_of_ble_eq_true rfl, Nat.le_of_ble_eq_true rfl⟩ (s_setItem (n := m) (i := fr.toNat + 2 * n + 1) h1 hm ⟨g1, w1.2⟩ (by omega) (by omega) (by omega) ?_)
            refine z_mem (t' := zup (zup t' (40 + 2 * m + 1) (fr.toNat + 2 * n) (gM g (gR g n) (gF g n))) (40 + 2 * m + 1) (fr.toNat + 2 * n + 1) (gM g (gR g n) (1 - gF g n))) (by rw [en2]) ?_
            have h2 := zSC_set (i := fr.toNat + 2 * n + 1) (v := gM g (gR g n) (1 - gF g n)) h1 hm
            refine z_iinc zi_92_71 rfl rfl ?_
            refine z_goto zi_92_72 ?_
            refine z_loc (lv' := [(7, .int (zi ((n + 1 : Nat) : Int))), (5, .int (zi (2 * (gL g : Int)))), (4, .ref (40 + 2 * m)), (0, .ref 0), (3, .int (zi fr))]) rfl ?_
            exact ih (n + 1) _ (by omega) h2 (fun q hq => by rw [zup_o (by omega), zup_o (by omega)]; exact f' q hq)
        refine z_iconst zi_92_27 ?_
        refine z_istore zi_92_28 rfl ?_
        refine z_loc (lv' := [(7, .int (zi ((0 : Nat) : Int))), (5, .int (zi (2 * (gL g : Int)))), (4, .ref (40 + 2 * m)), (0, .ref 0), (3, .int (zi fr))]) rfl ?_
        exact loop (gL g) 0 t (by omega) h (fun _ _ => rfl)
      · rw [if_pos c] at k
        refine z_iload zi_92_25 rfl ?_
        refine z_ireturn zi_92_26 rfl (k t h (fun _ _ => rfl))
    · rw [if_neg (fun z => q2 z.2)] at k
      refine z_if_ne_f zi_92_8 (by omega) (by omega) ?_
      refine z_iconst zi_92_9 ?_
      refine z_ireturn zi_92_10 rfl (k t h (fun _ _ => rfl))
  · rw [if_neg (fun z => q z.1)] at k
    show ZX _ _ _ _ [.null] _ _
    refine z_astoreN zi_92_3 rfl ?_
    refine z_aloadN zi_92_4 rfl ?_
    refine z_ifnull_N zi_92_5 ?_
    refine z_iconst zi_92_9 ?_
    refine z_ireturn zi_92_10 rfl (k t h (fun _ _ => rfl))
end
