/-! the class: the smallest methods; a table's, a sheet's fields -/
theorem z_loc {d m i : Nat} {lv lv' : List (Nat × Value)} {st : List Value} {t : zMI} {Q : Option Value → zMI → Prop} (h : lv'.map (fun q => zg lv q.1) = lv'.map (fun q => some q.2)) (k : ZX d m i lv' st t Q) : ZX d m i lv st t Q := fun Z hZ hW => hW _ _ _ _ _ _ _ _ (fun q hq => by
  obtain ⟨n, hn⟩ := List.getElem?_of_mem hq
  have h1 := congrArg (fun l => l[n]?) h
  simp only [List.getElem?_map, hn, Option.map_some] at h1
  exact zg_mem (Option.some.inj h1)) (k Z hZ hW)
def zTa (T : Nat) : Prop := T = 1 ∨ T = 10 ∨ T = 19 ∨ T = 28
def zSh (S : Nat) : Prop := S = 40 ∨ S = 42 ∨ S = 44 ∨ S = 46
theorem zt_f0 {T : Nat} {t : zMI} (h : zTa T) : zf (zlf t) T 1 0 = some (.int (zi (t T 0))) := by rcases h with rfl | rfl | rfl | rfl <;> rfl
theorem zt_f1 {T : Nat} {t : zMI} (h : zTa T) : zf (zlf t) T 1 1 = some (.ref (T + 1)) := by rcases h with rfl | rfl | rfl | rfl <;> rfl
theorem zt_f2 {T : Nat} {t : zMI} (h : zTa T) : zf (zlf t) T 1 2 = some (.ref (T + 2)) := by rcases h with rfl | rfl | rfl | rfl <;> rfl
theorem zt_f3 {T : Nat} {t : zMI} (h : zTa T) : zf (zlf t) T 1 3 = some (.ref (T + 3)) := by rcases h with rfl | rfl | rfl | rfl <;> rfl
theorem zt_f4 {T : Nat} {t : zMI} (h : zTa T) : zf (zlf t) T 1 4 = some (.ref (T + 4)) := by rcases h with rfl | rfl | rfl | rfl <;> rfl
theorem zt_f5 {T : Nat} {t : zMI} (h : zTa T) : zf (zlf t) T 1 5 = some (.ref (T + 5)) := by rcases h with rfl | rfl | rfl | rfl <;> rfl
theorem zt_f6 {T : Nat} {t : zMI} (h : zTa T) : zf (zlf t) T 1 6 = some (.ref (T + 6)) := by rcases h with rfl | rfl | rfl | rfl <;> rfl
theorem zt_f7 {T : Nat} {t : zMI} (h : zTa T) : zf (zlf t) T 1 7 = some (.int (zi (t T 7))) := by rcases h with rfl | rfl | rfl | rfl <;> rfl
theorem zt_f8 {T : Nat} {t : zMI} (h : zTa T) : zf (zlf t) T 1 8 = some (.ref (T + 7)) := by rcases h with rfl | rfl | rfl | rfl <;> rfl
theorem zt_f9 {T : Nat} {t : zMI} (h : zTa T) : zf (zlf t) T 1 9 = some (.int (zi (t T 9))) := by rcases h with rfl | rfl | rfl | rfl <;> rfl
theorem zt_f10 {T : Nat} {t : zMI} (h : zTa T) : zf (zlf t) T 1 10 = some (.ref (T + 8)) := by rcases h with rfl | rfl | rfl | rfl <;> rfl
theorem zt_f11 {T : Nat} {t : zMI} (h : zTa T) : zf (zlf t) T 1 11 = some (.int (zi (t T 11))) := by rcases h with rfl | rfl | rfl | rfl <;> rfl
theorem zt_i0 {T : Nat} (h : zTa T) : zfi T 1 0 = true := by rcases h with rfl | rfl | rfl | rfl <;> rfl
theorem zt_i7 {T : Nat} (h : zTa T) : zfi T 1 7 = true := by rcases h with rfl | rfl | rfl | rfl <;> rfl
theorem zt_i9 {T : Nat} (h : zTa T) : zfi T 1 9 = true := by rcases h with rfl | rfl | rfl | rfl <;> rfl
theorem zt_i11 {T : Nat} (h : zTa T) : zfi T 1 11 = true := by rcases h with rfl | rfl | rfl | rfl <;> rfl
theorem zt_a1 {T : Nat} (h : zTa T) : zLy[T + 1]? = some (.inl 12) := by rcases h with rfl | rfl | rfl | rfl <;> rfl
theorem zt_a2 {T : Nat} (h : zTa T) : zLy[T + 2]? = some (.inl 24) := by rcases h with rfl | rfl | rfl | rfl <;> rfl
theorem zt_a3 {T : Nat} (h : zTa T) : zLy[T + 3]? = some (.inl 24) := by rcases h with rfl | rfl | rfl | rfl <;> rfl
theorem zt_a4 {T : Nat} (h : zTa T) : zLy[T + 4]? = some (.inl 12) := by rcases h with rfl | rfl | rfl | rfl <;> rfl
theorem zt_a5 {T : Nat} (h : zTa T) : zLy[T + 5]? = some (.inl 12) := by rcases h with rfl | rfl | rfl | rfl <;> rfl
theorem zt_a6 {T : Nat} (h : zTa T) : zLy[T + 6]? = some (.inl 12) := by rcases h with rfl | rfl | rfl | rfl <;> rfl
theorem zt_a7 {T : Nat} (h : zTa T) : zLy[T + 7]? = some (.inl 12) := by rcases h with rfl | rfl | rfl | rfl <;> rfl
theorem zt_a8 {T : Nat} (h : zTa T) : zLy[T + 8]? = some (.inl 2) := by rcases h with rfl | rfl | rfl | rfl <;> rfl
theorem zt_c {T : Nat} (h : zTa T) : zcls T = 1 := by rcases h with rfl | rfl | rfl | rfl <;> rfl
theorem zsh_f0 {S : Nat} {t : zMI} (h : zSh S) : zf (zlf t) S 0 0 = some (.ref (S + 1)) := by rcases h with rfl | rfl | rfl | rfl <;> rfl
theorem zsh_f1 {S : Nat} {t : zMI} (h : zSh S) : zf (zlf t) S 0 1 = some (.int (zi (t S 1))) := by rcases h with rfl | rfl | rfl | rfl <;> rfl
theorem zsh_f2 {S : Nat} {t : zMI} (h : zSh S) : zf (zlf t) S 0 2 = some (.int (zi (t S 2))) := by rcases h with rfl | rfl | rfl | rfl <;> rfl
theorem zsh_f3 {S : Nat} {t : zMI} (h : zSh S) : zf (zlf t) S 0 3 = some (.int (zi (t S 3))) := by rcases h with rfl | rfl | rfl | rfl <;> rfl
theorem zsh_i1 {S : Nat} (h : zSh S) : zfi S 0 1 = true := by rcases h with rfl | rfl | rfl | rfl <;> rfl
theorem zsh_i2 {S : Nat} (h : zSh S) : zfi S 0 2 = true := by rcases h with rfl | rfl | rfl | rfl <;> rfl
theorem zsh_i3 {S : Nat} (h : zSh S) : zfi S 0 3 = true := by rcases h with rfl | rfl | rfl | rfl <;> rfl
theorem zsh_a {S : Nat} (h : zSh S) : zLy[S + 1]? = some (.inl 24) := by rcases h with rfl | rfl | rfl | rfl <;> rfl
theorem zsh_c {S : Nat} (h : zSh S) : zcls S = 0 := by rcases h with rfl | rfl | rfl | rfl <;> rfl
theorem zup_s {t : zMI} {b n : Nat} {v : Int} : zup t b n v b n = v := by simp [zup]
theorem zup_n {t : zMI} {b n j : Nat} {v : Int} (h : j ≠ n) : zup t b n v b j = t b j := by simp [zup, h]
theorem zup_o {t : zMI} {b n k : Nat} {v : Int} (h : k ≠ b) : zup t b n v k = t k := by funext j; simp [zup, h]
theorem zup_at (t : zMI) (b n : Nat) (v : Int) (j : Nat) : zup t b n v b j = if j = n then v else t b j := by simp [zup]
theorem zcpi_o {t : zMI} {a b n k : Nat} (h : k ≠ b) : zcpi t a b n k = t k := by funext j; simp [zcpi, h]
theorem zcpi_s {t : zMI} {a b n j : Nat} (h : j < n) : zcpi t a b n b j = t a j := by simp [zcpi, h]
section
variable {d : Nat} {t : zMI} {K : Int → zMI → Prop} {Kv : zMI → Prop}
theorem s_within {a lo hi : Int} (ha : -2147483648 ≤ a ∧ a < 2147483648) (h1 : -2147483648 ≤ lo ∧ lo < 2147483648) (h2 : -2147483648 ≤ hi ∧ hi < 2147483648) (kt : lo ≤ a ∧ a ≤ hi → K 1 t) (kf : ¬ (lo ≤ a ∧ a ≤ hi) → K 0 t) : ZX d 93 0 [(0, .int (zi a)), (1, .int (zi lo)), (2, .int (zi hi))] [] t (zKi K) := by
  refine z_iload_n zi_93_0 rfl ?_
  refine z_iload_n zi_93_1 rfl ?_
  refine z_icmp_lt zi_93_2 (by omega) (fun c1 => ?_) (fun c1 => ?_)
  · refine z_iconst zi_93_8 ?_
    refine z_zreturn zi_93_9 rfl (by omega) (kf (by omega))
  · refine z_iload_n zi_93_3 rfl ?_
    refine z_iload_n zi_93_4 rfl ?_
    refine z_icmp_gt zi_93_5 (by omega) (fun c2 => ?_) (fun c2 => ?_)
    · refine z_iconst zi_93_8 ?_
      refine z_zreturn zi_93_9 rfl (by omega) (kf (by omega))
    · refine z_iconst zi_93_6 ?_
      refine z_goto zi_93_7 ?_
      refine z_zreturn zi_93_9 rfl (by omega) (kt (by omega))
theorem s_isTeeth {a : Int} (ha : -2147483648 ≤ a ∧ a < 2147483648) (kt : 3 ≤ a ∧ a ≤ 9 → K 1 t) (kf : ¬ (3 ≤ a ∧ a ≤ 9) → K 0 t) : ZX (d + 1) 94 0 [(0, .int (zi a))] [] t (zKi K) := by
  refine z_iload_n zi_94_0 rfl ?_
  refine z_iconst zi_94_1 ?_
  refine z_bipush zi_94_2 (by decide) ?_
  refine z_cs3i zi_94_3 rfl rfl rfl ⟨by decide, rfl, Nat.le_of_ble_eq_true rfl, Nat.le_of_ble_eq_true rfl⟩ (s_within ha (by omega) (by omega) (fun h => ?_) (fun h => ?_))
  · refine z_zreturn zi_94_4 rfl (by omega) (kt h)
  · refine z_zreturn zi_94_4 rfl (by omega) (kf h)
theorem s_isWheel {a : Int} (ha : -2147483648 ≤ a ∧ a < 2147483648) (kt : 0 ≤ a ∧ a ≤ 1 → K 1 t) (kf : ¬ (0 ≤ a ∧ a ≤ 1) → K 0 t) : ZX (d + 1) 95 0 [(0, .int (zi a))] [] t (zKi K) := by
  refine z_iload_n zi_95_0 rfl ?_
  refine z_iconst zi_95_1 ?_
  refine z_iconst zi_95_2 ?_
  refine z_cs3i zi_95_3 rfl rfl rfl ⟨by decide, rfl, Nat.le_of_ble_eq_true rfl, Nat.le_of_ble_eq_true rfl⟩ (s_within ha (by omega) (by omega) (fun h => ?_) (fun h => ?_))
  · refine z_zreturn zi_95_4 rfl (by omega) (kt h)
  · refine z_zreturn zi_95_4 rfl (by omega) (kf h)
theorem s_isHand {a : Int} (ha : -2147483648 ≤ a ∧ a < 2147483648) (kt : 0 ≤ a ∧ a ≤ 1 → K 1 t) (kf : ¬ (0 ≤ a ∧ a ≤ 1) → K 0 t) : ZX (d + 1) 96 0 [(0, .int (zi a))] [] t (zKi K) := by
  refine z_iload_n zi_96_0 rfl ?_
  refine z_iconst zi_96_1 ?_
  refine z_iconst zi_96_2 ?_
  refine z_cs3i zi_96_3 rfl rfl rfl ⟨by decide, rfl, Nat.le_of_ble_eq_true rfl, Nat.le_of_ble_eq_true rfl⟩ (s_within ha (by omega) (by omega) (fun h => ?_) (fun h => ?_))
  · refine z_zreturn zi_96_4 rfl (by omega) (kt h)
  · refine z_zreturn zi_96_4 rfl (by omega) (kf h)
theorem s_isLane {a : Int} (ha : -2147483648 ≤ a ∧ a < 2147483648) (kt : 0 ≤ a ∧ a ≤ 2 → K 1 t) (kf : ¬ (0 ≤ a ∧ a ≤ 2) → K 0 t) : ZX (d + 1) 97 0 [(0, .int (zi a))] [] t (zKi K) := by
  refine z_iload_n zi_97_0 rfl ?_
  refine z_iconst zi_97_1 ?_
  refine z_iconst zi_97_2 ?_
  refine z_cs3i zi_97_3 rfl rfl rfl ⟨by decide, rfl, Nat.le_of_ble_eq_true rfl, Nat.le_of_ble_eq_true rfl⟩ (s_within ha (by omega) (by omega) (fun h => ?_) (fun h => ?_))
  · refine z_zreturn zi_97_4 rfl (by omega) (kt h)
  · refine z_zreturn zi_97_4 rfl (by omega) (kf h)
theorem s_at {b N n : Nat} {a : Int} (hy : zLy[b]? = some (.inl N)) (hN : N < 1000) (ha : a = (n : Int)) (hn : n < N) (k : K (t b n) t) : ZX d 109 0 [(0, .ref b), (1, .int (zi a))] [] t (zKi K) := by
  refine z_iload_n zi_109_0 rfl ?_
  refine z_if_lt_f zi_109_1 (by omega) (by omega) ?_
  refine z_iload_n zi_109_2 rfl ?_
  refine z_aload_n zi_109_3 rfl ?_
  refine z_alen zi_109_4 hy ?_
  refine z_icmp_ge_f zi_109_5 (by omega) (by omega) ?_
  refine z_aload_n zi_109_6 rfl ?_
  refine z_iload_n zi_109_7 rfl ?_
  refine z_iaload (n := n) zi_109_8 hy (by omega) (by omega) (by omega) ?_
  refine z_goto zi_109_9 ?_
  refine z_ireturn zi_109_11 rfl k
theorem s_put {b N n : Nat} {a v : Int} (hy : zLy[b]? = some (.inl N)) (hN : N < 1000) (ha : a = (n : Int)) (hn : n < N) (k : Kv (zup t b n v)) : ZX d 110 0 [(0, .ref b), (1, .int (zi a)), (2, .int (zi v))] [] t (zKv Kv) := by
  refine z_iload_n zi_110_0 rfl ?_
  refine z_if_lt_f zi_110_1 (by omega) (by omega) ?_
  refine z_iload_n zi_110_2 rfl ?_
  refine z_aload_n zi_110_3 rfl ?_
  refine z_alen zi_110_4 hy ?_
  refine z_icmp_ge_f zi_110_5 (by omega) (by omega) ?_
  refine z_aload_n zi_110_6 rfl ?_
  refine z_iload_n zi_110_7 rfl ?_
  refine z_iload_n zi_110_8 rfl ?_
  refine z_iastore (n := n) zi_110_9 hy (by omega) (by omega) (by omega) ?_
  refine z_vreturn zi_110_10 rfl k
theorem s_abs {a : Int} (ha : -2147483648 < a ∧ a < 2147483648) (k : K (if 0 ≤ a then a else -a) t) : ZX d 177 0 [(0, .int (zi a))] [] t (zKi K) := by
  refine z_iload_n zi_177_0 rfl ?_
  refine z_if_ge zi_177_1 (by omega) (fun c => ?_) (fun c => ?_)
  · refine z_iload_n zi_177_5 rfl ?_
    rw [if_pos c] at k
    refine z_ireturn zi_177_6 rfl k
  · refine z_iload_n zi_177_2 rfl ?_
    refine z_ineg zi_177_3 ?_
    refine z_goto zi_177_4 ?_
    rw [if_neg c] at k
    refine z_ireturn zi_177_6 rfl k
theorem s_max {a b : Int} (h : (-2147483648 ≤ a ∧ a < 2147483648) ∧ (-2147483648 ≤ b ∧ b < 2147483648)) (k : K (if a < b then b else a) t) : ZX d 178 0 [(0, .int (zi a)), (1, .int (zi b))] [] t (zKi K) := by
  refine z_iload_n zi_178_0 rfl ?_
  refine z_iload_n zi_178_1 rfl ?_
  refine z_icmp_lt zi_178_2 (by omega) (fun c => ?_) (fun c => ?_)
  · refine z_iload_n zi_178_5 rfl ?_
    rw [if_pos c] at k
    refine z_ireturn zi_178_6 rfl k
  · refine z_iload_n zi_178_3 rfl ?_
    refine z_goto zi_178_4 ?_
    rw [if_neg c] at k
    refine z_ireturn zi_178_6 rfl k
theorem s_min {a b : Int} (h : (-2147483648 ≤ a ∧ a < 2147483648) ∧ (-2147483648 ≤ b ∧ b < 2147483648)) (k : K (if b < a then b else a) t) : ZX d 179 0 [(0, .int (zi a)), (1, .int (zi b))] [] t (zKi K) := by
  refine z_iload_n zi_179_0 rfl ?_
  refine z_iload_n zi_179_1 rfl ?_
  refine z_icmp_gt zi_179_2 (by omega) (fun c => ?_) (fun c => ?_)
  · refine z_iload_n zi_179_5 rfl ?_
    rw [if_pos c] at k
    refine z_ireturn zi_179_6 rfl k
  · refine z_iload_n zi_179_3 rfl ?_
    refine z_goto zi_179_4 ?_
    rw [if_neg c] at k
    refine z_ireturn zi_179_6 rfl k
theorem zxor_neg {a b : Int} (h : (-2147483648 ≤ a ∧ a < 2147483648) ∧ (0 ≤ b ∧ b < 2147483648)) : (zi a ^^^ zi b).toInt < 0 ↔ a < 0 := by
  have e1 : ∀ x : Int32, x.toInt < 0 ↔ x.toBitVec.msb = true := fun x => by
    rw [BitVec.msb_eq_toInt]
    exact (decide_eq_true_iff).symm
  rw [e1, Int32.toBitVec_xor, BitVec.msb_xor]
  have ha := e1 (zi a)
  have hb := e1 (zi b)
  rw [zi_toInt (by omega)] at ha hb
  cases h1 : (zi a).toBitVec.msb <;> cases h2 : (zi b).toBitVec.msb <;> simp [h1, h2] at ha hb ⊢ <;> omega
theorem zfm {x y : Int} (hy : 0 < y) : (if x < 0 ∧ ¬ x.tmod y = 0 then x.tmod y + y else x.tmod y) = x % y := by
  have e := Int.mul_tdiv_add_tmod x y
  have h1 := Int.tmod_lt_of_pos x hy
  have h2 := Int.lt_tmod_of_pos x hy
  have key : ∀ q r : Int, x = y * q + r → 0 ≤ r → r < y → r = x % y := fun q r hx h0 hr => by
    rw [hx, Int.add_comm, Int.add_mul_emod_self_left, Int.emod_eq_of_lt h0 hr]
  split
  · rename_i h
    have h3 : x.tmod y ≤ 0 := by
      rw [← Int.neg_neg x, Int.neg_tmod]
      have := Int.tmod_nonneg (a := -x) y (by omega)
      omega
    exact key (x.tdiv y - 1) _ (by rw [Int.mul_sub]; omega) (by omega) (by omega)
  · rename_i h
    refine key (x.tdiv y) _ (by omega) ?_ h1
    by_cases hx : x < 0
    · have : x.tmod y = 0 := by
        by_cases h3 : x.tmod y = 0
        · exact h3
        · exact absurd ⟨hx, h3⟩ h
      omega
    · exact Int.tmod_nonneg y (by omega)
theorem s_floorMod {x y : Int} (hx : -2147483648 < x ∧ x < 2147483648) (hy : 0 < y ∧ y < 2147483648) (k : K (x % y) t) : ZX d 176 0 [(0, .int (zi x)), (1, .int (zi y))] [] t (zKi K) := by
  rw [← zfm hy.1] at k
  have h1 := Int.tmod_lt_of_pos x hy.1
  have h2 := Int.lt_tmod_of_pos x hy.1
  refine z_iload_n zi_176_0 rfl ?_
  refine z_iload_n zi_176_1 rfl ?_
  refine z_irem zi_176_2 (by omega) ?_
  refine z_istore_n zi_176_3 rfl ?_
  refine z_iload_n zi_176_4 rfl ?_
  refine z_iload_n zi_176_5 rfl ?_
  refine z_ixor zi_176_6 (zi_of _).symm ?_
  have hr := zi_rng (zi x ^^^ zi y)
  have hs := zxor_neg (a := x) (b := y) (by omega)
  refine z_if_ge zi_176_7 (by omega) (fun c => ?_) (fun c => ?_)
  · refine z_iload_n zi_176_14 rfl ?_
    rw [if_neg (by omega)] at k
    refine z_ireturn zi_176_15 rfl k
  · refine z_iload_n zi_176_8 rfl ?_
    refine z_if_eq zi_176_9 (by omega) (fun c2 => ?_) (fun c2 => ?_)
    · refine z_iload_n zi_176_14 rfl ?_
      rw [if_neg (by omega)] at k
      refine z_ireturn zi_176_15 rfl k
    · refine z_iload_n zi_176_10 rfl ?_
      refine z_iload_n zi_176_11 rfl ?_
      refine z_iadd zi_176_12 ?_
      rw [if_pos (by omega)] at k
      refine z_ireturn zi_176_13 rfl k
theorem s_remainder {x y : Int} (hx : -2147483648 < x ∧ x < 2147483648) (hy : 0 < y ∧ y < 2147483648) (k : K (x % y) t) : ZX (d + 1) 48 0 [(0, .int (zi x)), (1, .int (zi y))] [] t (zKi K) := by
  refine z_iload_n zi_48_0 rfl ?_
  refine z_if_le_f zi_48_1 (by omega) (by omega) ?_
  refine z_iload_n zi_48_2 rfl ?_
  refine z_iload_n zi_48_3 rfl ?_
  refine z_cs2i zi_48_4 rfl rfl ⟨by decide, rfl, Nat.le_of_ble_eq_true rfl, Nat.le_of_ble_eq_true rfl⟩ (s_floorMod hx hy ?_)
  refine z_goto zi_48_5 ?_
  refine z_ireturn zi_48_7 rfl k
theorem s_copyRow {a b N : Nat} (ha : zLy[a]? = some (.inl N)) (hb : zLy[b]? = some (.inl N)) (hN : N < 1000) (k : Kv (zcpi t a b N)) : ZX (d + 1) 111 0 [(0, .ref a), (1, .ref b)] [] t (zKv Kv) := by
  refine z_aload_n zi_111_0 rfl ?_
  refine z_iconst zi_111_1 ?_
  refine z_aload_n zi_111_2 rfl ?_
  refine z_iconst zi_111_3 ?_
  refine z_aload_n zi_111_4 rfl ?_
  refine z_alen zi_111_5 ha ?_
  refine z_aload_n zi_111_6 rfl ?_
  refine z_alen zi_111_7 hb ?_
  refine z_cs2i zi_111_8 rfl rfl ⟨by decide, rfl, Nat.le_of_ble_eq_true rfl, Nat.le_of_ble_eq_true rfl⟩ (s_min (by omega) ?_)
  rw [if_neg (by omega)]
  refine z_copy zi_111_9 ha hb rfl (by omega) (Nat.le_of_ble_eq_true rfl) ?_
  refine z_vreturn zi_111_10 rfl k
end
