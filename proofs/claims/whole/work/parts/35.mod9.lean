/-! rows of stones end, whatever the stones -/
def gOrd (m : Nat) (row p : Nat → Nat) : Prop := ∀ i j, i < m → j < m → (row i < row j ↔ p i < p j)
theorem las_ord {m : Nat} {row p : Nat → Nat} (h : gOrd m row p) : ∀ n, n < m → las row n = las p n
  | 0, _ => rfl
  | n + 1, hn => by
    unfold las
    rw [las_ord h n (by omega)]
    by_cases c : p (n + 1) < p n
    · rw [if_pos c, if_pos ((h _ _ hn (by omega)).mpr c)]
    · rw [if_neg c, if_neg (fun z => c ((h _ _ hn (by omega)).mp z))]
theorem gjj_ord {m k : Nat} {row p : Nat → Nat} (h : gOrd m row p) (hk : k < m) : ∀ n, n < m → gjj row k n = gjj p k n
  | 0, _ => rfl
  | n + 1, hn => by
    unfold gjj
    rw [gjj_ord h hk n (by omega)]
    by_cases c : p (n + 1) < p k
    · rw [if_pos c, if_pos ((h _ _ hn hk).mpr c)]
    · rw [if_neg c, if_neg (fun z => c ((h _ _ hn hk).mp z))]
theorem fsw_ord {m a b : Nat} {row p : Nat → Nat} (h : gOrd m row p) (ha : a < m) (hb : b < m) : gOrd m (fsw row a b) (fsw p a b) := by
  have key : ∀ x, x < m → ∃ y, y < m ∧ fsw row a b x = row y ∧ fsw p a b x = p y := fun x hx => by
    unfold fsw
    by_cases z : x = b
    · exact ⟨a, ha, by rw [if_pos z], by rw [if_pos z]⟩
    · by_cases z2 : x = a
      · exact ⟨b, hb, by rw [if_neg z, if_pos z2], by rw [if_neg z, if_pos z2]⟩
      · exact ⟨x, hx, by rw [if_neg z, if_neg z2], by rw [if_neg z, if_neg z2]⟩
  intro i j hi hj
  obtain ⟨y, y1, y2, y3⟩ := key i hi
  obtain ⟨w, w1, w2, w3⟩ := key j hj
  rw [y2, y3, w2, w3]
  exact h y w y1 w1
theorem grv_ord {m : Nat} : ∀ (n : Nat) (row p : Nat → Nat) (a b : Nat), gOrd m row p → b < m → gOrd m (grv row a b n) (grv p a b n)
  | 0, _, _, _, _, h, _ => h
  | n + 1, row, p, a, b, h, hb => by
    unfold grv
    by_cases c : a < b
    · rw [if_pos c, if_pos c]
      exact grv_ord n _ _ _ _ (fsw_ord h (by omega) hb) (by omega)
    · rw [if_neg c, if_neg c]
      exact h
theorem gNx_ord {m : Nat} {row p : Nat → Nat} (h : gOrd m row p) (hm : 2 ≤ m) : (gNx m row = none ∧ gNx m p = none) ∨ ∃ r q, gNx m row = some r ∧ gNx m p = some q ∧ gOrd m r q := by
  unfold gNx
  rw [las_ord h (m - 1) (by omega)]
  cases e : las p (m - 1) with
  | none => exact Or.inl ⟨rfl, rfl⟩
  | some k =>
    have hk := las_lt e
    have hj := gjj_le (row := p) (k := k) (m - 1)
    refine Or.inr ⟨_, _, rfl, rfl, ?_⟩
    rw [gjj_ord h (by omega) (m - 1) (by omega)]
    exact grv_ord _ _ _ _ _ (fsw_ord h (by omega) (by omega)) (by omega)
theorem gde_gco {m : Nat} {p : Nat → Nat} (hm : 2 ≤ m ∧ m ≤ 5) (hp : ∀ i, i < m → p i < 8) {i : Nat} (hi : i < m) : gde (gco m p m) i = p i := by
  rcases (by omega : m = 2 ∨ m = 3 ∨ m = 4 ∨ m = 5) with rfl | rfl | rfl | rfl
  · have h0 := hp 0 (by omega)
    have h1 := hp 1 (by omega)
    rcases (by omega : i = 0 ∨ i = 1) with rfl | rfl <;> simp only [gde, gco, Nat.reducePow] <;> omega
  · have h0 := hp 0 (by omega)
    have h1 := hp 1 (by omega)
    have h2 := hp 2 (by omega)
    rcases (by omega : i = 0 ∨ i = 1 ∨ i = 2) with rfl | rfl | rfl <;> simp only [gde, gco, Nat.reducePow] <;> omega
  · have h0 := hp 0 (by omega)
    have h1 := hp 1 (by omega)
    have h2 := hp 2 (by omega)
    have h3 := hp 3 (by omega)
    rcases (by omega : i = 0 ∨ i = 1 ∨ i = 2 ∨ i = 3) with rfl | rfl | rfl | rfl <;> simp only [gde, gco, Nat.reducePow] <;> omega
  · have h0 := hp 0 (by omega)
    have h1 := hp 1 (by omega)
    have h2 := hp 2 (by omega)
    have h3 := hp 3 (by omega)
    have h4 := hp 4 (by omega)
    rcases (by omega : i = 0 ∨ i = 1 ∨ i = 2 ∨ i = 3 ∨ i = 4) with rfl | rfl | rfl | rfl | rfl <;> simp only [gde, gco, Nat.reducePow] <;> omega
theorem gEnd_of {m : Nat} (hm : 2 ≤ m ∧ m ≤ 5) : ∀ (n : Nat) (row p : Nat → Nat), gOrd m row p → gRow m m p → gEndC m n (gco m p m) = true → gEnd m n row = true
  | 0, _, _, _, _, h => h
  | n + 1, row, p, ho, hr, h => by
    have hd : ∀ i, i < m → gde (gco m p m) i = p i := fun i hi => gde_gco hm (fun j hj => by have := hr.1 j hj; omega) hi
    have ho2 : gOrd m row (gde (gco m p m)) := fun i j hi hj => by rw [hd i hi, hd j hj]; exact ho i j hi hj
    have hr2 : gRow m m (gde (gco m p m)) := ⟨fun i hi => by rw [hd i hi]; exact hr.1 i hi, fun i j hi hj e => hr.2 i j hi hj (by rw [hd i hi, hd j hj] at e; exact e)⟩
    unfold gEndC at h
    unfold gEnd
    rcases gNx_ord ho2 hm.1 with ⟨e1, e2⟩ | ⟨r, q, e1, e2, e3⟩
    · rw [e1]
    · rw [e1]
      rw [e2] at h
      dsimp only at h ⊢
      exact gEnd_of hm n r q e3 (gNx_row hr2 hm.1 e2) h
theorem gEnd_ok {set : Nat} {m : Nat} (hml : (gel set 12).length = m) (hm : 2 ≤ m ∧ m ≤ 5) : gEnd m 120 (gEl set) = true := by
  have hp := List.pairwise_iff_getElem.mp (gel_sorted set 12)
  refine gEnd_of hm 120 (gEl set) id (fun i j hi hj => ?_) ⟨fun i hi => hi, fun i j _ _ e => e⟩ ?_
  · show _ ↔ i < j
    rw [gEl_get (by omega), gEl_get (by omega)]
    constructor
    · intro z
      rcases Nat.lt_trichotomy i j with y | y | y
      · exact y
      · subst y; exact absurd z (Nat.lt_irrefl _)
      · have := hp j i (by omega) (by omega) y; omega
    · intro z
      exact hp i j (by omega) (by omega) z
  · rcases (by omega : m = 2 ∨ m = 3 ∨ m = 4 ∨ m = 5) with e | e | e | e <;> rw [e]
    · exact gEndC_ok.1
    · exact gEndC_ok.2.1
    · exact gEndC_ok.2.2.1
    · exact gEndC_ok.2.2.2
/-! lays without hands -/
def gQy (g : zG) (row : Nat → Nat) : Nat → zG
  | 0 => g
  | n + 1 => gput (gQy g row n) (row n) 0
theorem gput_HS (g : zG) (S H : Nat → Int) (s f : Nat) : gput (gHS g S H) s f = gHS (gput g s f) S H := by
  unfold gput
  rw [gpre_HS]
  rfl
theorem gPy_HS (g : zG) (row : Nat → Nat) : ∀ n, ∃ S H, gPy g row n = gHS (gQy g row n) S H
  | 0 => ⟨gS g, gH g, rfl⟩
  | n + 1 => by
    obtain ⟨S, H, e⟩ := gPy_HS g row n
    refine ⟨fun h => if gH (gPy g row n) (row n) = (h : Int) then gS (gPy g row n) h + gsc (gput (gPy g row n) (row n) 0) else gS (gPy g row n) h, fup (gH (gPy g row n)) (row n) (-4), ?_⟩
    show gHS (gput (gPy g row n) (row n) 0) _ _ = gHS (gput (gQy g row n) (row n) 0) _ _
    rw [e, gput_HS]
    rfl
theorem gQy_inv {g : zG} {row : Nat → Nat} {m : Nat} (hg : gWF g) (ho : gO g = 0) (hL : gL g = 0) (hr : gRow m (gN g) row) : ∀ i, i ≤ m → gWF (gQy g row i) ∧ gO (gQy g row i) = 0 ∧ gN (gQy g row i) = gN g ∧ gL (gQy g row i) = i ∧ (∀ p, p < i → gR (gQy g row i) p = row p)
  | 0, _ => ⟨hg, ho, rfl, hL, fun p hp => by omega⟩
  | i + 1, hi => by
    obtain ⟨h1, h2, h3, h4, h5⟩ := gQy_inv hg ho hL hr i (by omega)
    have hn : ∀ p, p < gL (gQy g row i) → gR (gQy g row i) p ≠ row i := fun p hp e => by
      rw [h4] at hp
      rw [h5 p hp] at e
      have := hr.2 p i (by omega) (by omega) e
      omega
    have hb := hr.1 i (by omega)
    refine ⟨gput_wf h1 (by omega) (by omega) hn h2, ?_, ?_, ?_, fun p hp => ?_⟩
    · show gO (gpre (gQy g row i)) = 0
      unfold gpre
      split
      · exact h2
      · split <;> exact h2
    · rw [← h3]; exact gput_N _ _ _
    · show gL (gpre (gQy g row i)) + 1 = i + 1
      rw [gpre_L, h4]
    · show fupN (gR (gpre (gQy g row i))) (gL (gpre (gQy g row i))) (row i) p = row p
      rw [gpre_R, gpre_L, h4]
      unfold fupN
      by_cases z : p = i
      · rw [if_pos z, z]
      · rw [if_neg z]
        exact h5 p (by omega)
theorem gBr_Q (g : zG) (row : Nat → Nat) (m set : Nat) (si : Nat → Int) (fr : Nat) : gBr g row m set si fr ↔ ((∀ i, i < m → gfit (gQy g row i) (row i) 0) ∧ (∀ s, s < 12 → gbit set s → gM (gQy g row m) s 0 = si (fr + 2 * (gel set s).length) ∧ gM (gQy g row m) s 1 = si (fr + 2 * (gel set s).length + 1))) := by
  have hf : ∀ i, gfit (gPy g row i) (row i) 0 ↔ gfit (gQy g row i) (row i) 0 := fun i => by
    obtain ⟨S, H, e⟩ := gPy_HS g row i
    rw [e]
    exact Iff.rfl
  have hm : gM (gPy g row m) = gM (gQy g row m) := by
    obtain ⟨S, H, e⟩ := gPy_HS g row m
    rw [e]
    rfl
  unfold gBr
  rw [hm]
  exact and_congr ⟨fun h i hi => (hf i).mp (h i hi), fun h i hi => (hf i).mpr (h i hi)⟩ Iff.rfl
section
variable {d : Nat} {t : zMI} {g : zG} {sh : gSh} {K : Int → zMI → Prop} {Kv : zMI → Prop}
theorem m_nextOrder {m N : Nat} {row : Nat → Nat} (h : zRw t 67 m row) (hr : gRow m N row) (hN : N ≤ 12) (hm : 2 ≤ m ∧ m ≤ 5) (hx : t 50 27 = (m : Int)) (k0 : gNx m row = none → K 0 t) (k1 : ∀ r t', gNx m row = some r → zRw t' 67 m r → (∀ q, q ≠ 67 → t' q = t q) → K 1 t') : ZX d 170 0 [(0, .ref 50)] [] t (zKi K) := by
  unfold gNx at k0 k1
  have val : ∀ i, i < m → 0 ≤ (row i : Int) ∧ (row i : Int) < 12 := fun i hi => by have := hr.1 i hi; omega
  have rev : ∀ (n a b : Nat) (row1 : Nat → Nat) (t' : zMI), zRw t' 67 m row1 → (∀ q, q ≠ 67 → t' q = t q) → b < m → a ≤ m → b ≤ a + n → (∀ t'', zRw t'' 67 m (grv row1 a b n) → (∀ q, q ≠ 67 → t'' q = t q) → K 1 t'') → ZX d 170 67 [(5, .int (zi a)), (4, .int (zi b)), (0, .ref 50)] [] t' (zKi K) := by
    intro n
    induction n with
    | zero =>
      intro a b row1 t' h1 f1 hb ha hn kk
      refine z_iload zi_170_67 rfl ?_
      refine z_iload zi_170_68 rfl ?_
      refine z_icmp_ge_t zi_170_69 (by omega) (by omega) ?_
      refine z_iconst zi_170_91 ?_
      refine z_zreturn zi_170_92 rfl (by omega) (kk t' h1 f1)
    | succ n ih =>
      intro a b row1 t' h1 f1 hb ha hn kk
      unfold grv at kk
      refine z_iload zi_170_67 rfl ?_
      refine z_iload zi_170_68 rfl ?_
      refine z_icmp_ge zi_170_69 (by omega) (fun c => ?_) (fun c => ?_)
      · rw [if_neg (by omega)] at kk
        refine z_iconst zi_170_91 ?_
        refine z_zreturn zi_170_92 rfl (by omega) (kk t' h1 f1)
      · rw [if_pos (by omega)] at kk
        refine z_aload_n zi_170_70 rfl ?_
        refine z_getfield zi_170_71 zm_f24 ?_
        refine z_iload zi_170_72 rfl ?_
        refine z_iaload (n := a) zi_170_73 rfl (by omega) (by omega) (by omega) ?_
        rw [h1 a (by omega)]
        refine z_istore_n zi_170_74 rfl ?_
        refine z_aload_n zi_170_75 rfl ?_
        refine z_getfield zi_170_76 zm_f24 ?_
        refine z_iload zi_170_77 rfl ?_
        refine z_aload_n zi_170_78 rfl ?_
        refine z_getfield zi_170_79 zm_f24 ?_
        refine z_iload zi_170_80 rfl ?_
        refine z_iaload (n := b) zi_170_81 rfl (by omega) (by omega) (by omega) ?_
        rw [h1 b hb]
        refine z_iastore (n := a) zi_170_82 rfl (by omega) (by omega) (by omega) ?_
        refine z_aload_n zi_170_83 rfl ?_
        refine z_getfield zi_170_84 zm_f24 ?_
        refine z_iload zi_170_85 rfl ?_
        refine z_iload_n zi_170_86 rfl ?_
        refine z_iastore (n := b) zi_170_87 rfl (by omega) (by omega) (by omega) ?_
        refine z_iinc zi_170_88 rfl rfl ?_
        refine z_iinc zi_170_89 rfl rfl ?_
        refine z_goto zi_170_90 ?_
        have e1 : (b : Int) + -1 = ((b - 1 : Nat) : Int) := by omega
        rw [e1]
        refine z_loc (lv' := [(5, .int (zi ((a + 1 : Nat) : Int))), (4, .int (zi ((b - 1 : Nat) : Int))), (0, .ref 50)]) rfl ?_
        exact ih (a + 1) (b - 1) (fsw row1 a b) _ (zRw_sw h1) (fun q hq => by rw [zup_o hq, zup_o hq]; exact f1 q hq) (by omega) (by omega) (by omega) kk
  have sw : ∀ kf j : Nat, kf < m → j < m → las row (m - 1) = some kf → gjj row kf (m - 1) = j → ZX d 170 40 [(2, .int (zi j)), (1, .int (zi kf)), (0, .ref 50)] [] t (zKi K) := by
    intro kf j hk hj hl hg
    rw [hl] at k1
    dsimp only at k1
    rw [hg] at k1
    refine z_aload_n zi_170_40 rfl ?_
    refine z_getfield zi_170_41 zm_f24 ?_
    refine z_iload_n zi_170_42 rfl ?_
    refine z_iaload (n := kf) zi_170_43 rfl (by omega) (by omega) (by omega) ?_
    rw [h kf hk]
    refine z_istore_n zi_170_44 rfl ?_
    refine z_aload_n zi_170_45 rfl ?_
    refine z_getfield zi_170_46 zm_f24 ?_
    refine z_iload_n zi_170_47 rfl ?_
    refine z_aload_n zi_170_48 rfl ?_
    refine z_getfield zi_170_49 zm_f24 ?_
    refine z_iload_n zi_170_50 rfl ?_
    refine z_iaload (n := j) zi_170_51 rfl (by omega) (by omega) (by omega) ?_
    rw [h j hj]
    refine z_iastore (n := kf) zi_170_52 rfl (by omega) (by omega) (by omega) ?_
    refine z_aload_n zi_170_53 rfl ?_
    refine z_getfield zi_170_54 zm_f24 ?_
    refine z_iload_n zi_170_55 rfl ?_
    refine z_iload_n zi_170_56 rfl ?_
    refine z_iastore (n := j) zi_170_57 rfl (by omega) (by omega) (by omega) ?_
    refine z_aload_n zi_170_58 rfl ?_
    refine z_getfield zi_170_59 zm_f27 ?_
    rw [zup_o (by omega), zup_o (by omega), hx]
    refine z_iconst zi_170_60 ?_
    refine z_isub zi_170_61 ?_
    refine z_istore zi_170_62 rfl ?_
    refine z_iload_n zi_170_63 rfl ?_
    refine z_iconst zi_170_64 ?_
    refine z_iadd zi_170_65 ?_
    refine z_istore zi_170_66 rfl ?_
    have e1 : (m : Int) - 1 = ((m - 1 : Nat) : Int) := by omega
    rw [e1]
    refine z_loc (lv' := [(5, .int (zi ((kf + 1 : Nat) : Int))), (4, .int (zi ((m - 1 : Nat) : Int))), (0, .ref 50)]) rfl ?_
    exact rev 5 (kf + 1) (m - 1) (fsw row kf j) _ (zRw_sw h) (fun q hq => by rw [zup_o hq, zup_o hq]) (by omega) (by omega) (by omega) (fun t'' g1 g2 => k1 _ t'' rfl g1 g2)
  have grt : ∀ (n kf : Nat), kf < m → n < m → kf ≤ n → las row (m - 1) = some kf → gjj row kf n = gjj row kf (m - 1) → ZX d 170 29 [(2, .int (zi n)), (1, .int (zi kf)), (0, .ref 50)] [] t (zKi K) := by
    intro n
    induction n with
    | zero =>
      intro kf hk hn hkn hlas hj
      have hk0 : kf = 0 := by omega
      subst hk0
      have v := val 0 hk
      refine z_aload_n zi_170_29 rfl ?_
      refine z_getfield zi_170_30 zm_f24 ?_
      refine z_iload_n zi_170_31 rfl ?_
      refine z_iaload (n := 0) zi_170_32 rfl (by omega) (by omega) (by omega) ?_
      rw [h 0 hk]
      refine z_aload_n zi_170_33 rfl ?_
      refine z_getfield zi_170_34 zm_f24 ?_
      refine z_iload_n zi_170_35 rfl ?_
      refine z_iaload (n := 0) zi_170_36 rfl (by omega) (by omega) (by omega) ?_
      rw [h 0 hk]
      refine z_icmp_ge_t zi_170_37 (by omega) (by omega) ?_
      exact sw 0 0 hk hk hlas (by rw [← hj]; rfl)
    | succ n ih =>
      intro kf hk hn hkn hlas hj
      have v1 := val (n + 1) hn
      have v2 := val kf hk
      have eS : gjj row kf (n + 1) = if row (n + 1) < row kf then gjj row kf n else n + 1 := rfl
      refine z_aload_n zi_170_29 rfl ?_
      refine z_getfield zi_170_30 zm_f24 ?_
      refine z_iload_n zi_170_31 rfl ?_
      refine z_iaload (n := n + 1) zi_170_32 rfl (by omega) (by omega) (by omega) ?_
      rw [h (n + 1) hn]
      refine z_aload_n zi_170_33 rfl ?_
      refine z_getfield zi_170_34 zm_f24 ?_
      refine z_iload_n zi_170_35 rfl ?_
      refine z_iaload (n := kf) zi_170_36 rfl (by omega) (by omega) (by omega) ?_
      rw [h kf hk]
      refine z_icmp_ge zi_170_37 (by omega) (fun c => ?_) (fun c => ?_)
      · rw [if_neg (by omega)] at eS
        exact sw kf (n + 1) hk hn hlas (by rw [← hj, eS])
      · rw [if_pos (by omega)] at eS
        have hkn2 : kf ≤ n := by
          rcases Nat.lt_or_ge n kf with z | z
          · have : kf = n + 1 := by omega
            rw [this] at c
            omega
          · exact z
        refine z_iinc zi_170_38 rfl rfl ?_
        refine z_goto zi_170_39 ?_
        have e1 : ((n + 1 : Nat) : Int) + -1 = (n : Int) := by omega
        rw [e1]
        refine z_loc (lv' := [(2, .int (zi n)), (1, .int (zi kf)), (0, .ref 50)]) rfl ?_
        exact ih kf hk (by omega) hkn2 hlas (by rw [← hj, eS])
  have fall : ∀ (n : Nat), n < m → las row n = las row (m - 1) → ZX d 170 5 [(1, .int (zi ((n : Int) - 1))), (0, .ref 50)] [] t (zKi K) := by
    intro n
    induction n with
    | zero =>
      intro hn hl
      have hnone : las row (m - 1) = none := by rw [← hl]; rfl
      rw [hnone] at k0
      refine z_iload_n zi_170_5 rfl ?_
      refine z_if_lt_t zi_170_6 (by omega) (by omega) ?_
      refine z_iload_n zi_170_20 rfl ?_
      refine z_if_ge_f zi_170_21 (by omega) (by omega) ?_
      refine z_iconst zi_170_22 ?_
      refine z_zreturn zi_170_23 rfl (by omega) (k0 rfl)
    | succ n ih =>
      intro hn hl
      have e1 : ((n + 1 : Nat) : Int) - 1 = (n : Int) := by omega
      have v1 := val (n + 1) hn
      have v2 := val n (by omega)
      have eS : las row (n + 1) = if row (n + 1) < row n then las row n else some n := rfl
      rw [e1]
      refine z_iload_n zi_170_5 rfl ?_
      refine z_if_lt_f zi_170_6 (by omega) (by omega) ?_
      refine z_aload_n zi_170_7 rfl ?_
      refine z_getfield zi_170_8 zm_f24 ?_
      refine z_iload_n zi_170_9 rfl ?_
      refine z_iaload (n := n) zi_170_10 rfl (by omega) (by omega) (by omega) ?_
      rw [h n (by omega)]
      refine z_aload_n zi_170_11 rfl ?_
      refine z_getfield zi_170_12 zm_f24 ?_
      refine z_iload_n zi_170_13 rfl ?_
      refine z_iconst zi_170_14 ?_
      refine z_iadd zi_170_15 ?_
      refine z_iaload (n := n + 1) zi_170_16 rfl (by omega) (by omega) (by omega) ?_
      rw [h (n + 1) hn]
      refine z_icmp_le zi_170_17 (by omega) (fun c => ?_) (fun c => ?_)
      · rw [if_neg (by omega)] at eS
        refine z_iload_n zi_170_20 rfl ?_
        refine z_if_ge_t zi_170_21 (by omega) (by omega) ?_
        refine z_aload_n zi_170_24 rfl ?_
        refine z_getfield zi_170_25 zm_f27 ?_
        rw [hx]
        refine z_iconst zi_170_26 ?_
        refine z_isub zi_170_27 ?_
        refine z_istore_n zi_170_28 rfl ?_
        have e2 : (m : Int) - 1 = ((m - 1 : Nat) : Int) := by omega
        rw [e2]
        refine z_loc (lv' := [(2, .int (zi ((m - 1 : Nat) : Int))), (1, .int (zi n)), (0, .ref 50)]) rfl ?_
        exact grt (m - 1) n (by omega) (by omega) (by omega) (by rw [← hl, eS]) rfl
      · rw [if_pos (by omega)] at eS
        refine z_iinc zi_170_18 rfl rfl ?_
        refine z_goto zi_170_19 ?_
        have e3 : (n : Int) + -1 = (n : Int) - 1 := by omega
        rw [e3]
        refine z_loc (lv' := [(1, .int (zi ((n : Int) - 1))), (0, .ref 50)]) rfl ?_
        exact ih (by omega) (by rw [← hl, eS])
  refine z_aload_n zi_170_0 rfl ?_
  refine z_getfield zi_170_1 zm_f27 ?_
  rw [hx]
  refine z_iconst zi_170_2 ?_
  refine z_isub zi_170_3 ?_
  refine z_istore_n zi_170_4 rfl ?_
  have e1 : (m : Int) - 2 = ((m - 1 : Nat) : Int) - 1 := by omega
  rw [e1]
  refine z_loc (lv' := [(1, .int (zi (((m - 1 : Nat) : Int) - 1))), (0, .ref 50)]) rfl ?_
  exact fall (m - 1) (by omega) rfl
theorem m_brings {a b : Int} {set m q fr : Nat} {row : Nat → Nat} (h : zRS (zup t 50 4 0) g) (hg : gWF g) (ho : gO g = 0) (hL : gL g = 0) (h59 : ∀ i, i < 72 → t 59 i = t 51 i) (hs : zSm t sh) (hw : gShW sh) (hset : set < 2 ^ gN g) (hml : (gel set 12).length = m) (hm : 2 ≤ m ∧ m ≤ 5) (hx : t 50 27 = (m : Int)) (hq : q < 4) (hr : gRow m (gN g) row) (hrow : zRw t 67 m row) (ha : a = (set : Int)) (hb : b = 24 * (q : Int) + fr) (hfr : fr + 2 * m ≤ 24)
    (kt : ∀ t', gBr g row m set (sh.2.2 q) fr → (∀ i, i < 72 → t' 51 i = t 51 i) → (∀ n, n ≠ 4 → t' 50 n = t 50 n) → (∀ q, ¬ (50 ≤ q ∧ q ≤ 53) → ¬ (57 ≤ q ∧ q ≤ 58) → t' q = t q) → K 1 t') (kf : ∀ t', ¬ gBr g row m set (sh.2.2 q) fr → (∀ i, i < 72 → t' 51 i = t 51 i) → (∀ n, n ≠ 4 → t' 50 n = t 50 n) → (∀ q, ¬ (50 ≤ q ∧ q ≤ 53) → ¬ (57 ≤ q ∧ q ≤ 58) → t' q = t q) → K 0 t') : ZX (d + 4) 171 0 [(0, .ref 50), (1, .int (zi a)), (2, .int (zi b))] [] t (zKi K) := by
  subst ha hb
  rw [gBr_Q] at kt kf
  have hn := hg.n
  have hp : 2 ^ gN g ≤ 4096 := Nat.le_trans (Nat.pow_le_pow_right (by omega) hn.1) (by decide : 2 ^ 12 ≤ 4096)
  have hsr : ∀ n, n ≤ 12 → (gel set n).length ≤ m := fun n hn => by
    have := gel_mono set n (12 - n)
    rw [show n + (12 - n) = 12 by omega, hml] at this
    exact this
  have hit : ∀ i, i < 24 → t 66 (24 * q + i) = sh.2.2 q i := (hs q hq).2.2
  have hwi := (hw q hq).2.2
  -- the end
  have fin : ∀ (v : Int) (l : List (Nat × Value)) (t' : zMI), v = 0 ∨ v = 1 → zg l 0 = some (.ref 50) → zg l 3 = some (.int (zi v)) → (∀ q, ¬ (50 ≤ q ∧ q ≤ 53) → ¬ (57 ≤ q ∧ q ≤ 58) → t' q = t q) → (∀ n, n ≠ 4 → t' 50 n = t 50 n) → (∀ t'', (∀ i, i < 72 → t'' 51 i = t 51 i) → (∀ n, n ≠ 4 → t'' 50 n = t 50 n) → (∀ q, ¬ (50 ≤ q ∧ q ≤ 53) → ¬ (57 ≤ q ∧ q ≤ 58) → t'' q = t q) → K v t'') → ZX (d + 4) 171 93 l [] t' (zKi K) := by
    intro v l t' hv l0 l3 f' f50 kk
    refine z_aload_n zi_171_93 l0 ?_
    refine z_aload_n zi_171_94 l0 ?_
    refine z_getfield zi_171_95 zm_f15 ?_
    refine z_aload_n zi_171_96 l0 ?_
    refine z_getfield zi_171_97 zm_f4 ?_
    refine z_cv2v zi_171_98 rfl rfl rfl ⟨rfl, Nat.le_of_ble_eq_true rfl, Nat.le_of_ble_eq_true rfl⟩ (m_bringBack rfl (by omega) (by omega) (fun t3 b1 b2 b3 b4 => ?_))
    refine z_iload_n zi_171_99 l3 ?_
    refine z_zreturn zi_171_100 rfl hv (kk t3 (fun i hi => ?_) (fun n hn => ?_) (fun q q1 q2 => ?_))
    · rw [b1 i hi, f' 59 (by omega) (by omega)]; exact h59 i hi
    · rw [b3 n hn, f50 n hn]
    · rw [b4 q (by omega) (by omega)]; exact f' q q1 q2
  -- the marks
  have marks : ∀ (j s : Nat) (t' : zMI), s + j = gN g → zRS t' (gQy g row m) → (∀ q, ¬ (50 ≤ q ∧ q ≤ 53) → ¬ (57 ≤ q ∧ q ≤ 58) → t' q = t q) → (∀ n, n ≠ 4 → t' 50 n = t 50 n) → (∀ i, i < m → gfit (gQy g row i) (row i) 0) → (∀ x, x < s → gbit set x → gM (gQy g row m) x 0 = sh.2.2 q (fr + 2 * (gel set x).length) ∧ gM (gQy g row m) x 1 = sh.2.2 q (fr + 2 * (gel set x).length + 1)) → ZX (d + 4) 171 37 [(5, .int (zi s)), (4, .int (zi ((gel set s).length : Int))), (3, .int (zi 1)), (0, .ref 50), (1, .int (zi set)), (2, .int (zi (24 * (q : Int) + fr)))] [] t' (zKi K) := by
    intro j
    induction j with
    | zero =>
      intro s t' e h' f' f50 hfit hmk
      have e1 : s = gN g := by omega
      subst e1
      have hNq := (gQy_inv hg ho hL hr m (Nat.le_refl _)).2.2.1
      refine z_iload zi_171_37 rfl ?_
      refine z_aload_n zi_171_38 rfl ?_
      refine z_getfield zi_171_39 zm_f1 ?_
      rw [h'.n, hNq]
      refine z_icmp_ge_t zi_171_40 (by omega) (by omega) ?_
      exact fin 1 _ t' (Or.inr rfl) rfl rfl f' f50 (fun t'' x y z => kt t'' ⟨hfit, fun s' hs' hb' => hmk s' (gbit_lt hset hb') hb'⟩ x y z)
    | succ j ih =>
      intro s t' e h' f' f50 hfit hmk
      obtain ⟨w1, w2, w3, w4, w5⟩ := gQy_inv hg ho hL hr m (Nat.le_refl _)
      have hl := hsr s (by omega)
      have hd : set / 2 ^ s < 2147483648 := Nat.lt_of_le_of_lt (Nat.div_le_self _ _) (by omega)
      refine z_iload zi_171_37 rfl ?_
      refine z_aload_n zi_171_38 rfl ?_
      refine z_getfield zi_171_39 zm_f1 ?_
      rw [h'.n, w3]
      refine z_icmp_ge_f zi_171_40 (by omega) (by omega) ?_
      refine z_iload_n zi_171_41 rfl ?_
      refine z_if_eq_f zi_171_42 (by omega) (by omega) ?_
      refine z_iload_n zi_171_43 rfl ?_
      refine z_iload zi_171_44 rfl ?_
      refine z_ishr zi_171_45 (zshr1 (by omega) (by omega)) ?_
      refine z_iconst zi_171_46 ?_
      refine z_iand zi_171_47 (zand1 hd) ?_
      refine z_iconst zi_171_48 ?_
      have go : ¬ gbit set s → ZX (d + 4) 171 91 [(5, .int (zi s)), (4, .int (zi ((gel set s).length : Int))), (3, .int (zi 1)), (0, .ref 50), (1, .int (zi set)), (2, .int (zi (24 * (q : Int) + fr)))] [] t' (zKi K) := by
        intro z
        have eg : gel set (s + 1) = gel set s := by
          show gel set s ++ _ = _
          rw [if_neg z, List.append_nil]
        refine z_iinc zi_171_91 rfl rfl ?_
        refine z_goto zi_171_92 ?_
        refine z_loc (lv' := [(5, .int (zi ((s + 1 : Nat) : Int))), (4, .int (zi ((gel set s).length : Int))), (3, .int (zi 1)), (0, .ref 50), (1, .int (zi set)), (2, .int (zi (24 * (q : Int) + fr)))]) rfl ?_
        rw [← eg]
        refine ih (s + 1) t' (by omega) h' f' f50 hfit (fun x hx hb => ?_)
        rcases (by omega : x < s ∨ x = s) with y | y
        · exact hmk x y hb
        · subst y; exact absurd hb z
      refine z_icmp_ne zi_171_49 (by omega) (fun c => ?_) (fun c => ?_)
      · exact go (fun z => by unfold gbit at z; omega)
      · have z : gbit set s := by unfold gbit; omega
        have hsN := gbit_lt hset z
        have hm0 := w1.t (s := s) (w := 0) (by omega) (by omega)
        have hm1 := w1.t (s := s) (w := 1) (by omega) (by omega)
        have v0 : t' 51 (6 * s + 3) = gM (gQy g row m) s 0 := h'.m (w := 0) (by omega) (by omega)
        have v1 : t' 51 (6 * s + 4) = gM (gQy g row m) s 1 := h'.m (w := 1) (by omega) (by omega)
        have eg : gel set (s + 1) = gel set s ++ [s] := by
          show gel set s ++ _ = _
          rw [if_pos z]
        have el : (gel set (s + 1)).length = (gel set s).length + 1 := by rw [eg, List.length_append]; rfl
        have hl1 := hsr (s + 1) (by omega)
        have r5 := hwi (fr + 2 * (gel set s).length) (by omega)
        have r6 := hwi (fr + 2 * (gel set s).length + 1) (by omega)
        have bad : ¬ (gM (gQy g row m) s 0 = sh.2.2 q (fr + 2 * (gel set s).length) ∧ gM (gQy g row m) s 1 = sh.2.2 q (fr + 2 * (gel set s).length + 1)) → ZX (d + 4) 171 88 [(5, .int (zi s)), (4, .int (zi ((gel set s).length : Int))), (3, .int (zi 1)), (0, .ref 50), (1, .int (zi set)), (2, .int (zi (24 * (q : Int) + fr)))] [] t' (zKi K) := by
          intro nb
          have out := fun l h0 h3 => fin 0 l t' (Or.inl rfl) h0 h3 f' f50 (fun t'' x y zz => kf t'' (fun w => nb (w.2 s (by omega) z)) x y zz)
          refine z_iconst zi_171_88 ?_
          refine z_istore_n zi_171_89 rfl ?_
          refine z_iinc zi_171_90 rfl rfl ?_
          refine z_iinc zi_171_91 rfl rfl ?_
          refine z_goto zi_171_92 ?_
          refine z_iload zi_171_37 rfl ?_
          refine z_aload_n zi_171_38 rfl ?_
          refine z_getfield zi_171_39 zm_f1 ?_
          rw [h'.n, w3]
          refine z_icmp_ge zi_171_40 (by omega) (fun e9 => ?_) (fun e9 => ?_)
          · exact out _ rfl rfl
          · refine z_iload_n zi_171_41 rfl ?_
            refine z_if_eq_t zi_171_42 (by omega) (by omega) ?_
            exact out _ rfl rfl
        refine z_aload_n zi_171_50 rfl ?_
        refine z_getfield zi_171_51 zm_f0 ?_
        refine z_bipush zi_171_52 (by decide) ?_
        refine z_iload zi_171_53 rfl ?_
        refine z_imul zi_171_54 ?_
        refine z_iconst zi_171_55 ?_
        refine z_iadd zi_171_56 ?_
        refine z_iaload (n := 6 * s + 3) zi_171_57 rfl (by omega) (by omega) (by omega) ?_
        rw [v0]
        refine z_aload_n zi_171_58 rfl ?_
        refine z_getfield zi_171_59 zm_f23 ?_
        refine z_iload_n zi_171_60 rfl ?_
        refine z_iconst zi_171_61 ?_
        refine z_iload zi_171_62 rfl ?_
        refine z_imul zi_171_63 ?_
        refine z_iadd zi_171_64 ?_
        refine z_iaload (n := 24 * q + (fr + 2 * (gel set s).length)) zi_171_65 rfl (by omega) (by omega) (by omega) ?_
        rw [f' 66 (by omega) (by omega), hit _ (by omega)]
        refine z_icmp_ne zi_171_66 (by omega) (fun c1 => ?_) (fun c1 => ?_)
        · exact bad (fun y => c1 y.1)
        · refine z_aload_n zi_171_67 rfl ?_
          refine z_getfield zi_171_68 zm_f0 ?_
          refine z_bipush zi_171_69 (by decide) ?_
          refine z_iload zi_171_70 rfl ?_
          refine z_imul zi_171_71 ?_
          refine z_iconst zi_171_72 ?_
          refine z_iadd zi_171_73 ?_
          refine z_iaload (n := 6 * s + 4) zi_171_74 rfl (by omega) (by omega) (by omega) ?_
          rw [v1]
          refine z_aload_n zi_171_75 rfl ?_
          refine z_getfield zi_171_76 zm_f23 ?_
          refine z_iload_n zi_171_77 rfl ?_
          refine z_iconst zi_171_78 ?_
          refine z_iload zi_171_79 rfl ?_
          refine z_imul zi_171_80 ?_
          refine z_iadd zi_171_81 ?_
          refine z_iconst zi_171_82 ?_
          refine z_iadd zi_171_83 ?_
          refine z_iaload (n := 24 * q + (fr + 2 * (gel set s).length + 1)) zi_171_84 rfl (by omega) (by omega) (by omega) ?_
          rw [f' 66 (by omega) (by omega), hit _ (by omega)]
          refine z_icmp_ne zi_171_85 (by omega) (fun c2 => ?_) (fun c2 => ?_)
          · exact bad (fun y => c2 y.2)
          · refine z_iconst zi_171_86 ?_
            refine z_goto zi_171_87 ?_
            refine z_istore_n zi_171_89 rfl ?_
            refine z_iinc zi_171_90 rfl rfl ?_
            refine z_iinc zi_171_91 rfl rfl ?_
            refine z_goto zi_171_92 ?_
            have e2 : ((gel set s).length : Int) + 1 = ((gel set (s + 1)).length : Int) := by omega
            refine z_loc (lv' := [(5, .int (zi ((s + 1 : Nat) : Int))), (4, .int (zi (((gel set s).length : Int) + 1))), (3, .int (zi 1)), (0, .ref 50), (1, .int (zi set)), (2, .int (zi (24 * (q : Int) + fr)))]) rfl ?_
            rw [e2]
            refine ih (s + 1) t' (by omega) h' f' f50 hfit (fun x hx hb => ?_)
            rcases (by omega : x < s ∨ x = s) with y | y
            · exact hmk x y hb
            · subst y; exact ⟨by omega, by omega⟩
  -- the lays
  have lays : ∀ (j i : Nat) (t' : zMI), i + j = m → zRS t' (gQy g row i) → (∀ q, ¬ (50 ≤ q ∧ q ≤ 53) → ¬ (57 ≤ q ∧ q ≤ 58) → t' q = t q) → (∀ n, n ≠ 4 → t' 50 n = t 50 n) → (∀ x, x < i → gfit (gQy g row x) (row x) 0) → ZX (d + 4) 171 7 [(4, .int (zi i)), (3, .int (zi 1)), (0, .ref 50), (1, .int (zi set)), (2, .int (zi (24 * (q : Int) + fr)))] [] t' (zKi K) := by
    intro j
    induction j with
    | zero =>
      intro i t' e h' f' f50 hfit
      have ei : i = m := by omega
      subst ei
      refine z_iload zi_171_7 rfl ?_
      refine z_aload_n zi_171_8 rfl ?_
      refine z_getfield zi_171_9 zm_f27 ?_
      rw [f50 27 (by omega), hx]
      refine z_icmp_ge_t zi_171_10 (by omega) (by omega) ?_
      refine z_iconst zi_171_33 ?_
      refine z_istore zi_171_34 rfl ?_
      refine z_iconst zi_171_35 ?_
      refine z_istore zi_171_36 rfl ?_
      refine z_loc (lv' := [(5, .int (zi ((0 : Nat) : Int))), (4, .int (zi ((gel set 0).length : Int))), (3, .int (zi 1)), (0, .ref 50), (1, .int (zi set)), (2, .int (zi (24 * (q : Int) + fr)))]) rfl ?_
      exact marks (gN g) 0 t' (by omega) h' f' f50 hfit (fun x hx _ => by omega)
    | succ j ih =>
      intro i t' e h' f' f50 hfit
      obtain ⟨w1, w2, w3, w4, w5⟩ := gQy_inv hg ho hL hr i (by omega)
      have hb := hr.1 i (by omega)
      have hno : gP (gQy g row i) (row i) = none := gpl_of_none (fun p hp e => by
        rw [w4] at hp
        rw [w5 p hp] at e
        have := hr.2 p i (by omega) (by omega) e
        omega)
      refine z_iload zi_171_7 rfl ?_
      refine z_aload_n zi_171_8 rfl ?_
      refine z_getfield zi_171_9 zm_f27 ?_
      rw [f50 27 (by omega), hx]
      refine z_icmp_ge_f zi_171_10 (by omega) (by omega) ?_
      refine z_iload_n zi_171_11 rfl ?_
      refine z_if_eq_f zi_171_12 (by omega) (by omega) ?_
      refine z_aload_n zi_171_13 rfl ?_
      refine z_aload_n zi_171_14 rfl ?_
      refine z_getfield zi_171_15 zm_f24 ?_
      refine z_iload zi_171_16 rfl ?_
      refine z_iaload (n := i) zi_171_17 rfl (by omega) (by omega) (by omega) ?_
      rw [f' 67 (by omega) (by omega), hrow i (by omega)]
      refine z_iconst zi_171_18 ?_
      refine z_cv2i zi_171_19 rfl rfl rfl ⟨rfl, Nat.le_of_ble_eq_true rfl, Nat.le_of_ble_eq_true rfl⟩ (m_mayLay (s := row i) (f := 0) h' w1 rfl (by omega) rfl (by omega) (fun z => ?_) (fun z => ?_))
      · refine z_istore_n zi_171_20 rfl ?_
        refine z_iload_n zi_171_21 rfl ?_
        refine z_if_eq_f zi_171_22 (by omega) (by omega) ?_
        refine z_aload_n zi_171_23 rfl ?_
        refine z_aload_n zi_171_24 rfl ?_
        refine z_getfield zi_171_25 zm_f24 ?_
        refine z_iload zi_171_26 rfl ?_
        refine z_iaload (n := i) zi_171_27 rfl (by omega) (by omega) (by omega) ?_
        rw [f' 67 (by omega) (by omega), hrow i (by omega)]
        refine z_iconst zi_171_28 ?_
        refine z_cv2i zi_171_29 rfl rfl rfl ⟨rfl, Nat.le_of_ble_eq_true rfl, Nat.le_of_ble_eq_true rfl⟩ (m_put (s := row i) (f := 0) h' w1 rfl (by omega) rfl (by omega) hno w2 (fun t2 h2 f2 => ?_))
        refine z_pop zi_171_30 rfl ?_
        refine z_iinc zi_171_31 rfl rfl ?_
        refine z_goto zi_171_32 ?_
        refine z_loc (lv' := [(4, .int (zi ((i + 1 : Nat) : Int))), (3, .int (zi 1)), (0, .ref 50), (1, .int (zi set)), (2, .int (zi (24 * (q : Int) + fr)))]) rfl ?_
        refine ih (i + 1) t2 (by omega) h2 (fun q q1 q2 => by rw [f2.1 q q1 q2 (by omega)]; exact f' q q1 q2) (fun n hn => by rw [f2.2.1 n hn]; exact f50 n hn) (fun x hx => ?_)
        rcases (by omega : x < i ∨ x = i) with y | y
        · exact hfit x y
        · rw [y]; exact z
      · have out := fun l h0 h3 => fin 0 l t' (Or.inl rfl) h0 h3 f' f50 (fun t'' x y zz => kf t'' (fun w => z (w.1 i (by omega))) x y zz)
        have tail : ∀ y : Int, ZX (d + 4) 171 33 [(4, .int (zi y)), (3, .int (zi 0)), (0, .ref 50), (1, .int (zi set)), (2, .int (zi (24 * (q : Int) + fr)))] [] t' (zKi K) := by
          intro y
          refine z_iconst zi_171_33 ?_
          refine z_istore zi_171_34 rfl ?_
          refine z_iconst zi_171_35 ?_
          refine z_istore zi_171_36 rfl ?_
          refine z_iload zi_171_37 rfl ?_
          refine z_aload_n zi_171_38 rfl ?_
          refine z_getfield zi_171_39 zm_f1 ?_
          rw [h'.n, w3]
          refine z_icmp_ge zi_171_40 (by omega) (fun e9 => ?_) (fun e9 => ?_)
          · exact out _ rfl rfl
          · refine z_iload_n zi_171_41 rfl ?_
            refine z_if_eq_t zi_171_42 (by omega) (by omega) ?_
            exact out _ rfl rfl
        refine z_istore_n zi_171_20 rfl ?_
        refine z_iload_n zi_171_21 rfl ?_
        refine z_if_eq_t zi_171_22 (by omega) (by omega) ?_
        refine z_iinc zi_171_31 rfl rfl ?_
        refine z_goto zi_171_32 ?_
        refine z_loc (lv' := [(4, .int (zi ((i : Int) + 1))), (3, .int (zi 0)), (0, .ref 50), (1, .int (zi set)), (2, .int (zi (24 * (q : Int) + fr)))]) rfl ?_
        refine z_iload zi_171_7 rfl ?_
        refine z_aload_n zi_171_8 rfl ?_
        refine z_getfield zi_171_9 zm_f27 ?_
        rw [f50 27 (by omega), hx]
        refine z_icmp_ge zi_171_10 (by omega) (fun e8 => ?_) (fun e8 => ?_)
        · exact tail _
        · refine z_iload_n zi_171_11 rfl ?_
          refine z_if_eq_t zi_171_12 (by omega) (by omega) ?_
          exact tail _
  refine z_aload_n zi_171_0 rfl ?_
  refine z_iconst zi_171_1 ?_
  refine z_putfield zi_171_2 rfl (Or.inl rfl) ?_
  refine z_iconst zi_171_3 ?_
  refine z_istore_n zi_171_4 rfl ?_
  refine z_iconst zi_171_5 ?_
  refine z_istore zi_171_6 rfl ?_
  refine z_loc (lv' := [(4, .int (zi ((0 : Nat) : Int))), (3, .int (zi 1)), (0, .ref 50), (1, .int (zi set)), (2, .int (zi (24 * (q : Int) + fr)))]) rfl ?_
  exact lays m 0 _ (by omega) h (fun q q1 q2 => zup_o (by omega)) (fun n hn => zup_n hn) (fun x hx => by omega)
end
