/-! texts: how stones are read from them -/
abbrev gTx := Nat × (Nat → Int)
def gskf (f : Nat → Int) : Nat → Nat → Nat
  | 0, p => p
  | n + 1, p => if f p = 32 then gskf f n (p + 1) else p
def gsk (x : gTx) (p : Nat) : Nat := gskf x.2 (x.1 - p) p
def gby (x : gTx) (p : Nat) : Int := if p < x.1 then x.2 p else -1
theorem gskf_le {f : Nat → Int} : ∀ n p, p ≤ gskf f n p ∧ gskf f n p ≤ p + n
  | 0, p => ⟨Nat.le_refl _, Nat.le_refl _⟩
  | n + 1, p => by
    have := gskf_le (f := f) n (p + 1)
    unfold gskf
    split <;> omega
theorem gsk_le {x : gTx} {p : Nat} (h : p ≤ x.1) : p ≤ gsk x p ∧ gsk x p ≤ x.1 := by
  have := gskf_le (f := x.2) (x.1 - p) p
  unfold gsk
  omega
theorem gsk_eq {x : gTx} {p : Nat} (h : p < x.1) : gsk x p = if x.2 p = 32 then gsk x (p + 1) else p := by
  unfold gsk
  obtain ⟨n, hn⟩ : ∃ n, x.1 - p = n + 1 := ⟨x.1 - p - 1, by omega⟩
  rw [hn, show x.1 - (p + 1) = n by omega]
  rfl
theorem gsk_end {x : gTx} {p : Nat} (h : ¬ p < x.1) : gsk x p = p := by
  unfold gsk
  rw [show x.1 - p = 0 by omega]
  rfl
theorem gsk_id {x : gTx} : ∀ (n p : Nat), x.1 - p = n → gsk x (gsk x p) = gsk x p
  | 0, p, h => by rw [gsk_end (p := p) (by omega), gsk_end (by omega)]
  | n + 1, p, h => by
    rw [gsk_eq (p := p) (by omega)]
    split
    · exact gsk_id n (p + 1) (by omega)
    · rename_i c
      rw [gsk_eq (by omega), if_neg c]
theorem gskk {x : gTx} {p : Nat} : gsk x (gsk x p) = gsk x p := gsk_id _ p rfl
abbrev gSt := Int × Int × Int × Int × Int
def gkd (x : gTx) (p : Nat) : Int := if gby x p = 112 then 1 else if gby x p = 115 then 2 else if gby x p = 104 then 3 else 0
def gkp (x : gTx) (p : Nat) : Nat := if gby x p = 112 ∨ gby x p = 115 ∨ gby x p = 104 then gsk x (p + 1) else p
/-- a stone from a place on (no blank there): where it can't be read, or the stone and the place behind it -/
def gRs (x : gTx) (p : Nat) : Nat ⊕ (gSt × Nat) :=
  if 3 ≤ gby x p - 48 ∧ gby x p - 48 ≤ 9 then
    if 3 ≤ gby x (gsk x (p + 1)) - 48 ∧ gby x (gsk x (p + 1)) - 48 ≤ 9 then
      if gby x (gkp x (gsk x (gsk x (p + 1) + 1))) = 64 then
        if 0 ≤ gby x (gsk x (gkp x (gsk x (gsk x (p + 1) + 1)) + 1)) - 48 ∧ gby x (gsk x (gkp x (gsk x (gsk x (p + 1) + 1)) + 1)) - 48 ≤ gby x p - 48 - 1 then
          if 0 ≤ gby x (gsk x (gsk x (gkp x (gsk x (gsk x (p + 1) + 1)) + 1) + 1)) - 48 ∧ gby x (gsk x (gsk x (gkp x (gsk x (gsk x (p + 1) + 1)) + 1) + 1)) - 48 ≤ gby x (gsk x (p + 1)) - 48 - 1 then
            .inr ((gkd x (gsk x (gsk x (p + 1) + 1)), gby x p - 48, gby x (gsk x (p + 1)) - 48, gby x (gsk x (gkp x (gsk x (gsk x (p + 1) + 1)) + 1)) - 48, gby x (gsk x (gsk x (gkp x (gsk x (gsk x (p + 1) + 1)) + 1) + 1)) - 48), gsk x (gsk x (gsk x (gkp x (gsk x (gsk x (p + 1) + 1)) + 1) + 1) + 1))
          else .inl (gsk x (gsk x (gkp x (gsk x (gsk x (p + 1) + 1)) + 1) + 1))
        else .inl (gsk x (gkp x (gsk x (gsk x (p + 1) + 1)) + 1))
      else .inr ((gkd x (gsk x (gsk x (p + 1) + 1)), gby x p - 48, gby x (gsk x (p + 1)) - 48, 0, 0), gkp x (gsk x (gsk x (p + 1) + 1)))
    else .inl (gsk x (p + 1))
  else .inl p
def gRr (x : gTx) : Nat → Nat → Nat ⊕ List gSt
  | 0, p => if p = x.1 then .inr [] else .inl p
  | n + 1, p => if p = x.1 then .inr [] else if gby x p = 44 then match gRs x (gsk x (p + 1)) with
      | .inl q => .inl q
      | .inr (y, p') => match gRr x n p' with
        | .inl q => .inl q
        | .inr l => .inr (y :: l)
    else .inl p
def gRx (x : gTx) : Nat ⊕ List gSt := match gRs x (gsk x 0) with
  | .inl q => .inl q
  | .inr (y, p') => match gRr x 7 p' with
    | .inl q => .inl q
    | .inr l => .inr (y :: l)
def gad5 (g : zG) (y : gSt) : zG := (gN g + 1, gL g, fup (gK g) (gN g) y.1, fup2 (fup2 (gT g) (gN g) 0 y.2.1) (gN g) 1 y.2.2.1, fup2 (fup2 (gM g) (gN g) 0 y.2.2.2.1) (gN g) 1 y.2.2.2.2, fup (gH g) (gN g) (-4), gR g, gF g, gO g, gS g, gD g)
def gads (g : zG) : List gSt → zG
  | [] => g
  | y :: l => gads (gad5 g y) l
def gSok (y : gSt) : Prop := (0 ≤ y.1 ∧ y.1 ≤ 3) ∧ (3 ≤ y.2.1 ∧ y.2.1 ≤ 9) ∧ (3 ≤ y.2.2.1 ∧ y.2.2.1 ≤ 9) ∧ (0 ≤ y.2.2.2.1 ∧ y.2.2.2.1 < y.2.1) ∧ (0 ≤ y.2.2.2.2 ∧ y.2.2.2.2 < y.2.2.1)
theorem gkd_rng (x : gTx) (p : Nat) : 0 ≤ gkd x p ∧ gkd x p ≤ 3 := by
  unfold gkd
  split
  · omega
  · split
    · omega
    · split <;> omega
theorem gRs_ok {x : gTx} {p p' : Nat} {y : gSt} (h : gRs x p = .inr (y, p')) : gSok y := by
  unfold gRs at h
  split at h
  · split at h
    · split at h
      · split at h
        · split at h
          · cases h
            refine ⟨gkd_rng _ _, ?_, ?_, ?_, ?_⟩ <;> dsimp only <;> omega
          · cases h
        · cases h
      · cases h
        refine ⟨gkd_rng _ _, ?_, ?_, ?_, ?_⟩ <;> dsimp only <;> omega
    · cases h
  · cases h
theorem gad5_wf {g : zG} (h : gWF g) (hN : gN g < 12) {y : gSt} (hy : gSok y) : gWF (gad5 g y) := by
  refine ⟨⟨hN, Nat.le_succ_of_le h.n.2⟩, fun p hp => ⟨Nat.lt_succ_of_lt (h.r hp).1, (h.r hp).2⟩, h.2.2.1, fun s hs => ?_, fun s w hs hw => ?_, fun s hs => ?_, h.2.2.2.2.2.2.1, h.2.2.2.2.2.2.2⟩
  · have hs' : s < gN g + 1 := hs
    show 0 ≤ fup (gK g) (gN g) y.1 s ∧ fup (gK g) (gN g) y.1 s ≤ 3
    unfold fup
    split
    · exact hy.1
    · exact h.k (by omega)
  · have hs' : s < gN g + 1 := hs
    have e1 : gT (gad5 g y) s w = fup2 (fup2 (gT g) (gN g) 0 y.2.1) (gN g) 1 y.2.2.1 s w := rfl
    have e2 : gM (gad5 g y) s w = fup2 (fup2 (gM g) (gN g) 0 y.2.2.2.1) (gN g) 1 y.2.2.2.2 s w := rfl
    obtain ⟨h1, h2, h3, h4, h5⟩ := hy
    rw [e1, e2]
    unfold fup2
    by_cases q : s = gN g
    · rcases (by omega : w = 0 ∨ w = 1) with rfl | rfl
      · rw [if_neg (fun z => absurd z.2 (by omega)), if_pos ⟨q, rfl⟩, if_neg (fun z => absurd z.2 (by omega)), if_pos ⟨q, rfl⟩]
        omega
      · rw [if_pos ⟨q, rfl⟩, if_pos ⟨q, rfl⟩]
        omega
    · rw [if_neg (fun z => q z.1), if_neg (fun z => q z.1), if_neg (fun z => q z.1), if_neg (fun z => q z.1)]
      exact h.t (by omega) hw
  · have hs' : s < gN g + 1 := hs
    show fup (gH g) (gN g) (-4) s = -4 ∨ fup (gH g) (gN g) (-4) s = 0 ∨ fup (gH g) (gN g) (-4) s = 1
    unfold fup
    split
    · exact Or.inl rfl
    · exact h.h (by omega)
def zTP (t : zMI) (x : gTx) : Prop := t 37 1 = (x.1 : Int) ∧ (∀ i, i < x.1 → t 38 i = x.2 i) ∧ x.1 ≤ 80 ∧ (∀ i, i < x.1 → 32 ≤ x.2 i ∧ x.2 i ≤ 126)
theorem zTP_up {t : zMI} {x : gTx} {v : Int} (h : zTP t x) : zTP (zup t 37 2 v) x := by
  refine ⟨?_, ?_, h.2.2.1, h.2.2.2⟩
  · rw [zup_n (by omega)]; exact h.1
  · intro i hi
    rw [zup_o (by omega)]; exact h.2.1 i hi
theorem zup2 (t : zMI) (b n : Nat) (v w : Int) : zup (zup t b n v) b n w = zup t b n w := by
  funext k j
  unfold zup
  by_cases h : k = b
  · rw [if_pos h]
    by_cases h2 : j = n
    · rw [if_pos h2, if_pos h, if_pos h2]
    · rw [if_neg h2, if_pos h, if_neg h2, if_pos h, if_neg h2]
  · rw [if_neg h, if_neg h, if_neg h]
theorem gby_rng {t : zMI} {x : gTx} (h : zTP t x) (p : Nat) : gby x p = -1 ∨ (32 ≤ gby x p ∧ gby x p ≤ 126) := by
  unfold gby
  split
  · rename_i q
    exact Or.inr (h.2.2.2 p q)
  · exact Or.inl rfl
section
variable {d T : Nat} {t : zMI} {g : zG} {x : gTx} {K : Int → zMI → Prop} {Kv : zMI → Prop}
theorem s_length (h : zTP t x) (k : K x.1 t) : ZX d 56 0 [(0, .ref 37)] [] t (zKi K) := by
  refine z_aload_n zi_56_0 rfl ?_
  refine z_getfield zi_56_1 rfl ?_
  show ZX d 56 2 _ [.int (zi (t 37 1))] t _
  rw [h.1]
  refine z_ireturn zi_56_2 rfl k
theorem s_addByte {b : Int} (h : zTP t x) (hl : x.1 < 80) (k : Kv (zup (zup t 38 x.1 b) 37 1 ((x.1 : Int) + 1))) : ZX (d + 1) 57 0 [(0, .ref 37), (1, .int (zi b))] [] t (zKv Kv) := by
  refine z_aload_n zi_57_0 rfl ?_
  refine z_getfield zi_57_1 rfl ?_
  refine z_aload_n zi_57_2 rfl ?_
  refine z_getfield zi_57_3 rfl ?_
  refine z_top h.1 ?_
  refine z_iload_n zi_57_4 rfl ?_
  refine z_cs3v zi_57_5 rfl rfl rfl ⟨by decide, rfl, Nat.le_of_ble_eq_true rfl, Nat.le_of_ble_eq_true rfl⟩ (s_put (N := 80) (n := x.1) rfl (by omega) rfl hl ?_)
  refine z_aload_n zi_57_6 rfl ?_
  refine z_dup zi_57_7 rfl ?_
  refine z_getfield zi_57_8 rfl ?_
  refine z_top (b := (x.1 : Int)) (by rw [zup_o (by omega)]; exact h.1) ?_
  refine z_iconst zi_57_9 ?_
  refine z_iadd zi_57_10 ?_
  refine z_putfield zi_57_11 rfl (Or.inl rfl) ?_
  refine z_vreturn zi_57_12 rfl k
theorem s_empty (k : Kv (zup t 37 1 0)) : ZX d 58 0 [(0, .ref 37)] [] t (zKv Kv) := by
  refine z_aload_n zi_58_0 rfl ?_
  refine z_iconst zi_58_1 ?_
  refine z_putfield zi_58_2 rfl (Or.inl rfl) ?_
  refine z_vreturn zi_58_3 rfl k
theorem s_stepOn {p : Nat} (h : zTP t x) (hp : t 37 2 = (p : Int) - 1) (hl : p ≤ x.1) (k : Kv (zup t 37 2 (gsk x p))) : ZX (d + 1) 60 0 [(0, .ref 37)] [] t (zKv Kv) := by
  have loop : ∀ (n p : Nat) (t' : zMI), x.1 - p = n → p ≤ x.1 → zTP t' x → t' 37 2 = (p : Int) - 1 → Kv (zup t' 37 2 (gsk x p)) → ZX (d + 1) 60 0 [(0, .ref 37)] [] t' (zKv Kv) := by
    intro n
    induction n with
    | zero =>
      intro p t' hn hl h hp k
      have e : gsk x p = p := gsk_end (by omega)
      rw [e] at k
      have h' := zTP_up (v := (p : Int)) h
      refine z_aload_n zi_60_0 rfl ?_
      refine z_dup zi_60_1 rfl ?_
      refine z_getfield zi_60_2 rfl ?_
      refine z_top hp ?_
      refine z_iconst zi_60_3 ?_
      refine z_iadd zi_60_4 ?_
      refine z_top (b := (p : Int)) (by omega) ?_
      refine z_putfield zi_60_5 rfl (Or.inl rfl) ?_
      refine z_aload_n zi_60_6 rfl ?_
      refine z_getfield zi_60_7 rfl ?_
      refine z_top (b := (p : Int)) zup_s ?_
      refine z_aload_n zi_60_8 rfl ?_
      refine z_getfield zi_60_9 rfl ?_
      refine z_top h'.1 ?_
      have h80 := h.2.2.1
      refine z_icmp_ge_t zi_60_10 (by omega) (by omega) ?_
      refine z_vreturn zi_60_18 rfl k
    | succ n ih =>
      intro p t' hn hl h hp k
      have h' := zTP_up (v := (p : Int)) h
      have h80 := h.2.2.1
      have hc := h.2.2.2 p (by omega)
      rw [gsk_eq (by omega)] at k
      refine z_aload_n zi_60_0 rfl ?_
      refine z_dup zi_60_1 rfl ?_
      refine z_getfield zi_60_2 rfl ?_
      refine z_top hp ?_
      refine z_iconst zi_60_3 ?_
      refine z_iadd zi_60_4 ?_
      refine z_top (b := (p : Int)) (by omega) ?_
      refine z_putfield zi_60_5 rfl (Or.inl rfl) ?_
      refine z_aload_n zi_60_6 rfl ?_
      refine z_getfield zi_60_7 rfl ?_
      refine z_top (b := (p : Int)) zup_s ?_
      refine z_aload_n zi_60_8 rfl ?_
      refine z_getfield zi_60_9 rfl ?_
      refine z_top h'.1 ?_
      refine z_icmp_ge_f zi_60_10 (by omega) (by omega) ?_
      refine z_aload_n zi_60_11 rfl ?_
      refine z_getfield zi_60_12 rfl ?_
      refine z_aload_n zi_60_13 rfl ?_
      refine z_getfield zi_60_14 rfl ?_
      refine z_top (b := (p : Int)) zup_s ?_
      refine z_cs2i zi_60_15 rfl rfl ⟨by decide, rfl, Nat.le_of_ble_eq_true rfl, Nat.le_of_ble_eq_true rfl⟩ (s_at (N := 80) (n := p) rfl (by omega) rfl (by omega) ?_)
      refine z_top (h'.2.1 p (by omega)) ?_
      refine z_bipush zi_60_16 (by decide) ?_
      refine z_icmp_eq zi_60_17 (by omega) (fun c => ?_) (fun c => ?_)
      · rw [if_pos c] at k
        exact ih (p + 1) _ (by omega) (by omega) h' (by rw [zup_s]; omega) (by rw [zup2]; exact k)
      · rw [if_neg c] at k
        refine z_vreturn zi_60_18 rfl k
  exact loop _ p t rfl hl h hp k
theorem s_readDigit {p : Nat} {lo hi : Int} (h : zTP t x) (hp : t 37 2 = (p : Int)) (hl : p ≤ x.1) (hlo : 0 ≤ lo ∧ lo < 10) (hhi : -1 ≤ hi ∧ hi < 10) (kt : lo ≤ gby x p - 48 ∧ gby x p - 48 ≤ hi → K (gby x p - 48) (zup t 37 2 (gsk x (p + 1)))) (kf : ¬ (lo ≤ gby x p - 48 ∧ gby x p - 48 ≤ hi) → K (-4) t) : ZX (d + 2) 64 0 [(0, .ref 37), (1, .int (zi lo)), (2, .int (zi hi))] [] t (zKi K) := by
  have h80 := h.2.2.1
  refine z_aload_n zi_64_0 rfl ?_
  refine z_getfield zi_64_1 rfl ?_
  refine z_top hp ?_
  refine z_aload_n zi_64_2 rfl ?_
  refine z_getfield zi_64_3 rfl ?_
  refine z_top h.1 ?_
  refine z_icmp_ge zi_64_4 (by omega) (fun c => ?_) (fun c => ?_)
  · have e : gby x p = -1 := by unfold gby; rw [if_neg (by omega)]
    rw [e] at kf
    refine z_bipush zi_64_13 (by decide) ?_
    refine z_istore_n zi_64_14 rfl ?_
    refine z_iload_n zi_64_15 rfl ?_
    refine z_iload_n zi_64_16 rfl ?_
    refine z_iload_n zi_64_17 rfl ?_
    refine z_cs3i zi_64_18 rfl rfl rfl ⟨by decide, rfl, Nat.le_of_ble_eq_true rfl, Nat.le_of_ble_eq_true rfl⟩ (s_within (by omega) (by omega) (by omega) (fun q => ?_) (fun q => ?_))
    · omega
    · refine z_if_ne_f zi_64_19 (by omega) (by omega) ?_
      refine z_bipush zi_64_20 (by decide) ?_
      refine z_ireturn zi_64_21 rfl (kf (by omega))
  · have e : gby x p = x.2 p := by unfold gby; rw [if_pos (by omega)]
    have hc := h.2.2.2 p (by omega)
    rw [e] at kt kf
    refine z_aload_n zi_64_5 rfl ?_
    refine z_getfield zi_64_6 rfl ?_
    refine z_aload_n zi_64_7 rfl ?_
    refine z_getfield zi_64_8 rfl ?_
    refine z_top hp ?_
    refine z_cs2i zi_64_9 rfl rfl ⟨by decide, rfl, Nat.le_of_ble_eq_true rfl, Nat.le_of_ble_eq_true rfl⟩ (s_at (N := 80) (n := p) rfl (by omega) rfl (by omega) ?_)
    refine z_top (h.2.1 p (by omega)) ?_
    refine z_bipush zi_64_10 (by decide) ?_
    refine z_isub zi_64_11 ?_
    refine z_goto zi_64_12 ?_
    refine z_istore_n zi_64_14 rfl ?_
    refine z_iload_n zi_64_15 rfl ?_
    refine z_iload_n zi_64_16 rfl ?_
    refine z_iload_n zi_64_17 rfl ?_
    refine z_cs3i zi_64_18 rfl rfl rfl ⟨by decide, rfl, Nat.le_of_ble_eq_true rfl, Nat.le_of_ble_eq_true rfl⟩ (s_within (by omega) (by omega) (by omega) (fun q => ?_) (fun q => ?_))
    · refine z_if_ne_t zi_64_19 (by omega) (by omega) ?_
      refine z_aload_n zi_64_22 rfl ?_
      refine z_cv0v zi_64_23  rfl ⟨rfl, Nat.le_of_ble_eq_true rfl, Nat.le_of_ble_eq_true rfl⟩ (s_stepOn (p := p + 1) h (by omega) (by omega) ?_)
      refine z_iload_n zi_64_24 rfl ?_
      refine z_ireturn zi_64_25 rfl (kt q)
    · refine z_if_ne_f zi_64_19 (by omega) (by omega) ?_
      refine z_bipush zi_64_20 (by decide) ?_
      refine z_ireturn zi_64_21 rfl (kf q)
theorem s_readSign {p : Nat} {ch : Int} (h : zTP t x) (hp : t 37 2 = (p : Int)) (hl : p ≤ x.1) (hch : 0 ≤ ch ∧ ch < 1000) (kt : gby x p = ch → K 1 (zup t 37 2 (gsk x (p + 1)))) (kf : ¬ gby x p = ch → K 0 t) : ZX (d + 2) 65 0 [(0, .ref 37), (1, .int (zi ch))] [] t (zKi K) := by
  have h80 := h.2.2.1
  refine z_aload_n zi_65_0 rfl ?_
  refine z_getfield zi_65_1 rfl ?_
  refine z_top hp ?_
  refine z_aload_n zi_65_2 rfl ?_
  refine z_getfield zi_65_3 rfl ?_
  refine z_top h.1 ?_
  refine z_icmp_ge zi_65_4 (by omega) (fun c => ?_) (fun c => ?_)
  · have e : gby x p = -1 := by unfold gby; rw [if_neg (by omega)]
    rw [e] at kf
    refine z_iconst zi_65_12 ?_
    refine z_zreturn zi_65_13 rfl (by omega) (kf (by omega))
  · have e : gby x p = x.2 p := by unfold gby; rw [if_pos (by omega)]
    have hc := h.2.2.2 p (by omega)
    rw [e] at kt kf
    refine z_aload_n zi_65_5 rfl ?_
    refine z_getfield zi_65_6 rfl ?_
    refine z_aload_n zi_65_7 rfl ?_
    refine z_getfield zi_65_8 rfl ?_
    refine z_top hp ?_
    refine z_cs2i zi_65_9 rfl rfl ⟨by decide, rfl, Nat.le_of_ble_eq_true rfl, Nat.le_of_ble_eq_true rfl⟩ (s_at (N := 80) (n := p) rfl (by omega) rfl (by omega) ?_)
    refine z_top (h.2.1 p (by omega)) ?_
    refine z_iload_n zi_65_10 rfl ?_
    refine z_icmp_eq zi_65_11 (by omega) (fun c2 => ?_) (fun c2 => ?_)
    · refine z_aload_n zi_65_14 rfl ?_
      refine z_cv0v zi_65_15  rfl ⟨rfl, Nat.le_of_ble_eq_true rfl, Nat.le_of_ble_eq_true rfl⟩ (s_stepOn (p := p + 1) h (by omega) (by omega) ?_)
      refine z_iconst zi_65_16 ?_
      refine z_zreturn zi_65_17 rfl (by omega) (kt c2)
    · refine z_iconst zi_65_12 ?_
      refine z_zreturn zi_65_13 rfl (by omega) (kf c2)
theorem s_readKind {p : Nat} (h : zTP t x) (hp : t 37 2 = (p : Int)) (hl : p ≤ x.1) (k : K (gkd x p) (zup t 37 2 (gkp x p))) : ZX (d + 3) 63 0 [(0, .ref 37)] [] t (zKi K) := by
  unfold gkd gkp at k
  refine z_aload_n zi_63_0 rfl ?_
  refine z_bipush zi_63_1 (by decide) ?_
  refine z_cv1i zi_63_2 rfl rfl ⟨rfl, Nat.le_of_ble_eq_true rfl, Nat.le_of_ble_eq_true rfl⟩ (s_readSign h hp hl (by omega) (fun q => ?_) (fun q => ?_))
  · rw [if_pos q, if_pos (Or.inl q)] at k
    refine z_if_eq_f zi_63_3 (by omega) (by omega) ?_
    refine z_iconst zi_63_4 ?_
    refine z_goto zi_63_5 ?_
    refine z_ireturn zi_63_19 rfl k
  · rw [if_neg q] at k
    refine z_if_eq_t zi_63_3 (by omega) (by omega) ?_
    refine z_aload_n zi_63_6 rfl ?_
    refine z_bipush zi_63_7 (by decide) ?_
    refine z_cv1i zi_63_8 rfl rfl ⟨rfl, Nat.le_of_ble_eq_true rfl, Nat.le_of_ble_eq_true rfl⟩ (s_readSign h hp hl (by omega) (fun q2 => ?_) (fun q2 => ?_))
    · rw [if_pos q2, if_pos (Or.inr (Or.inl q2))] at k
      refine z_if_eq_f zi_63_9 (by omega) (by omega) ?_
      refine z_iconst zi_63_10 ?_
      refine z_goto zi_63_11 ?_
      refine z_ireturn zi_63_19 rfl k
    · rw [if_neg q2] at k
      refine z_if_eq_t zi_63_9 (by omega) (by omega) ?_
      refine z_aload_n zi_63_12 rfl ?_
      refine z_bipush zi_63_13 (by decide) ?_
      refine z_cv1i zi_63_14 rfl rfl ⟨rfl, Nat.le_of_ble_eq_true rfl, Nat.le_of_ble_eq_true rfl⟩ (s_readSign h hp hl (by omega) (fun q3 => ?_) (fun q3 => ?_))
      · rw [if_pos q3, if_pos (Or.inr (Or.inr q3))] at k
        refine z_if_eq_f zi_63_15 (by omega) (by omega) ?_
        refine z_iconst zi_63_16 ?_
        refine z_goto zi_63_17 ?_
        refine z_ireturn zi_63_19 rfl k
      · rw [if_neg q3, if_neg (by omega)] at k
        refine z_if_eq_t zi_63_15 (by omega) (by omega) ?_
        refine z_iconst zi_63_18 ?_
        have e : zup t 37 2 (p : Int) = t := by
          funext k j
          unfold zup
          by_cases z : k = 37
          · rw [if_pos z]
            by_cases z2 : j = 2
            · rw [if_pos z2, z, z2]; exact hp.symm
            · rw [if_neg z2]
          · rw [if_neg z]
        rw [e] at k
        refine z_ireturn zi_63_19 rfl k
end
