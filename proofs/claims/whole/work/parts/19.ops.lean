/-! what the calls answer and what becomes of the game, as functions of the game -/
def oStone (g : zG) (kd a b : Int) : Int × zG := if (0 ≤ kd ∧ kd ≤ 3) ∧ (3 ≤ a ∧ a ≤ 9) ∧ (3 ≤ b ∧ b ≤ 9) then (if gN g = 12 then (-3, g) else ((gN g : Int), gad5 g (kd, a, b, 0, 0))) else (-1, g)
def oMark (g : zG) (s w v : Int) : Int × zG := if (0 ≤ s ∧ s < gN g) ∧ (0 ≤ w ∧ w ≤ 1) ∧ (0 ≤ v ∧ v ≤ gT g s.toNat w.toNat - 1) then (gM g s.toNat w.toNat, gsM g (fup2 (gM g) s.toNat w.toNat v)) else (-1, g)
def oTold (g : zG) (s what : Int) : Int := if (0 ≤ s ∧ s < gN g) ∧ (0 ≤ what ∧ what ≤ 7) then
    (if what = 0 then gK g s.toNat else if what < 3 then gT g s.toNat (what - 1).toNat else if what < 5 then gM g s.toNat (what - 3).toNat else if what = 5 then gPi g s.toNat else if what = 6 then gFi g s.toNat else gH g s.toNat) else -1
def oDeal (g : zG) (s h : Int) : Int × zG := if (0 ≤ s ∧ s < gN g) ∧ (-1 ≤ h ∧ h ≤ 1) then (if 0 ≤ gPi g s.toNat then (-2, g) else (gH g s.toNat, gsH g (fup (gH g) s.toNat (if h < 0 then -4 else h)))) else (-1, g)
def oCount (g : zG) (what : Int) : Int := if 0 ≤ what ∧ what ≤ 7 then
    (if what = 0 then (gN g : Int) else if what = 1 then (gL g : Int) else if what < 4 then gcnt g (what - 2) (gN g) else if what < 6 then gS g (what - 4).toNat else if what = 6 then gup g (gL g) else gO g) else -1
def oMay (g : zG) (s f : Int) : Int := if (0 ≤ s ∧ s < gN g) ∧ (0 ≤ f ∧ f ≤ 1) then (if 0 ≤ gPi g s.toNat ∨ gO g = 1 then -2 else if gfit g s.toNat f.toNat then 1 else 0) else -1
def oLay (g : zG) (s f : Int) : Int × zG := if oMay g s f = 1 then (gsc (gput g s.toNat f.toNat), glay g s.toNat f.toNat) else if oMay g s f = 0 then (-4, g) else (oMay g s f, g)
def oTake (g : zG) (n : Int) : Int × zG := if 1 ≤ n ∧ n ≤ 12 then (if (gL g : Int) < n then (-2, g) else ((gL g : Int) - n, gtake g n.toNat)) else (-1, g)
abbrev gcan (g : zG) : Prop := 3 ≤ gL g ∧ -1 ≤ gT g (gR g 0) (gF g 0) - gT g (gR g (gL g - 1)) (1 - gF g (gL g - 1)) ∧ gT g (gR g 0) (gF g 0) - gT g (gR g (gL g - 1)) (1 - gF g (gL g - 1)) ≤ 1
def oShut (g : zG) (is : Int) : Int × zG := if is = 1 ∧ ¬ gcan g then (-2, g) else (gO g, gsO g is)
def oLocked (g : zG) : Int := if gL g = 0 then -4 else gLk g (gB g (gL g - 1))
def oCrank (g : zG) (b : Int) : Int × zG := if -99 ≤ b ∧ b ≤ 99 then (if gL g = 0 then (-4, g) else if b ≠ 0 ∧ gLk g (if b < 0 then -1 else 1) ≠ 0 then (-2, g) else (gup (gturn g b) (gL g), gturn g b)) else (-1, g)
def oAround (g : zG) : Int := if gL g = 0 then -4 else if gLk g 1 ≠ 0 then -2 else (gar g (gL g) : Int)
def oUp (g : zG) (v : Int) : Prop := if gL g = 0 then v = -4 else if gLk g 1 ≠ 0 then v = -2 else (∃ x : Nat, v = x ∧ gUp g (2 * gL g) x ∧ ∀ y, y < x → ¬ gUp g (2 * gL g) y) ∨ (v = -4 ∧ ∀ x, ¬ gUp g (2 * gL g) x)
def oPoint (g : zG) (s mk : Int) : Int := if 0 ≤ s ∧ s < gN g then (match gP g s.toNat with
    | none => -1
    | some p => if 0 ≤ mk ∧ mk ≤ gT g s.toNat (1 - gF g p) - 1 then (if gLk g 1 ≠ 0 then -2 else (gB g p * (mk - gM g s.toNat (1 - gF g p))) % gT g s.toNat (1 - gF g p)) else -1) else -1
def oSeed (g : zG) (v : Int) : Int × zG := if v < 0 then (-1, g) else (gD g, gsD g v)
def gMt : Nat → Nat → zG → Int → Int → zG → Prop
  | 0, _, g, c, v, g' => v = c ∧ g' = g
  | n + 1, i, g, c, v, g' => (gcl g ((i % 2 : Nat) : Int) 24 = 0 ∧ gMt n (i + 1) g c v g') ∨
    (∃ q, q < 24 ∧ 0 < gcl g ((i % 2 : Nat) : Int) 24 ∧ glp g ((i % 2 : Nat) : Int) q ∧ (gcl g ((i % 2 : Nat) : Int) q : Int) = (gdr g / 65536) % (gcl g ((i % 2 : Nat) : Int) 24 : Int) ∧ gMt n (i + 1) (glay (gsD g (gdr g)) (q / 2) (q % 2)) (c + 1) v g')
def oMatch (g : zG) (n v : Int) (g' : zG) : Prop := if 1 ≤ n ∧ n ≤ 24 then (if gO g = 1 then v = -2 ∧ g' = g else gMt n.toNat 0 g 0 v g') else v = -1 ∧ g' = g
theorem gMt_det : ∀ (n i : Nat) (g : zG) (c v w : Int) (g' g'' : zG), gMt n i g c v g' → gMt n i g c w g'' → v = w ∧ g' = g''
  | 0, _, _, _, _, _, _, _, h, h' => ⟨h.1.trans h'.1.symm, h.2.trans h'.2.symm⟩
  | n + 1, i, g, c, v, w, g', g'', h, h' => by
    rcases h with ⟨a1, a2⟩ | ⟨q, a0, a1, a2, a3, a4⟩ <;> rcases h' with ⟨b1, b2⟩ | ⟨r, b0, b1, b2, b3, b4⟩
    · exact gMt_det n _ _ _ _ _ _ _ a2 b2
    · omega
    · omega
    · have e : q = r := gcl_inj a2 b2 (by omega)
      subst e
      exact gMt_det n _ _ _ _ _ _ _ a4 b4
theorem oUp_det {g : zG} {v w : Int} (h : oUp g v) (h' : oUp g w) : v = w := by
  unfold oUp at h h'
  split at h
  · rw [if_pos (by assumption)] at h'; omega
  · rename_i c1
    rw [if_neg c1] at h'
    split at h
    · rename_i c2
      rw [if_pos c2] at h'; omega
    · rename_i c2
      rw [if_neg c2] at h'
      rcases h with ⟨x, e1, e2, e3⟩ | ⟨e1, e2⟩ <;> rcases h' with ⟨y, f1, f2, f3⟩ | ⟨f1, f2⟩
      · rcases Nat.lt_trichotomy x y with q | q | q
        · exact absurd e2 (f3 x q)
        · rw [e1, f1, q]
        · exact absurd f2 (e3 y q)
      · exact absurd e2 (f2 x)
      · exact absurd f2 (e2 y)
      · omega
theorem oMatch_det {g : zG} {n v w : Int} {g' g'' : zG} (h : oMatch g n v g') (h' : oMatch g n w g'') : v = w ∧ g' = g'' := by
  unfold oMatch at h h'
  split at h
  · rename_i c1
    rw [if_pos c1] at h'
    split at h
    · rename_i c2
      rw [if_pos c2] at h'
      exact ⟨h.1.trans h'.1.symm, h.2.trans h'.2.symm⟩
    · rename_i c2
      rw [if_neg c2] at h'
      exact gMt_det _ _ _ _ _ _ _ _ h h'
  · rename_i c1
    rw [if_neg c1] at h'
    exact ⟨h.1.trans h'.1.symm, h.2.trans h'.2.symm⟩
/-! games stay games -/
def gOK (g : zG) : Prop := gWF g ∧ gWH g
theorem gsM_wf {g : zG} (h : gWF g) {s w : Nat} {v : Int} (hv : s < gN g → w < 2 → 0 ≤ v ∧ v < gT g s w) : gWF (gsM g (fup2 (gM g) s w v)) := by
  refine ⟨h.1, h.2.1, h.2.2.1, h.2.2.2.1, fun s' w' hs hw2 => ⟨(h.t hs hw2).1, (h.t hs hw2).2.1, ?_⟩, h.2.2.2.2.2.1, h.2.2.2.2.2.2.1, h.2.2.2.2.2.2.2⟩
  show 0 ≤ fup2 (gM g) s w v s' w' ∧ fup2 (gM g) s w v s' w' < gT g s' w'
  unfold fup2
  split
  · rename_i z
    obtain ⟨rfl, rfl⟩ := z
    exact hv hs hw2
  · exact ⟨(h.t hs hw2).2.2.1, (h.t hs hw2).2.2.2⟩
theorem gPi_none {g : zG} {s : Nat} (h : ¬ 0 ≤ gPi g s) : gP g s = none := by
  unfold gPi at h
  cases e : gP g s with
  | none => rfl
  | some p => rw [e] at h; exact absurd (Int.natCast_nonneg p) h
theorem gPi_some {g : zG} {s : Nat} (h : 0 ≤ gPi g s) : ∃ p, gP g s = some p ∧ gPi g s = p := by
  unfold gPi at h ⊢
  cases e : gP g s with
  | none => rw [e] at h; dsimp only at h; omega
  | some p => exact ⟨p, rfl, rfl⟩
theorem oStone_ok {g : zG} (h : gOK g) (kd a b : Int) : gOK (oStone g kd a b).2 := by
  unfold oStone
  split
  · rename_i c
    split
    · exact h
    · rename_i c2
      have hn := h.1.n
      refine ⟨gad5_wf h.1 (by omega) ⟨c.1, c.2.1, c.2.2, by dsimp only; omega, by dsimp only; omega⟩, fun p hp => ?_⟩
      have hr := h.1.r (p := p) hp
      show fup (gH g) (gN g) (-4) (gR g p) = -4
      unfold fup
      split
      · rfl
      · exact h.2 p hp
  · exact h
theorem oMark_ok {g : zG} (h : gOK g) (s w v : Int) : gOK (oMark g s w v).2 := by
  unfold oMark
  split
  · rename_i c
    refine ⟨gsM_wf h.1 (fun _ _ => by omega), h.2⟩
  · exact h
theorem oDeal_ok {g : zG} (h : gOK g) (s d : Int) : gOK (oDeal g s d).2 := by
  unfold oDeal
  split
  · rename_i c
    split
    · exact h
    · rename_i c2
      have hf := gpl_none (gPi_none c2)
      refine ⟨gsH_wf h.1 (fun s' hs' => ?_), fun p hp => ?_⟩
      · unfold fup
        split
        · split <;> omega
        · exact h.1.h hs'
      · show fup (gH g) s.toNat _ (gR g p) = -4
        unfold fup
        rw [if_neg (hf p hp)]
        exact h.2 p hp
  · exact h
theorem oMay_1 {g : zG} {s f : Int} (h : oMay g s f = 1) : (0 ≤ s ∧ s < gN g) ∧ (0 ≤ f ∧ f ≤ 1) ∧ ¬ 0 ≤ gPi g s.toNat ∧ ¬ gO g = 1 ∧ gfit g s.toNat f.toNat := by
  unfold oMay at h
  split at h
  · rename_i c
    split at h
    · omega
    · rename_i c2
      split at h
      · rename_i c3
        exact ⟨c.1, c.2, fun z => c2 (Or.inl z), fun z => c2 (Or.inr z), c3⟩
      · omega
  · omega
theorem oLay_ok {g : zG} (h : gOK g) (s f : Int) : gOK (oLay g s f).2 := by
  unfold oLay
  split
  · rename_i c
    obtain ⟨c1, c2, c3, c4, -⟩ := oMay_1 c
    have ho := h.1.o
    exact ⟨glay_wf h.1 (by omega) (by omega) (gPi_none c3) (by omega), glay_wh h.2⟩
  · split <;> exact h
theorem gtake_ok {g : zG} (h : gOK g) (n : Nat) : gOK (gtake g n) := by
  have hn := h.1.n
  refine ⟨⟨⟨hn.1, by show gL g - n ≤ gN g; omega⟩, fun p hp => h.1.r (by have : p < gL g - n := hp; omega), fun p q hp hq => h.1.i p q (by have : p < gL g - n := hp; omega) (by have : q < gL g - n := hq; omega), h.1.2.2.2.1, h.1.2.2.2.2.1, h.1.2.2.2.2.2.1, ⟨Or.inl rfl, fun e => ?_⟩, h.1.2.2.2.2.2.2.2⟩, fun p hp => h.2 p (by have : p < gL g - n := hp; omega)⟩
  have : (0 : Int) = 1 := e
  omega
theorem oTake_ok {g : zG} (h : gOK g) (n : Int) : gOK (oTake g n).2 := by
  unfold oTake
  split
  · split
    · exact h
    · exact gtake_ok h _
  · exact h
theorem oShut_ok {g : zG} (h : gOK g) {is : Int} (hi : is = 0 ∨ is = 1) : gOK (oShut g is).2 := by
  unfold oShut
  split
  · exact h
  · rename_i c
    refine ⟨⟨h.1.1, h.1.2.1, h.1.2.2.1, h.1.2.2.2.1, h.1.2.2.2.2.1, h.1.2.2.2.2.2.1, ⟨hi, fun e => ?_⟩, h.1.2.2.2.2.2.2.2⟩, h.2⟩
    have e' : is = 1 := e
    by_cases z : gcan g
    · exact z.1
    · exact absurd ⟨e', z⟩ c
theorem oCrank_ok {g : zG} (h : gOK g) (b : Int) : gOK (oCrank g b).2 := by
  unfold oCrank
  by_cases c : -99 ≤ b ∧ b ≤ 99
  · rw [if_pos c]
    by_cases c2 : gL g = 0
    · rw [if_pos c2]; exact h
    · rw [if_neg c2]
      by_cases c3 : b ≠ 0 ∧ gLk g (if b < 0 then -1 else 1) ≠ 0
      · rw [if_pos c3]; exact h
      · rw [if_neg c3]; exact ⟨gturn_wf h.1 b, h.2⟩
  · rw [if_neg c]; exact h
theorem oSeed_ok {g : zG} (h : gOK g) {v : Int} (hv : -2147483648 ≤ v ∧ v < 2147483648) : gOK (oSeed g v).2 := by
  unfold oSeed
  split
  · exact h
  · exact ⟨gsD_wf h.1 (by omega), h.2⟩
theorem gMt_ok : ∀ (n i : Nat) (g : zG) (c v : Int) (g' : zG), gOK g → gO g = 0 → gMt n i g c v g' → gOK g'
  | 0, _, _, _, _, _, h, _, e => by rw [e.2]; exact h
  | n + 1, i, g, c, v, g', h, ho, e => by
    rcases e with ⟨a1, a2⟩ | ⟨q, a0, a1, a2, a3, a4⟩
    · exact gMt_ok n _ _ _ _ _ h ho a2
    · have hd0 : ((i % 2 : Nat) : Int) = 0 ∨ ((i % 2 : Nat) : Int) = 1 := by omega
      have hw1 := gsD_wf h.1 (gdr_rng g)
      refine gMt_ok n _ _ _ _ _ ⟨glay_wf hw1 a2.1 (by omega) (glp_free h.2 hd0 a2) ho, glay_wh (g := gsD g (gdr g)) h.2⟩ ?_ a4
      rw [glay_O]
      exact ho
theorem oMatch_ok {g g' : zG} (h : gOK g) {n v : Int} (e : oMatch g n v g') : gOK g' := by
  unfold oMatch at e
  have ho := h.1.o
  split at e
  · split at e
    · rw [e.2]; exact h
    · exact gMt_ok _ _ _ _ _ _ h (by omega) e
  · rw [e.2]; exact h
theorem gclr_wf {g : zG} (h : gWF g) : gWF (gclr g) :=
  ⟨⟨Nat.zero_le _, Nat.le_refl _⟩, fun p hp => absurd hp (Nat.not_lt_zero _), fun p q hp => absurd hp (Nat.not_lt_zero _), fun s hs => absurd hs (Nat.not_lt_zero _), fun s w hs => absurd hs (Nat.not_lt_zero _), fun s hs => absurd hs (Nat.not_lt_zero _), ⟨Or.inl rfl, fun e => by have : (0 : Int) = 1 := e; omega⟩, h.2.2.2.2.2.2.2⟩
theorem gads_wf : ∀ (l : List gSt) (g : zG), gWF g → gN g + l.length ≤ 12 → (∀ y ∈ l, gSok y) → gWF (gads g l)
  | [], _, h, _, _ => h
  | y :: l, g, h, hn, hy => by
    have hn' : gN g + (l.length + 1) ≤ 12 := hn
    exact gads_wf l _ (gad5_wf h (by omega) (hy y List.mem_cons_self)) (by show gN g + 1 + l.length ≤ 12; omega) (fun z hz => hy z (List.mem_cons_of_mem _ hz))
theorem gads_L : ∀ (l : List gSt) (g : zG), gL (gads g l) = gL g
  | [], _ => rfl
  | y :: l, g => gads_L l (gad5 g y)
theorem gRr_ok {x : gTx} : ∀ (n p : Nat) (l : List gSt), gRr x n p = .inr l → l.length ≤ n ∧ ∀ y ∈ l, gSok y
  | 0, p, l, h => by
    unfold gRr at h
    split at h
    · cases h; exact ⟨Nat.le_refl _, fun y hy => by cases hy⟩
    · cases h
  | n + 1, p, l, h => by
    unfold gRr at h
    split at h
    · cases h; exact ⟨Nat.zero_le _, fun y hy => by cases hy⟩
    · split at h
      · split at h
        · cases h
        · rename_i y p' e
          split at h
          · cases h
          · rename_i l' e'
            cases h
            obtain ⟨h1, h2⟩ := gRr_ok n p' l' e'
            refine ⟨Nat.succ_le_succ h1, fun z hz => ?_⟩
            rcases List.mem_cons.mp hz with rfl | hz
            · exact gRs_ok e
            · exact h2 z hz
      · cases h
theorem gRx_ok {x : gTx} {l : List gSt} (h : gRx x = .inr l) : (0 < l.length ∧ l.length ≤ 8) ∧ ∀ y ∈ l, gSok y := by
  unfold gRx at h
  split at h
  · cases h
  · rename_i y p' e
    split at h
    · cases h
    · rename_i l' e'
      cases h
      obtain ⟨h1, h2⟩ := gRr_ok 7 p' l' e'
      refine ⟨⟨Nat.succ_pos _, Nat.succ_le_succ h1⟩, fun z hz => ?_⟩
      rcases List.mem_cons.mp hz with rfl | hz
      · exact gRs_ok e
      · exact h2 z hz
