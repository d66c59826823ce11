/-! a game, as numbers: how many stones, how many lie, kinds, teeth, marks, hands, the row's stones and fronts, ring, scores, the draw -/
abbrev zG := Nat × Nat × (Nat → Int) × (Nat → Nat → Int) × (Nat → Nat → Int) × (Nat → Int) × (Nat → Nat) × (Nat → Nat) × Int × (Nat → Int) × Int
def gN (g : zG) : Nat := g.1
def gL (g : zG) : Nat := g.2.1
def gK (g : zG) : Nat → Int := g.2.2.1
def gT (g : zG) : Nat → Nat → Int := g.2.2.2.1
def gM (g : zG) : Nat → Nat → Int := g.2.2.2.2.1
def gH (g : zG) : Nat → Int := g.2.2.2.2.2.1
def gR (g : zG) : Nat → Nat := g.2.2.2.2.2.2.1
def gF (g : zG) : Nat → Nat := g.2.2.2.2.2.2.2.1
def gO (g : zG) : Int := g.2.2.2.2.2.2.2.2.1
def gS (g : zG) : Nat → Int := g.2.2.2.2.2.2.2.2.2.1
def gD (g : zG) : Int := g.2.2.2.2.2.2.2.2.2.2
def gsM (g : zG) (m : Nat → Nat → Int) : zG := (gN g, gL g, gK g, gT g, m, gH g, gR g, gF g, gO g, gS g, gD g)
def gsH (g : zG) (h : Nat → Int) : zG := (gN g, gL g, gK g, gT g, gM g, h, gR g, gF g, gO g, gS g, gD g)
def gsO (g : zG) (o : Int) : zG := (gN g, gL g, gK g, gT g, gM g, gH g, gR g, gF g, o, gS g, gD g)
def gsS (g : zG) (s : Nat → Int) : zG := (gN g, gL g, gK g, gT g, gM g, gH g, gR g, gF g, gO g, s, gD g)
def gsD (g : zG) (d : Int) : zG := (gN g, gL g, gK g, gT g, gM g, gH g, gR g, gF g, gO g, gS g, d)
def fup (f : Nat → Int) (k : Nat) (v : Int) : Nat → Int := fun j => if j = k then v else f j
def fup2 (f : Nat → Nat → Int) (k w : Nat) (v : Int) : Nat → Nat → Int := fun j u => if j = k ∧ u = w then v else f j u
def fupN (f : Nat → Nat) (k v : Nat) : Nat → Nat := fun j => if j = k then v else f j
/-- the last place of a row that a stone has -/
def gpl (R : Nat → Nat) : Nat → Nat → Option Nat
  | 0, _ => none
  | n + 1, s => if R n = s then some n else gpl R n s
def gP (g : zG) (s : Nat) : Option Nat := gpl (gR g) (gL g) s
def gPi (g : zG) (s : Nat) : Int := match gP g s with
  | some p => (p : Int)
  | none => -4
def gFi (g : zG) (s : Nat) : Int := match gP g s with
  | some p => (gF g p : Int)
  | none => -4
theorem gpl_some {R : Nat → Nat} {s p : Nat} : ∀ {n : Nat}, gpl R n s = some p → p < n ∧ R p = s
  | 0, h => by cases h
  | n + 1, h => by
    unfold gpl at h
    split at h
    · rename_i e
      cases h
      exact ⟨by omega, e⟩
    · have := gpl_some h
      exact ⟨by omega, this.2⟩
theorem gpl_none {R : Nat → Nat} {s : Nat} : ∀ {n : Nat}, gpl R n s = none → ∀ p, p < n → R p ≠ s
  | 0, _, p, hp => by omega
  | n + 1, h, p, hp => by
    unfold gpl at h
    split at h
    · cases h
    · rename_i e
      by_cases hpn : p = n
      · rw [hpn]; exact e
      · exact gpl_none h p (by omega)
theorem gpl_of_none {R : Nat → Nat} {s n : Nat} (h : ∀ p, p < n → R p ≠ s) : gpl R n s = none := by
  cases e : gpl R n s with
  | none => rfl
  | some p => exact absurd (gpl_some e).2 (h p (gpl_some e).1)
theorem gpl_at {R : Nat → Nat} {n p : Nat} (hi : ∀ p q, p < n → q < n → R p = R q → p = q) (hp : p < n) : gpl R n (R p) = some p := by
  cases e : gpl R n (R p) with
  | none => exact absurd rfl (gpl_none e p hp)
  | some q =>
    obtain ⟨h1, h2⟩ := gpl_some e
    rw [hi q p h1 hp h2]
theorem gpl_congr {R R' : Nat → Nat} {s : Nat} : ∀ {n : Nat}, (∀ p, p < n → R' p = R p) → gpl R' n s = gpl R n s
  | 0, _ => rfl
  | n + 1, h => by
    unfold gpl
    rw [h n (by omega), gpl_congr (fun p hp => h p (by omega))]
/-- what holds of every game -/
def gWF (g : zG) : Prop :=
  (gN g ≤ 12 ∧ gL g ≤ gN g) ∧ (∀ p, p < gL g → gR g p < gN g ∧ gF g p < 2) ∧ (∀ p q, p < gL g → q < gL g → gR g p = gR g q → p = q) ∧ (∀ s, s < gN g → 0 ≤ gK g s ∧ gK g s ≤ 3) ∧
  (∀ s w, s < gN g → w < 2 → 3 ≤ gT g s w ∧ gT g s w ≤ 9 ∧ 0 ≤ gM g s w ∧ gM g s w < gT g s w) ∧ (∀ s, s < gN g → gH g s = -4 ∨ gH g s = 0 ∨ gH g s = 1) ∧ ((gO g = 0 ∨ gO g = 1) ∧ (gO g = 1 → 3 ≤ gL g)) ∧ (0 ≤ gD g ∧ gD g < 2147483648)
/-- what lies in the row is in no hand -/
def gWH (g : zG) : Prop := ∀ p, p < gL g → gH g (gR g p) = -4
theorem gWF.n {g : zG} (h : gWF g) : gN g ≤ 12 ∧ gL g ≤ gN g := h.1
theorem gWF.r {g : zG} (h : gWF g) {p : Nat} (hp : p < gL g) : gR g p < gN g ∧ gF g p < 2 := h.2.1 p hp
theorem gWF.i {g : zG} (h : gWF g) : ∀ p q, p < gL g → q < gL g → gR g p = gR g q → p = q := h.2.2.1
theorem gWF.k {g : zG} (h : gWF g) {s : Nat} (hs : s < gN g) : 0 ≤ gK g s ∧ gK g s ≤ 3 := h.2.2.2.1 s hs
theorem gWF.t {g : zG} (h : gWF g) {s w : Nat} (hs : s < gN g) (hw : w < 2) : 3 ≤ gT g s w ∧ gT g s w ≤ 9 ∧ 0 ≤ gM g s w ∧ gM g s w < gT g s w := h.2.2.2.2.1 s w hs hw
theorem gWF.h {g : zG} (h : gWF g) {s : Nat} (hs : s < gN g) : gH g s = -4 ∨ gH g s = 0 ∨ gH g s = 1 := h.2.2.2.2.2.1 s hs
theorem gWF.o {g : zG} (h : gWF g) : (gO g = 0 ∨ gO g = 1) ∧ (gO g = 1 → 3 ≤ gL g) := h.2.2.2.2.2.2.1
theorem gWF.d {g : zG} (h : gWF g) : 0 ≤ gD g ∧ gD g < 2147483648 := h.2.2.2.2.2.2.2
theorem gPi_at {g : zG} (h : gWF g) {p : Nat} (hp : p < gL g) : gP g (gR g p) = some p := gpl_at h.i hp
theorem gP_some {g : zG} {s p : Nat} (h : gP g s = some p) : p < gL g ∧ gR g p = s := gpl_some h
theorem gPi_rng {g : zG} (h : gWF g) (s : Nat) : gPi g s = -4 ∨ (0 ≤ gPi g s ∧ gPi g s < 12) := by
  unfold gPi
  cases e : gP g s with
  | none => exact Or.inl rfl
  | some p =>
    have h1 := (gP_some e).1
    have h2 := h.n
    right
    constructor <;> dsimp only <;> omega
theorem gFi_rng {g : zG} (h : gWF g) (s : Nat) : gFi g s = -4 ∨ gFi g s = 0 ∨ gFi g s = 1 := by
  unfold gFi
  cases e : gP g s with
  | none => exact Or.inl rfl
  | some p =>
    have h1 := (h.r (gP_some e).1).2
    right
    dsimp only
    omega
/-- the way of the front at a place, if the first front goes forward -/
def gwA (k : Nat → Int) (R : Nat → Nat) : Nat → Int
  | 0 => 1
  | i + 1 => if k (R i) = 2 then -(gwA k R i) else gwA k R i
def gA (g : zG) (i : Nat) : Int := gwA (gK g) (gR g) i
def gB (g : zG) (i : Nat) : Int := -(gA g (i + 1))
theorem gwA_pm {k : Nat → Int} {R : Nat → Nat} : ∀ i, gwA k R i = 1 ∨ gwA k R i = -1
  | 0 => Or.inl rfl
  | i + 1 => by
    unfold gwA
    have := gwA_pm (k := k) (R := R) i
    split <;> omega
theorem gA_pm (g : zG) (i : Nat) : gA g i = 1 ∨ gA g i = -1 := gwA_pm i
theorem gB_pm (g : zG) (i : Nat) : gB g i = 1 ∨ gB g i = -1 := by
  have := gA_pm g (i + 1)
  unfold gB
  omega
theorem gA_0 (g : zG) : gA g 0 = 1 := rfl
theorem gA_s (g : zG) (i : Nat) : gA g (i + 1) = -(gB g i) := by
  unfold gB
  omega
theorem gB_eq (g : zG) (i : Nat) : gB g i = if gK g (gR g i) = 2 then gA g i else -(gA g i) := by
  unfold gB
  show -(gwA (gK g) (gR g) (i + 1)) = _
  unfold gwA
  show -(if gK g (gR g i) = 2 then -(gA g i) else gA g i) = _
  split <;> omega
/-- the marks behind a turn of the first n places -/
def gtm (g : zG) (b : Int) (n : Nat) : Nat → Nat → Int := fun s w => match gpl (gR g) n s with
  | some p => (gM g s w + b * (if w = gF g p then gA g p else gB g p)) % gT g s w
  | none => gM g s w
def gturn (g : zG) (b : Int) : zG := gsM g (gtm g b (gL g))
theorem gtm_step (g : zG) (b : Int) (p s w : Nat) : gtm g b (p + 1) s w = if s = gR g p then (gM g s w + b * (if w = gF g p then gA g p else gB g p)) % gT g s w else gtm g b p s w := by
  unfold gtm
  show (match (if gR g p = s then some p else gpl (gR g) p s) with | some p => _ | none => _) = _
  by_cases h : s = gR g p
  · rw [if_pos h.symm, if_pos h]
  · rw [if_neg (fun q => h q.symm), if_neg h]
theorem gtm_new {g : zG} (hw : gWF g) {b : Int} {p w : Nat} (hp : p < gL g) : gtm g b p (gR g p) w = gM g (gR g p) w := by
  unfold gtm
  rw [gpl_of_none]
  intro q hq e
  have := hw.i q p (by omega) hp e
  omega
theorem gtm_wf {g : zG} (hw : gWF g) (b : Int) (n : Nat) {s w : Nat} (hs : s < gN g) (hu : w < 2) : 0 ≤ gtm g b n s w ∧ gtm g b n s w < gT g s w := by
  have h := hw.t hs hu
  unfold gtm
  split
  · exact ⟨Int.emod_nonneg _ (by omega), Int.emod_lt_of_pos _ (by omega)⟩
  · exact ⟨h.2.2.1, h.2.2.2⟩
theorem gturn_wf {g : zG} (h : gWF g) (b : Int) : gWF (gturn g b) :=
  ⟨h.1, h.2.1, h.2.2.1, h.2.2.2.1, fun s w hs hw => ⟨(h.t hs hw).1, (h.t hs hw).2.1, (gtm_wf h b _ hs hw).1, (gtm_wf h b _ hs hw).2⟩, h.2.2.2.2.2.1, h.2.2.2.2.2.2.1, h.2.2.2.2.2.2.2⟩
/-- the last place below n that a turn this way would drive backward -/
def glk (g : zG) (way : Int) : Nat → Option Nat
  | 0 => none
  | n + 1 => if (gK g (gR g n) = 1 ∨ gK g (gR g n) = 3) ∧ (way * gA g n < 0 ∨ way * gB g n < 0) then some n else glk g way n
theorem glk_lt {g : zG} {way : Int} {p : Nat} : ∀ {n : Nat}, glk g way n = some p → p < n
  | 0, h => by cases h
  | n + 1, h => by
    unfold glk at h
    split at h
    · cases h; omega
    · have := glk_lt h
      omega
def gLk (g : zG) (way : Int) : Int := if gO g = 1 ∧ gB g (gL g - 1) = 1 then 1 else match glk g way (gL g) with
  | some p => 2 + (gR g p : Int)
  | none => 0
theorem gLk_rng {g : zG} (h : gWF g) (way : Int) : 0 ≤ gLk g way ∧ gLk g way < 14 := by
  unfold gLk
  split
  · omega
  · split
    · rename_i p e
      have h1 := (h.r (glk_lt e)).1
      have h2 := h.n
      omega
    · omega
def gpre (g : zG) : zG := if gL g = 0 then g else if gLk g (gB g (gL g - 1)) = 0 then gturn g (gB g (gL g - 1)) else g
def gapp (g : zG) (s f : Nat) : zG := (gN g, gL g + 1, gK g, gT g, gM g, gH g, fupN (gR g) (gL g) s, fupN (gF g) (gL g) f, gO g, gS g, gD g)
def gup (g : zG) : Nat → Int
  | 0 => 0
  | n + 1 => gup g n + ((if gM g (gR g n) 0 = 0 then 1 else 0) + (if gM g (gR g n) 1 = 0 then 1 else 0))
def ghv (g : zG) : Nat → Int
  | 0 => 0
  | n + 1 => ghv g n + (if gK g (gR g n) = 3 then 1 else 0)
theorem gup_rng (g : zG) : ∀ n : Nat, 0 ≤ gup g n ∧ gup g n ≤ 2 * n
  | 0 => by unfold gup; omega
  | n + 1 => by
    have := gup_rng g n
    unfold gup
    split <;> split <;> omega
theorem ghv_rng (g : zG) : ∀ n : Nat, 0 ≤ ghv g n ∧ ghv g n ≤ n
  | 0 => by unfold ghv; omega
  | n + 1 => by
    have := ghv_rng g n
    unfold ghv
    split <;> omega
def gsc (g : zG) : Int := if gL g < 2 ∨ gup g (gL g) < 2 * (gL g : Int) then 0 else (gL g : Int) + ghv g (gL g)
def gput (g : zG) (s f : Nat) : zG := gapp (gpre g) s f
/-- a lay: the stone leaves its hand, which has the score -/
def glay (g : zG) (s f : Nat) : zG := gsH (gsS (gput g s f) (fun h => if gH g s = (h : Int) then gS g h + gsc (gput g s f) else gS g h)) (fup (gH g) s (-4))
abbrev gfit (g : zG) (s f : Nat) : Prop := gL g = 0 ∨ (-1 ≤ gT g s f - gT g (gR g (gL g - 1)) (1 - gF g (gL g - 1)) ∧ gT g s f - gT g (gR g (gL g - 1)) (1 - gF g (gL g - 1)) ≤ 1)
def gtake (g : zG) (n : Nat) : zG := (gN g, gL g - n, gK g, gT g, gM g, gH g, gR g, gF g, 0, gS g, gD g)
theorem gpre_wf {g : zG} (h : gWF g) : gWF (gpre g) := by
  unfold gpre
  split
  · exact h
  · split
    · exact gturn_wf h _
    · exact h
theorem gpre_L (g : zG) : gL (gpre g) = gL g := by
  unfold gpre
  split
  · rfl
  · split <;> rfl
theorem gpre_N (g : zG) : gN (gpre g) = gN g := by
  unfold gpre
  split
  · rfl
  · split <;> rfl
theorem gpre_R (g : zG) : gR (gpre g) = gR g := by
  unfold gpre
  split
  · rfl
  · split <;> rfl
theorem gpre_H (g : zG) : gH (gpre g) = gH g := by
  unfold gpre
  split
  · rfl
  · split <;> rfl
theorem gpre_S (g : zG) : gS (gpre g) = gS g := by
  unfold gpre
  split
  · rfl
  · split <;> rfl
theorem gpig : ∀ (n : Nat) (R : Nat → Nat), (∀ p, p < n + 1 → R p < n) → (∀ p q, p < n + 1 → q < n + 1 → R p = R q → p = q) → False
  | 0, R, hr, _ => by
    have := hr 0 (by omega)
    omega
  | n + 1, R, hr, hi => by
    refine gpig n (fun p => if R p = n then R (n + 1) else R p) (fun p hp => ?_) (fun p q hp hq e => ?_)
    · have h1 := hr p (by omega)
      have h2 := hr (n + 1) (by omega)
      split
      · rename_i e
        have h3 : R (n + 1) ≠ n := fun e2 => by
          have := hi p (n + 1) (by omega) (by omega) (by rw [e, e2])
          omega
        omega
      · omega
    · split at e <;> split at e
      · rename_i e1 e2
        exact hi p q (by omega) (by omega) (by rw [e1, e2])
      · have := hi (n + 1) q (by omega) (by omega) e
        omega
      · have := hi p (n + 1) (by omega) (by omega) e
        omega
      · exact hi p q (by omega) (by omega) e
/-- n different numbers below n are all of them -/
theorem gfull (n : Nat) (R : Nat → Nat) (hr : ∀ p, p < n → R p < n) (hi : ∀ p q, p < n → q < n → R p = R q → p = q) (s : Nat) (hs : s < n) (hn : ∀ p, p < n → R p ≠ s) : False := by
  refine gpig n (fun p => if p = n then s else R p) (fun p hp => ?_) (fun p q hp hq e => ?_)
  · split
    · exact hs
    · exact hr p (by omega)
  · split at e <;> split at e
    · omega
    · exact absurd e.symm (hn q (by omega))
    · exact absurd e (hn p (by omega))
    · exact hi p q (by omega) (by omega) e
theorem gapp_wf {g : zG} (h : gWF g) {s f : Nat} (hs : s < gN g) (hf : f < 2) (hn : ∀ p, p < gL g → gR g p ≠ s) (ho : gO g = 0) : gWF (gapp g s f) := by
  have hlt : gL g < gN g := by
    rcases Nat.lt_or_ge (gL g) (gN g) with q | q
    · exact q
    · exact absurd (gfull (gN g) (gR g) (fun p hp => (h.r (by omega)).1) (fun p q' hp hq => h.i p q' (by omega) (by omega)) s hs (fun p hp => hn p (by omega))) id
  refine ⟨⟨h.n.1, hlt⟩, fun p hp => ?_, fun p q hp hq e => ?_, h.2.2.2.1, h.2.2.2.2.1, h.2.2.2.2.2.1, ⟨h.o.1, fun e => ?_⟩, h.2.2.2.2.2.2.2⟩
  · show fupN (gR g) (gL g) s p < gN g ∧ fupN (gF g) (gL g) f p < 2
    have hp' : p < gL g + 1 := hp
    unfold fupN
    by_cases e : p = gL g
    · rw [if_pos e, if_pos e]
      exact ⟨hs, hf⟩
    · rw [if_neg e, if_neg e]
      exact h.r (by omega)
  · have hp' : p < gL g + 1 := hp
    have hq' : q < gL g + 1 := hq
    have e' : fupN (gR g) (gL g) s p = fupN (gR g) (gL g) s q := e
    unfold fupN at e'
    by_cases e1 : p = gL g <;> by_cases e2 : q = gL g
    · omega
    · rw [if_pos e1, if_neg e2] at e'
      exact absurd e'.symm (hn q (by omega))
    · rw [if_neg e1, if_pos e2] at e'
      exact absurd e' (hn p (by omega))
    · rw [if_neg e1, if_neg e2] at e'
      exact h.i p q (by omega) (by omega) e'
  · have e' : gO g = 1 := e
    omega
theorem gput_wf {g : zG} (h : gWF g) {s f : Nat} (hs : s < gN g) (hf : f < 2) (hn : ∀ p, p < gL g → gR g p ≠ s) (ho : gO g = 0) : gWF (gput g s f) := by
  refine gapp_wf (gpre_wf h) (by rw [gpre_N]; exact hs) hf (by rw [gpre_L, gpre_R]; exact hn) ?_
  unfold gpre
  split
  · exact ho
  · split <;> exact ho
