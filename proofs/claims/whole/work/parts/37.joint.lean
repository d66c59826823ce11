/-! the class and the reference side by side: every call answers alike -/
def zK0 (t : zMI) (ko : Option zG) : Prop := match ko with
  | none => t 0 2 = 0
  | some k => t 0 2 = 1 ∧ zTB 10 t k
def zKM (t : zMI) (ko : Option zG) : Prop := match ko with
  | none => t 50 17 = 0
  | some k => t 50 17 = 1 ∧ zKp t k
def JC (t : zMI) (g : zG) (ko : Option zG) (x : gTx) (sh : gSh) : Prop := zTB 1 t g ∧ zK0 t ko ∧ zTP t x ∧ zSC t sh
def JM (t : zMI) (g : zG) (ko : Option zG) (x : gTx) (sh : gSh) : Prop := zRS t g ∧ zKM t ko ∧ zTm t x ∧ zSm t sh
def JO (g : zG) (ko : Option zG) (sh : gSh) : Prop := gOK g ∧ (∀ k, ko = some k → gOK k) ∧ gShW sh
def JJ (t : zMI) : Prop := ∃ g ko x sh, JO g ko sh ∧ JC t g ko x sh ∧ JM t g ko x sh
abbrev r32 (a : Int) : Prop := -2147483648 ≤ a ∧ a < 2147483648
theorem zK0_c {t t' : zMI} {ko : Option zG} (h : zK0 t ko) (e : ∀ q, q = 0 ∨ (10 ≤ q ∧ q < 19) → t' q = t q) : zK0 t' ko := by
  cases ko with
  | none => show t' 0 2 = 0; rw [e 0 (Or.inl rfl)]; exact h
  | some k => exact ⟨by rw [e 0 (Or.inl rfl)]; exact h.1, zTB_congr h.2 (fun q q1 q2 => e q (by omega))⟩
theorem zKM_c {t t' : zMI} {ko : Option zG} (h : zKM t ko) (e : t' 50 17 = t 50 17) (e2 : ∀ q, 61 ≤ q → q ≤ 63 → t' q = t q) : zKM t' ko := by
  cases ko with
  | none => show t' 50 17 = 0; rw [e]; exact h
  | some k =>
    refine ⟨by rw [e]; exact h.1, ?_⟩
    have hk := h.2
    unfold zKp at hk ⊢
    rw [e2 61 (by omega) (by omega), e2 62 (by omega) (by omega), e2 63 (by omega) (by omega)]
    exact hk
theorem zTP_c {t t' : zMI} {x : gTx} (h : zTP t x) (e : t' 37 = t 37) (e2 : t' 38 = t 38) : zTP t' x := by
  unfold zTP
  rw [e, e2]
  exact h
section
variable {t t' : zMI} {g g' : zG} {ko : Option zG} {x x' : gTx} {sh sh' : gSh}
theorem JC_fg (h : JC t g ko x sh) (f : zFg t t') (h1 : zTB 1 t' g') : JC t' g' ko x sh :=
  ⟨h1, zK0_c h.2.1 (fun q hq => f q (by omega) (by omega) (by omega)), zTP_c h.2.2.1 (f 37 (by omega) (by omega) (by omega)) (f 38 (by omega) (by omega) (by omega)), zSC_congr h.2.2.2 (fun q q1 q2 => f q (by omega) (by omega) (by omega))⟩
theorem JC_hi (h : JC t g ko x sh) (f : ∀ q, q < 50 → t' q = t q) : JC t' g ko x sh :=
  ⟨zTB_congr h.1 (fun q _ _ => f q (by omega)), zK0_c h.2.1 (fun q _ => f q (by omega)), zTP_c h.2.2.1 (f 37 (by omega)) (f 38 (by omega)), zSC_congr h.2.2.2 (fun q _ _ => f q (by omega))⟩
theorem JM_lo (h : JM t g ko x sh) (f : ∀ q, 50 ≤ q → t' q = t q) : JM t' g ko x sh :=
  ⟨zRS_congr h.1 (fun q _ _ => f q (by omega)) (by rw [f 50 (by omega)]) (by rw [f 50 (by omega)]) (by rw [f 50 (by omega)]) (by rw [f 50 (by omega)]), zKM_c h.2.1 (by rw [f 50 (by omega)]) (fun q _ _ => f q (by omega)), zTm_c h.2.2.1 (by rw [f 50 (by omega)]) (f 55 (by omega)), zSm_c h.2.2.2 (fun q _ _ => f q (by omega))⟩
theorem JM_fa (h : JM t g ko x sh) (f : zFA t t') (h1 : zRS t' g') : JM t' g' ko x sh :=
  ⟨h1, zKM_c h.2.1 f.2.2 (fun q _ _ => f.1 q (by omega)), zTm_c h.2.2.1 f.2.1 (f.1 55 (by omega)), zSm_c h.2.2.2 (fun q _ _ => f.1 q (by omega))⟩
theorem JC_sh (h : JC t g ko x sh) (f : ∀ q, ¬ (40 ≤ q ∧ q < 48) → t' q = t q) (h1 : zSC t' sh') : JC t' g ko x sh' :=
  ⟨zTB_congr h.1 (fun q _ _ => f q (by omega)), zK0_c h.2.1 (fun q _ => f q (by omega)), zTP_c h.2.2.1 (f 37 (by omega)) (f 38 (by omega)), h1⟩
theorem JM_sh (h : JM t g ko x sh) (f : ∀ q, ¬ (64 ≤ q ∧ q ≤ 66) → t' q = t q) (h1 : zSm t' sh') : JM t' g ko x sh' :=
  ⟨zRS_congr h.1 (fun q _ _ => f q (by omega)) (by rw [f 50 (by omega)]) (by rw [f 50 (by omega)]) (by rw [f 50 (by omega)]) (by rw [f 50 (by omega)]), zKM_c h.2.1 (by rw [f 50 (by omega)]) (fun q _ _ => f q (by omega)), zTm_c h.2.2.1 (by rw [f 50 (by omega)]) (f 55 (by omega)), h1⟩
theorem zFg.lo (f : zFg t t') : ∀ q, 50 ≤ q → t' q = t q := fun q hq => f q (by omega) (by omega) (by omega)
theorem zFA.lo (f : zFA t t') : ∀ q, q < 50 → t' q = t q := fun q hq => f.1 q (Or.inl hq)
end
section
variable {t : zMI}
theorem j_stone (h : JJ t) {a b c : Int} (r_a : r32 a) (r_b : r32 b) (r_c : r32 c) : ZX 9 66 0 [(0, .ref 0), (1, .int (zi a)), (2, .int (zi b)), (3, .int (zi c))] [] t (zKi fun v t1 => ZX 9 116 0 [(0, .ref 50), (1, .int (zi a)), (2, .int (zi b)), (3, .int (zi c))] [] t1 (zKi fun w t2 => w = v ∧ JJ t2)) := by
  obtain ⟨g, ko, x, sh, ho, hc, hm⟩ := h
  refine s_stone hc.1 ho.1.1 r_a r_b r_c (fun t1 h1 f1 => ?_)
  have hm1 := JM_lo hm f1.lo
  exact m_stone hm1.1 ho.1.1 r_a r_b r_c (fun t2 h2 f2 => ⟨rfl, _, ko, x, sh, ⟨oStone_ok ho.1 _ _ _, ho.2⟩, JC_hi (JC_fg hc f1 h1) f2.lo, JM_fa hm1 f2 h2⟩)
theorem j_mark (h : JJ t) {a b c : Int} (r_a : r32 a) (r_b : r32 b) (r_c : r32 c) : ZX 9 67 0 [(0, .ref 0), (1, .int (zi a)), (2, .int (zi b)), (3, .int (zi c))] [] t (zKi fun v t1 => ZX 9 117 0 [(0, .ref 50), (1, .int (zi a)), (2, .int (zi b)), (3, .int (zi c))] [] t1 (zKi fun w t2 => w = v ∧ JJ t2)) := by
  obtain ⟨g, ko, x, sh, ho, hc, hm⟩ := h
  refine s_mark hc.1 ho.1.1 r_a r_b r_c (fun t1 h1 f1 => ?_)
  have hm1 := JM_lo hm f1.lo
  exact m_mark hm1.1 ho.1.1 r_a r_b r_c (fun t2 h2 f2 => ⟨rfl, _, ko, x, sh, ⟨oMark_ok ho.1 _ _ _, ho.2⟩, JC_hi (JC_fg hc f1 h1) f2.lo, JM_fa hm1 f2 h2⟩)
theorem j_deal (h : JJ t) {a b : Int} (r_a : r32 a) (r_b : r32 b) : ZX 9 69 0 [(0, .ref 0), (1, .int (zi a)), (2, .int (zi b))] [] t (zKi fun v t1 => ZX 9 120 0 [(0, .ref 50), (1, .int (zi a)), (2, .int (zi b))] [] t1 (zKi fun w t2 => w = v ∧ JJ t2)) := by
  obtain ⟨g, ko, x, sh, ho, hc, hm⟩ := h
  refine s_deal hc.1 ho.1.1 r_a r_b (fun t1 h1 f1 => ?_)
  have hm1 := JM_lo hm f1.lo
  exact m_deal hm1.1 ho.1.1 r_a r_b (fun t2 h2 f2 => ⟨rfl, _, ko, x, sh, ⟨oDeal_ok ho.1 _ _, ho.2⟩, JC_hi (JC_fg hc f1 h1) f2.lo, JM_fa hm1 f2 h2⟩)
theorem j_lay (h : JJ t) {a b : Int} (r_a : r32 a) (r_b : r32 b) : ZX 9 74 0 [(0, .ref 0), (1, .int (zi a)), (2, .int (zi b))] [] t (zKi fun v t1 => ZX 9 142 0 [(0, .ref 50), (1, .int (zi a)), (2, .int (zi b))] [] t1 (zKi fun w t2 => w = v ∧ JJ t2)) := by
  obtain ⟨g, ko, x, sh, ho, hc, hm⟩ := h
  refine s_lay hc.1 ho.1.1 r_a r_b (fun t1 h1 f1 => ?_)
  have hm1 := JM_lo hm f1.lo
  exact m_lay hm1.1 ho.1.1 r_a r_b (fun t2 h2 f2 => ⟨rfl, _, ko, x, sh, ⟨oLay_ok ho.1 _ _, ho.2⟩, JC_hi (JC_fg hc f1 h1) f2.lo, JM_fa hm1 f2 h2⟩)
theorem j_take (h : JJ t) {a : Int} (r_a : r32 a) : ZX 9 75 0 [(0, .ref 0), (1, .int (zi a))] [] t (zKi fun v t1 => ZX 9 143 0 [(0, .ref 50), (1, .int (zi a))] [] t1 (zKi fun w t2 => w = v ∧ JJ t2)) := by
  obtain ⟨g, ko, x, sh, ho, hc, hm⟩ := h
  refine s_take hc.1 ho.1.1 ho.1.2 r_a (fun t1 h1 f1 => ?_)
  have hm1 := JM_lo hm f1.lo
  exact m_take hm1.1 ho.1.1 r_a (fun t2 h2 f2 => ⟨rfl, _, ko, x, sh, ⟨oTake_ok ho.1 _, ho.2⟩, JC_hi (JC_fg hc f1 h1) f2.lo, JM_fa hm1 f2 h2⟩)
theorem j_shut (h : JJ t) {a : Int} (r_a : a = 0 ∨ a = 1) : ZX 9 76 0 [(0, .ref 0), (1, .int (zi a))] [] t (zKi fun v t1 => ZX 9 144 0 [(0, .ref 50), (1, .int (zi a))] [] t1 (zKi fun w t2 => w = v ∧ JJ t2)) := by
  obtain ⟨g, ko, x, sh, ho, hc, hm⟩ := h
  refine s_shut hc.1 ho.1.1 r_a (fun t1 h1 f1 => ?_)
  have hm1 := JM_lo hm f1.lo
  exact m_shut hm1.1 ho.1.1 r_a (fun t2 h2 f2 => ⟨rfl, _, ko, x, sh, ⟨oShut_ok ho.1 r_a, ho.2⟩, JC_hi (JC_fg hc f1 h1) f2.lo, JM_fa hm1 f2 h2⟩)
theorem j_crank (h : JJ t) {a : Int} (r_a : r32 a) : ZX 9 78 0 [(0, .ref 0), (1, .int (zi a))] [] t (zKi fun v t1 => ZX 9 146 0 [(0, .ref 50), (1, .int (zi a))] [] t1 (zKi fun w t2 => w = v ∧ JJ t2)) := by
  obtain ⟨g, ko, x, sh, ho, hc, hm⟩ := h
  refine s_crank hc.1 ho.1.1 r_a (fun t1 h1 f1 => ?_)
  have hm1 := JM_lo hm f1.lo
  exact m_crank hm1.1 ho.1.1 r_a (fun t2 h2 f2 => ⟨rfl, _, ko, x, sh, ⟨oCrank_ok ho.1 _, ho.2⟩, JC_hi (JC_fg hc f1 h1) f2.lo, JM_fa hm1 f2 h2⟩)
theorem j_seed (h : JJ t) {a : Int} (r_a : r32 a) : ZX 9 84 0 [(0, .ref 0), (1, .int (zi a))] [] t (zKi fun v t1 => ZX 9 161 0 [(0, .ref 50), (1, .int (zi a))] [] t1 (zKi fun w t2 => w = v ∧ JJ t2)) := by
  obtain ⟨g, ko, x, sh, ho, hc, hm⟩ := h
  refine s_seed hc.1 r_a (fun t1 h1 f1 => ?_)
  have hm1 := JM_lo hm f1.lo
  exact m_seed hm1.1 r_a (fun t2 h2 f2 => ⟨rfl, _, ko, x, sh, ⟨oSeed_ok ho.1 r_a, ho.2⟩, JC_hi (JC_fg hc f1 h1) f2.lo, JM_fa hm1 f2 h2⟩)
theorem j_told (h : JJ t) {a b : Int} (r_a : r32 a) (r_b : r32 b) : ZX 9 68 0 [(0, .ref 0), (1, .int (zi a)), (2, .int (zi b))] [] t (zKi fun v t1 => ZX 9 119 0 [(0, .ref 50), (1, .int (zi a)), (2, .int (zi b))] [] t1 (zKi fun w t2 => w = v ∧ JJ t2)) := by
  obtain ⟨g, ko, x, sh, ho, hc, hm⟩ := h
  refine s_told hc.1 ho.1.1 r_a r_b ?_
  exact m_told hm.1 ho.1.1 r_a r_b ⟨rfl, _, ko, x, sh, ho, hc, hm⟩
theorem j_count (h : JJ t) {a : Int} (r_a : r32 a) : ZX 9 72 0 [(0, .ref 0), (1, .int (zi a))] [] t (zKi fun v t1 => ZX 9 136 0 [(0, .ref 50), (1, .int (zi a))] [] t1 (zKi fun w t2 => w = v ∧ JJ t2)) := by
  obtain ⟨g, ko, x, sh, ho, hc, hm⟩ := h
  refine s_count hc.1 ho.1.1 r_a ?_
  exact m_count hm.1 ho.1.1 r_a ⟨rfl, _, ko, x, sh, ho, hc, hm⟩
theorem j_may (h : JJ t) {a b : Int} (r_a : r32 a) (r_b : r32 b) : ZX 9 73 0 [(0, .ref 0), (1, .int (zi a)), (2, .int (zi b))] [] t (zKi fun v t1 => ZX 9 139 0 [(0, .ref 50), (1, .int (zi a)), (2, .int (zi b))] [] t1 (zKi fun w t2 => w = v ∧ JJ t2)) := by
  obtain ⟨g, ko, x, sh, ho, hc, hm⟩ := h
  refine s_may hc.1 ho.1.1 r_a r_b ?_
  exact m_may hm.1 ho.1.1 r_a r_b ⟨rfl, _, ko, x, sh, ho, hc, hm⟩
theorem j_locked (h : JJ t)  : ZX 9 77 0 [(0, .ref 0)] [] t (zKi fun v t1 => ZX 9 145 0 [(0, .ref 50)] [] t1 (zKi fun w t2 => w = v ∧ JJ t2)) := by
  obtain ⟨g, ko, x, sh, ho, hc, hm⟩ := h
  refine s_locked hc.1 ho.1.1  ?_
  exact m_locked hm.1 ho.1.1  (fun t2 h2 f2 => ⟨rfl, _, ko, x, sh, ho, JC_hi hc f2.lo, JM_fa hm f2 h2⟩)
theorem j_around (h : JJ t)  : ZX 9 79 0 [(0, .ref 0)] [] t (zKi fun v t1 => ZX 9 150 0 [(0, .ref 50)] [] t1 (zKi fun w t2 => w = v ∧ JJ t2)) := by
  obtain ⟨g, ko, x, sh, ho, hc, hm⟩ := h
  refine s_around hc.1 ho.1.1  ?_
  exact m_around hm.1 ho.1.1  (fun t2 h2 f2 => ⟨rfl, _, ko, x, sh, ho, JC_hi hc f2.lo, JM_fa hm f2 h2⟩)
theorem j_point (h : JJ t) {a b : Int} (r_a : r32 a) (r_b : r32 b) : ZX 9 82 0 [(0, .ref 0), (1, .int (zi a)), (2, .int (zi b))] [] t (zKi fun v t1 => ZX 9 154 0 [(0, .ref 50), (1, .int (zi a)), (2, .int (zi b))] [] t1 (zKi fun w t2 => w = v ∧ JJ t2)) := by
  obtain ⟨g, ko, x, sh, ho, hc, hm⟩ := h
  refine s_point hc.1 ho.1.1 r_a r_b ?_
  exact m_point hm.1 ho.1.1 r_a r_b (fun t2 h2 f2 => ⟨rfl, _, ko, x, sh, ho, JC_hi hc f2.lo, JM_fa hm f2 h2⟩)
theorem j_up (h : JJ t)  : ZX 9 80 0 [(0, .ref 0)] [] t (zKi fun v t1 => ZX 9 153 0 [(0, .ref 50)] [] t1 (zKi fun w t2 => w = v ∧ JJ t2)) := by
  obtain ⟨g, ko, x, sh, ho, hc, hm⟩ := h
  refine s_up hc.1 ho.1.1 (fun v hv => ?_)
  exact m_up hm.1 ho.1.1 (fun w t2 hw h2 f2 => ⟨oUp_det hw hv, _, ko, x, sh, ho, JC_hi hc f2.lo, JM_fa hm f2 h2⟩)
theorem j_best (h : JJ t) {a b : Int} (r_a : r32 a) (r_b : r32 b) : ZX 9 81 0 [(0, .ref 0), (1, .int (zi a)), (2, .int (zi b))] [] t (zKi fun v t1 => ZX 9 158 0 [(0, .ref 50), (1, .int (zi a)), (2, .int (zi b))] [] t1 (zKi fun w t2 => w = v ∧ JJ t2)) := by
  obtain ⟨g, ko, x, sh, ho, hc, hm⟩ := h
  refine s_best hc.1 ho.1 r_a r_b (fun t1 f1 => ?_)
  have hm1 := JM_lo hm f1.g.lo
  have hc1 := JC_fg hc f1.g (zTB_congr hc.1 (fun q _ _ => f1 q (by omega)))
  exact m_best hm1.1 ho.1 r_a r_b (fun t2 h2 f2 => ⟨rfl, _, ko, x, sh, ho, JC_hi hc1 f2.lo, JM_fa hm1 f2 h2⟩)
theorem j_match (h : JJ t) {a : Int} (r_a : r32 a) : ZX 9 83 0 [(0, .ref 0), (1, .int (zi a))] [] t (zKi fun v t1 => ZX 9 160 0 [(0, .ref 50), (1, .int (zi a))] [] t1 (zKi fun w t2 => w = v ∧ JJ t2)) := by
  obtain ⟨g, ko, x, sh, ho, hc, hm⟩ := h
  refine s_match hc.1 ho.1.1 ho.1.2 r_a (fun v g1 t1 e1 h1 f1 => ?_)
  have hm1 := JM_lo hm f1.lo
  refine m_match hm1.1 ho.1 r_a (fun w g2 t2 e2 h2 f2 => ?_)
  obtain ⟨d1, d2⟩ := oMatch_det e2 e1
  subst d2
  exact ⟨d1, _, ko, x, sh, ⟨oMatch_ok ho.1 e2, ho.2⟩, JC_hi (JC_fg hc f1 h1) f2.lo, JM_fa hm1 f2 h2⟩
theorem j_image (h : JJ t)  : ZX 9 85 0 [(0, .ref 0)] [] t (zKi fun v t1 => ZX 9 162 0 [(0, .ref 50)] [] t1 (zKi fun w t2 => w = v ∧ JJ t2)) := by
  obtain ⟨g, ko, x, sh, ho, hc, hm⟩ := h
  refine s_image hc.1 ho.1.1 (fun t1 h1 f1 e1 => ?_)
  have hm1 := JM_lo hm (fun q hq => f1 q (by omega) (by omega))
  refine m_image hm1.1 ho.1.1 (fun t2 h2 e2 f2 f3 => ⟨rfl, g, some g, x, sh, ⟨ho.1, fun k hk => by cases hk; exact ho.1, ho.2.2⟩, ?_, ?_⟩)
  · exact ⟨zTB_congr hc.1 (fun q _ _ => (f2 q (by omega) (by omega)).trans (f1 q (by omega) (by omega))), ⟨by rw [f2 0 (by omega) (by omega)]; exact e1, zTB_congr h1 (fun q _ _ => f2 q (by omega) (by omega))⟩, zTP_c hc.2.2.1 ((f2 37 (by omega) (by omega)).trans (f1 37 (by omega) (by omega))) ((f2 38 (by omega) (by omega)).trans (f1 38 (by omega) (by omega))), zSC_congr hc.2.2.2 (fun q _ _ => (f2 q (by omega) (by omega)).trans (f1 q (by omega) (by omega)))⟩
  · exact ⟨zRS_congr hm1.1 (fun q _ _ => f2 q (by omega) (by omega)) (f3 1 (by omega)) (f3 4 (by omega)) (f3 6 (by omega)) (f3 7 (by omega)), ⟨e2, h2⟩, zTm_c hm1.2.2.1 (f3 9 (by omega)) (f2 55 (by omega) (by omega)), zSm_c hm1.2.2.2 (fun q _ _ => f2 q (by omega) (by omega))⟩
theorem j_restore (h : JJ t)  : ZX 9 86 0 [(0, .ref 0)] [] t (zKi fun v t1 => ZX 9 163 0 [(0, .ref 50)] [] t1 (zKi fun w t2 => w = v ∧ JJ t2)) := by
  obtain ⟨g, ko, x, sh, ho, hc, hm⟩ := h
  cases ko with
  | none =>
    refine s_restore0 hc.2.1 ?_
    exact m_restore0 hm.2.1 ⟨rfl, g, none, x, sh, ho, hc, hm⟩
  | some k =>
    have hk := ho.2.1 k rfl
    refine s_restore1 hc.2.1.1 hc.2.1.2 hk.1 (fun t1 h1 f1 => ?_)
    have hm1 := JM_lo hm f1.lo
    exact m_restore1 hm1.2.1.1 hm1.2.1.2 hk.1 (fun t2 h2 f2 => ⟨rfl, k, some k, x, sh, ⟨hk, ho.2⟩, JC_hi (JC_fg hc f1 h1) f2.lo, JM_fa hm1 f2 h2⟩)
theorem j_judged (h : JJ t) {a b c e : Int} (r_a : r32 a) (r_b : r32 b) (r_c : r32 c) (r_e : r32 e) : ZX 9 87 0 [(0, .ref 0), (1, .int (zi a)), (2, .int (zi b)), (3, .int (zi c)), (4, .int (zi e))] [] t (zKi fun v t1 => ZX 9 169 0 [(0, .ref 50), (1, .int (zi a)), (2, .int (zi b)), (3, .int (zi c)), (4, .int (zi e))] [] t1 (zKi fun w t2 => w = v ∧ JJ t2)) := by
  obtain ⟨g, ko, x, sh, ho, hc, hm⟩ := h
  refine s_judged hc.1 ho.1 hc.2.2.2 ho.2.2 r_a r_b r_c r_e (fun v t1 e1 f1 => ?_)
  have hm1 := JM_lo hm f1.g.lo
  have hc1 := JC_fg hc f1.g (zTB_congr hc.1 (fun q _ _ => f1 q (by omega)))
  exact m_judged hm1.1 ho.1.1 hm1.2.2.2 ho.2.2 r_a r_b r_c r_e (fun w e2 => ⟨oJudged_det e2 e1, _, ko, x, sh, ho, hc1, hm1⟩)
theorem j_orders (h : JJ t) {a b c e f : Int} (r_a : r32 a) (r_b : r32 b) (r_c : r32 c) (r_e : r32 e) (r_f : r32 f) : ZX 9 88 0 [(0, .ref 0), (1, .int (zi a)), (2, .int (zi b)), (3, .int (zi c)), (4, .int (zi e)), (5, .int (zi f))] [] t (zKi fun v t1 => ZX 9 173 0 [(0, .ref 50), (1, .int (zi a)), (2, .int (zi b)), (3, .int (zi c)), (4, .int (zi e)), (5, .int (zi f))] [] t1 (zKi fun w t2 => w = v ∧ JJ t2)) := by
  obtain ⟨g, ko, x, sh, ho, hc, hm⟩ := h
  refine s_orders hc.1 ho.1 hc.2.2.2 ho.2.2 r_a r_b r_c r_e r_f (fun t1 f1 => ?_)
  have hm1 := JM_lo hm f1.g.lo
  have hc1 := JC_fg hc f1.g (zTB_congr hc.1 (fun q _ _ => f1 q (by omega) (by omega) (by omega)))
  exact m_orders hm1.1 ho.1 hm1.2.2.2 ho.2.2 r_a r_b r_c r_e r_f (fun t2 h2 f2 => ⟨rfl, _, ko, x, sh, ho, JC_hi hc1 f2.lo, JM_fa hm1 f2 h2⟩)
theorem j_sheet (h : JJ t) {a b c : Int} (r_a : r32 a) (r_b : r32 b) (r_c : r32 c) : ZX 9 89 0 [(0, .ref 0), (1, .int (zi a)), (2, .int (zi b)), (3, .int (zi c))] [] t (zKi fun v t1 => ZX 9 165 0 [(0, .ref 50), (1, .int (zi a)), (2, .int (zi b)), (3, .int (zi c))] [] t1 (zKi fun w t2 => w = v ∧ JJ t2)) := by
  obtain ⟨g, ko, x, sh, ho, hc, hm⟩ := h
  refine s_sheet hc.2.2.2 ho.2.2 r_a r_b r_c (fun t1 h1 f1 => ?_)
  have hm1 := JM_lo hm (fun q hq => f1 q (by omega))
  exact m_sheet hm1.2.2.2 r_a r_b r_c (fun t2 h2 f2 => ⟨rfl, _, ko, x, _, ⟨ho.1, ho.2.1, oSheet_ok ho.2.2 _ _ _⟩, JC_hi (JC_sh hc f1 h1) (fun q hq => f2 q (by omega)), JM_sh hm1 f2 h2⟩)
theorem j_drop (h : JJ t) {a : Int} (r_a : r32 a) : ZX 9 90 0 [(0, .ref 0), (1, .int (zi a))] [] t (zKi fun v t1 => ZX 9 166 0 [(0, .ref 50), (1, .int (zi a))] [] t1 (zKi fun w t2 => w = v ∧ JJ t2)) := by
  obtain ⟨g, ko, x, sh, ho, hc, hm⟩ := h
  refine s_drop hc.2.2.2 ho.2.2 r_a (fun t1 h1 f1 => ?_)
  have hm1 := JM_lo hm (fun q hq => f1 q (by omega))
  exact m_drop hm1.2.2.2 ho.2.2 r_a (fun t2 h2 f2 => ⟨rfl, _, ko, x, _, ⟨ho.1, ho.2.1, oDrop_ok ho.2.2 _⟩, JC_hi (JC_sh hc f1 h1) (fun q hq => f2 q (by omega)), JM_sh hm1 f2 h2⟩)
theorem j_item (h : JJ t) {a b c e : Int} (r_a : r32 a) (r_b : r32 b) (r_c : r32 c) (r_e : r32 e) : ZX 9 91 0 [(0, .ref 0), (1, .int (zi a)), (2, .int (zi b)), (3, .int (zi c)), (4, .int (zi e))] [] t (zKi fun v t1 => ZX 9 168 0 [(0, .ref 50), (1, .int (zi a)), (2, .int (zi b)), (3, .int (zi c)), (4, .int (zi e))] [] t1 (zKi fun w t2 => w = v ∧ JJ t2)) := by
  obtain ⟨g, ko, x, sh, ho, hc, hm⟩ := h
  refine s_item hc.2.2.2 ho.2.2 r_a r_b r_c r_e (fun t1 h1 f1 => ?_)
  have hm1 := JM_lo hm (fun q hq => f1 q (by omega))
  exact m_item hm1.2.2.2 ho.2.2 r_a r_b r_c r_e (fun t2 h2 f2 => ⟨rfl, _, ko, x, _, ⟨ho.1, ho.2.1, oItem_ok ho.2.2 _ _ _ r_e⟩, JC_hi (JC_sh hc f1 h1) (fun q hq => f2 q (by omega)), JM_sh hm1 f2 h2⟩)
theorem j_film (h : JJ t) {a b c : Int} (r_a : r32 a) (r_b : r32 b) (r_c : r32 c) : ZX 9 92 0 [(0, .ref 0), (1, .int (zi a)), (2, .int (zi b)), (3, .int (zi c))] [] t (zKi fun v t1 => ZX 9 174 0 [(0, .ref 50), (1, .int (zi a)), (2, .int (zi b)), (3, .int (zi c))] [] t1 (zKi fun w t2 => w = v ∧ JJ t2)) := by
  obtain ⟨g, ko, x, sh, ho, hc, hm⟩ := h
  refine s_film hc.2.2.2 ho.2.2 hc.1 ho.1.1 r_a r_b r_c (fun t1 h1 f1 => ?_)
  have hm1 := JM_lo hm (fun q hq => f1 q (by omega))
  exact m_film hm1.1 ho.1.1 hm1.2.2.2 ho.2.2 r_a r_b r_c (fun t2 h2 f2 => ⟨rfl, _, ko, x, _, ⟨ho.1, ho.2.1, oFilm_ok ho.1.1 ho.2.2 _ _ _⟩, JC_hi (JC_sh hc f1 h1) (fun q hq => f2 q (by omega)), JM_sh hm1 f2 h2⟩)
theorem j_type (h : JJ t) {W : Int64} {n : Int} (r_n : r32 n) : ZX 9 70 0 [(0, .ref 0), (1, .long W), (3, .int (zi n))] [] t (zKi fun v t1 => ZX 9 121 0 [(0, .ref 50), (1, .long W), (3, .int (zi n))] [] t1 (zKi fun w t2 => w = v ∧ JJ t2)) := by
  obtain ⟨g, ko, x, sh, ho, hc, hm⟩ := h
  refine s_type hc.2.2.1 r_n (fun t1 h1 f1 => ?_)
  have hm1 := JM_lo hm (fun q hq => f1 q (by omega) (by omega))
  have hc1 : JC t1 g ko (oType x W.toInt n).2 sh := ⟨zTB_congr hc.1 (fun q _ _ => f1 q (by omega) (by omega)), zK0_c hc.2.1 (fun q _ => f1 q (by omega) (by omega)), h1, zSC_congr hc.2.2.2 (fun q _ _ => f1 q (by omega) (by omega))⟩
  refine m_type hm1.2.2.1 r_n (fun t2 h2 f2 f3 => ⟨rfl, g, ko, _, sh, ho, JC_hi hc1 (fun q hq => f2 q (by omega) (by omega)), ?_⟩)
  exact ⟨zRS_congr hm1.1 (fun q _ _ => f2 q (by omega) (by omega)) (f3 1 (by omega)) (f3 4 (by omega)) (f3 6 (by omega)) (f3 7 (by omega)), zKM_c hm1.2.1 (f3 17 (by omega)) (fun q _ _ => f2 q (by omega) (by omega)), h2, zSm_c hm1.2.2.2 (fun q _ _ => f2 q (by omega) (by omega))⟩
theorem j_stones (h : JJ t)  : ZX 9 71 0 [(0, .ref 0)] [] t (zKi fun v t1 => ZX 9 126 0 [(0, .ref 50)] [] t1 (zKi fun w t2 => w = v ∧ JJ t2)) := by
  obtain ⟨g, ko, x, sh, ho, hc, hm⟩ := h
  refine s_stones hc.1 ho.1.1 hc.2.2.1 (fun t1 h1 f1 e1 => ?_)
  have hm1 := JM_lo hm (fun q hq => f1 q (by omega) (by omega) (by omega))
  have hc1 : JC t1 (oStones g x).2 ko (0, fun _ => 0) sh := ⟨h1, zK0_c hc.2.1 (fun q _ => f1 q (by omega) (by omega) (by omega)), ⟨e1, fun i hi => absurd hi (Nat.not_lt_zero i), Nat.zero_le _, fun i hi => absurd hi (Nat.not_lt_zero i)⟩, zSC_congr hc.2.2.2 (fun q _ _ => f1 q (by omega) (by omega) (by omega))⟩
  refine m_stones hm1.1 ho.1.1 hm1.2.2.1 (fun t2 h2 e2 f2 f3 => ⟨rfl, _, ko, (0, fun _ => 0), sh, ⟨oStones_ok ho.1 x, ho.2⟩, JC_hi hc1 (fun q hq => f2 q (by omega)), ?_⟩)
  exact ⟨h2, zKM_c hm1.2.1 f3 (fun q _ _ => f2 q (by omega)), ⟨e2, fun i hi => absurd hi (Nat.not_lt_zero i), Nat.zero_le _, fun i hi => absurd hi (Nat.not_lt_zero i)⟩, zSm_c hm1.2.2.2 (fun q _ _ => f2 q (by omega))⟩
end
