/-! a table: a turn, a lay, a lift, a copy -/
theorem zTB_Mx {T : Nat} {t : zMI} {g : zG} {m m' : Nat → Nat → Int} (h : zTB T t (gsM g m)) (e : ∀ s w, s < gN g → w < 2 → m' s w = m s w) : zTB T t (gsM g m') :=
  ⟨h.1, h.2.1, fun s w hs hw => ⟨(h.2.2.1 s w hs hw).1, (h.2.2.1 s w hs hw).2.trans (e s w hs hw).symm⟩, h.2.2.2.1, h.2.2.2.2⟩
theorem zTB_app {T : Nat} {t : zMI} {g : zG} (h : zTB T t g) (hw : gWF g) {s f : Nat} (hs : s < gN g) (hn : gP g s = none) :
    zTB T (zup (zup (zup (zup (zup (zup (zup t (T + 4) s (-4)) (T + 5) s (-4)) (T + 6) s (-4)) (T + 5) s (gL g)) (T + 6) s f) (T + 7) (gL g) s) T 7 ((gL g : Int) + 1)) (gsH (gapp g s f) (fup (gH g) s (-4))) := by
  have ePi : ∀ s', gPi (gsH (gapp g s f) (fup (gH g) s (-4))) s' = if s' = s then (gL g : Int) else gPi g s' := fun s' => by
    show (match gpl (fupN (gR g) (gL g) s) (gL g + 1) s' with | some p => (p : Int) | none => -4) = _
    show (match (if fupN (gR g) (gL g) s (gL g) = s' then some (gL g) else gpl (fupN (gR g) (gL g) s) (gL g) s') with | some p => (p : Int) | none => -4) = _
    have e1 : fupN (gR g) (gL g) s (gL g) = s := by unfold fupN; rw [if_pos rfl]
    have e2 : gpl (fupN (gR g) (gL g) s) (gL g) s' = gpl (gR g) (gL g) s' := gpl_congr (fun p hp => by unfold fupN; rw [if_neg (by omega)])
    rw [e1, e2]
    by_cases q : s' = s
    · rw [if_pos q.symm, if_pos q]
    · rw [if_neg (fun z => q z.symm), if_neg q]
      rfl
  have eFi : ∀ s', gFi (gsH (gapp g s f) (fup (gH g) s (-4))) s' = if s' = s then (f : Int) else gFi g s' := fun s' => by
    show (match gpl (fupN (gR g) (gL g) s) (gL g + 1) s' with | some p => (fupN (gF g) (gL g) f p : Int) | none => -4) = _
    show (match (if fupN (gR g) (gL g) s (gL g) = s' then some (gL g) else gpl (fupN (gR g) (gL g) s) (gL g) s') with | some p => (fupN (gF g) (gL g) f p : Int) | none => -4) = _
    have e1 : fupN (gR g) (gL g) s (gL g) = s := by unfold fupN; rw [if_pos rfl]
    have e2 : gpl (fupN (gR g) (gL g) s) (gL g) s' = gpl (gR g) (gL g) s' := gpl_congr (fun p hp => by unfold fupN; rw [if_neg (by omega)])
    rw [e1, e2]
    by_cases q : s' = s
    · rw [if_pos q.symm, if_pos q]
      show ((fupN (gF g) (gL g) f (gL g) : Nat) : Int) = _
      unfold fupN
      rw [if_pos rfl]
    · rw [if_neg (fun z => q z.symm), if_neg q]
      show (match gpl (gR g) (gL g) s' with | some p => (fupN (gF g) (gL g) f p : Int) | none => -4) = gFi g s'
      unfold gFi gP
      cases e : gpl (gR g) (gL g) s' with
      | none => rfl
      | some p =>
        have := (gpl_some e).1
        show ((fupN (gF g) (gL g) f p : Nat) : Int) = _
        unfold fupN
        rw [if_neg (by omega)]
  refine ⟨⟨?_, ?_, ?_, ?_⟩, fun s' hs' => ⟨?_, ?_, ?_, ?_⟩, fun s' w hs' hw' => ⟨?_, ?_⟩, fun p hp => ?_, ?_, ?_⟩
  · simp (disch := omega) only [zup_o, zup_n, zup_s]; exact h.n
  · simp (disch := omega) only [zup_o, zup_n, zup_s]; show (gL g : Int) + 1 = ((gL g + 1 : Nat) : Int); omega
  · simp (disch := omega) only [zup_o, zup_n, zup_s]; exact h.o
  · simp (disch := omega) only [zup_o, zup_n, zup_s]; exact h.d
  · simp (disch := omega) only [zup_o, zup_n, zup_s]; exact h.k hs'
  · simp (disch := omega) only [zup_o]
    rw [zup_at]
    show _ = fup (gH g) s (-4) s'
    unfold fup
    by_cases q : s' = s
    · rw [if_pos q, if_pos q]
    · rw [if_neg q, if_neg q]; exact h.h hs'
  · rw [ePi]
    simp (disch := omega) only [zup_o]
    rw [zup_at]
    by_cases q : s' = s
    · rw [if_pos q, if_pos q]
    · rw [if_neg q, if_neg q, zup_o (k := T + 5) (by omega), zup_at, if_neg q, zup_o (k := T + 5) (by omega)]
      exact h.p hs'
  · rw [eFi]
    simp (disch := omega) only [zup_o]
    rw [zup_at]
    by_cases q : s' = s
    · rw [if_pos q, if_pos q]
    · rw [if_neg q, if_neg q, zup_o (k := T + 6) (by omega), zup_at, if_neg q]
      simp (disch := omega) only [zup_o]
      exact h.f hs'
  · simp (disch := omega) only [zup_o]; exact h.t hs' hw'
  · simp (disch := omega) only [zup_o]; exact h.m hs' hw'
  · have hp' : p < gL g + 1 := hp
    simp (disch := omega) only [zup_o]
    rw [zup_at]
    show _ = ((fupN (gR g) (gL g) s p : Nat) : Int)
    unfold fupN
    by_cases q : p = gL g
    · rw [if_pos q, if_pos q]
    · rw [if_neg q, if_neg q]
      simp (disch := omega) only [zup_o]
      exact h.r (by omega)
  · simp (disch := omega) only [zup_o]; exact h.s (w := 0) (by omega)
  · simp (disch := omega) only [zup_o]; exact h.s (w := 1) (by omega)
theorem zTB_S {T : Nat} {t : zMI} {g : zG} (h : zTB T t g) {s : Nat} (hs : s < 2) (v : Int) : zTB T (zup t (T + 8) s v) (gsS g (fup (gS g) s v)) := by
  refine ⟨?_, ?_, ?_, ?_, ?_, ?_⟩
  · simp (disch := omega) only [zup_o]; exact h.1
  · simp (disch := omega) only [zup_o]; exact h.2.1
  · simp (disch := omega) only [zup_o]; exact h.2.2.1
  · simp (disch := omega) only [zup_o]; exact h.2.2.2.1
  · rw [zup_at]
    show _ = fup (gS g) s v 0
    unfold fup
    split
    · rfl
    · exact h.2.2.2.2.1
  · rw [zup_at]
    show _ = fup (gS g) s v 1
    unfold fup
    split
    · rfl
    · exact h.2.2.2.2.2
theorem zTB_Sx {T : Nat} {t : zMI} {g : zG} {f f' : Nat → Int} (h : zTB T t (gsS g f)) (e0 : f' 0 = f 0) (e1 : f' 1 = f 1) : zTB T t (gsS g f') :=
  ⟨h.1, h.2.1, h.2.2.1, h.2.2.2.1, h.2.2.2.2.1.trans e0.symm, h.2.2.2.2.2.trans e1.symm⟩
theorem gsH_wf {g : zG} {h : Nat → Int} (hw : gWF g) (hh : ∀ s, s < gN g → h s = -4 ∨ h s = 0 ∨ h s = 1) : gWF (gsH g h) := ⟨hw.1, hw.2.1, hw.2.2.1, hw.2.2.2.1, hw.2.2.2.2.1, hh, hw.2.2.2.2.2.2.1, hw.2.2.2.2.2.2.2⟩
theorem gsS_wf {g : zG} {h : Nat → Int} (hw : gWF g) : gWF (gsS g h) := hw
theorem glay_wf {g : zG} (h : gWF g) {s f : Nat} (hs : s < gN g) (hf : f < 2) (hn : gP g s = none) (ho : gO g = 0) : gWF (glay g s f) := by
  have h1 : gWF (gput g s f) := gput_wf h hs hf (gpl_none hn) ho
  refine gsH_wf (gsS_wf h1) (fun s' hs' => ?_)
  have hs2 : s' < gN g := by
    have e : gN (gsS (gput g s f) (fun h => if gH g s = (h : Int) then gS g h + gsc (gput g s f) else gS g h)) = gN g := by
      show gN (gpre g) = _
      rw [gpre_N]
    omega
  unfold fup
  split
  · omega
  · exact h.h hs2
theorem glay_wh {g : zG} (h : gWH g) {s f : Nat} : gWH (glay g s f) := by
  intro p hp
  have hp' : p < gL (gpre g) + 1 := hp
  rw [gpre_L] at hp'
  show fup (gH g) s (-4) (fupN (gR (gpre g)) (gL (gpre g)) s p) = -4
  rw [gpre_R, gpre_L]
  unfold fupN fup
  by_cases q : p = gL g
  · rw [if_pos q, if_pos rfl]
  · rw [if_neg q]
    split
    · rfl
    · exact h p (by omega)
theorem glay_L (g : zG) (s f : Nat) : gL (glay g s f) = gL g + 1 := by
  show gL (gpre g) + 1 = _
  rw [gpre_L]
theorem glay_N (g : zG) (s f : Nat) : gN (glay g s f) = gN g := by
  show gN (gpre g) = _
  rw [gpre_N]
theorem glay_O (g : zG) (s f : Nat) : gO (glay g s f) = gO g := by
  show gO (gpre g) = _
  unfold gpre
  split
  · rfl
  · split <;> rfl
theorem gsc_rng {g : zG} (h : gWF g) : 0 ≤ gsc g ∧ gsc g ≤ 24 := by
  have h1 := ghv_rng g (gL g)
  have h2 := h.n
  unfold gsc
  split <;> omega
section
variable {d T : Nat} {t : zMI} {g : zG} {K : Int → zMI → Prop} {Kv : zMI → Prop}
theorem s_turnWheel {a b v : Int} {s w : Nat} (hT : zTa T) (h : zTB T t g) (hw : gWF g) (ha : a = (s : Int)) (hs : s < gN g) (hb : b = (w : Int)) (hw2 : w < 2) (hv : -1000 ≤ v ∧ v ≤ 1000) (k : Kv (zup t (T + 3) (2 * s + w) ((gM g s w + v) % gT g s w))) : ZX (d + 2) 47 0 [(0, .ref T), (1, .int (zi a)), (2, .int (zi b)), (3, .int (zi v))] [] t (zKv Kv) := by
  have hn := hw.n
  have ht := hw.t hs hw2
  refine z_aload_n zi_47_0 rfl ?_
  refine z_iload_n zi_47_1 rfl ?_
  refine z_iload_n zi_47_2 rfl ?_
  refine z_aload_n zi_47_3 rfl ?_
  refine z_iload_n zi_47_4 rfl ?_
  refine z_iload_n zi_47_5 rfl ?_
  refine z_cv2i zi_47_6 rfl rfl (zt_c hT) ⟨rfl, Nat.le_of_ble_eq_true rfl, Nat.le_of_ble_eq_true rfl⟩ (s_markOf hT h hw ha hs hb hw2 ?_)
  refine z_iload_n zi_47_7 rfl ?_
  refine z_iadd zi_47_8 ?_
  refine z_aload_n zi_47_9 rfl ?_
  refine z_iload_n zi_47_10 rfl ?_
  refine z_iload_n zi_47_11 rfl ?_
  refine z_cv2i zi_47_12 rfl rfl (zt_c hT) ⟨rfl, Nat.le_of_ble_eq_true rfl, Nat.le_of_ble_eq_true rfl⟩ (s_teethOf hT h hw ha hs hb hw2 ?_)
  refine z_cs2i zi_47_13 rfl rfl ⟨by decide, rfl, Nat.le_of_ble_eq_true rfl, Nat.le_of_ble_eq_true rfl⟩ (s_remainder (by omega) (by omega) ?_)
  refine z_cv3v zi_47_14 rfl rfl rfl (zt_c hT) ⟨rfl, Nat.le_of_ble_eq_true rfl, Nat.le_of_ble_eq_true rfl⟩ (s_setMark hT ha (by omega) hb hw2 ?_)
  refine z_vreturn zi_47_15 rfl k
theorem s_turnTrain {b : Int} (hT : zTa T) (h : zTB T t g) (hw : gWF g) (hb : -99 ≤ b ∧ b ≤ 99) (k : ∀ t', zTB T t' (gturn g b) → zFr T t t' → Kv t') : ZX (d + 3) 46 0 [(0, .ref T), (1, .int (zi b))] [] t (zKv Kv) := by
  have hn := hw.n
  have loop : ∀ (j n : Nat), n + j = gL g → ∀ t', zTB T t' (gsM g (gtm g b n)) → zFr T t t' → ZX (d + 3) 46 4 [(3, .int (zi n)), (2, .int (zi (b * gA g n))), (0, .ref T)] [] t' (zKv Kv) := by
    intro j
    induction j with
    | zero =>
      intro n e t' h' hf
      have e1 : n = gL g := by omega
      subst e1
      refine z_iload_n zi_46_4 rfl ?_
      refine z_aload_n zi_46_5 rfl ?_
      refine z_getfield zi_46_6 (zt_f7 hT) ?_
      rw [h'.l]
      show ZX _ _ _ _ (.int (zi ((gL g : Nat) : Int)) :: _) _ _
      refine z_icmp_ge_t zi_46_7 (by omega) (by omega) ?_
      refine z_vreturn zi_46_36 rfl (k t' h' hf)
    | succ j ih =>
      intro n e t' h' hf
      have hw' : gWF (gsM g (gtm g b n)) := ⟨hw.1, hw.2.1, hw.2.2.1, hw.2.2.2.1, fun s w hs hw2 => ⟨(hw.t hs hw2).1, (hw.t hs hw2).2.1, (gtm_wf hw b n hs hw2).1, (gtm_wf hw b n hs hw2).2⟩, hw.2.2.2.2.2.1, hw.2.2.2.2.2.2.1, hw.2.2.2.2.2.2.2⟩
      have hr := hw.r (p := n) (by omega)
      have hap := gA_pm g n
      have hbp := gB_pm g n
      have hA : -99 ≤ b * gA g n ∧ b * gA g n ≤ 99 := by rcases hap with q | q <;> rw [q] <;> omega
      have hB : -99 ≤ b * gB g n ∧ b * gB g n ≤ 99 := by rcases hbp with q | q <;> rw [q] <;> omega
      have ePi : gP (gsM g (gtm g b n)) (gR g n) = some n := gPi_at hw' (p := n) (show n < gL g by omega)
      have eF : gFi (gsM g (gtm g b n)) (gR g n) = (gF g n : Int) := by unfold gFi; rw [ePi]; rfl
      have hl' : t' T 7 = (gL g : Int) := h'.l
      refine z_iload_n zi_46_4 rfl ?_
      refine z_aload_n zi_46_5 rfl ?_
      refine z_getfield zi_46_6 (zt_f7 hT) ?_
      rw [hl']
      refine z_icmp_ge_f zi_46_7 (by omega) (by omega) ?_
      refine z_aload_n zi_46_8 rfl ?_
      refine z_iload_n zi_46_9 rfl ?_
      refine z_cv1i zi_46_10 rfl (zt_c hT) ⟨rfl, Nat.le_of_ble_eq_true rfl, Nat.le_of_ble_eq_true rfl⟩ (s_stoneInTrain (p := n) hT h' hw' rfl (show n < gL g by omega) ?_)
      refine z_istore zi_46_11 rfl ?_
      refine z_aload_n zi_46_12 rfl ?_
      refine z_iload zi_46_13 rfl ?_
      refine z_aload_n zi_46_14 rfl ?_
      refine z_iload zi_46_15 rfl ?_
      refine z_cv1i zi_46_16 rfl (zt_c hT) ⟨rfl, Nat.le_of_ble_eq_true rfl, Nat.le_of_ble_eq_true rfl⟩ (s_frontOf (s := gR g n) hT h' hw' rfl hr.1 ?_)
      rw [eF]
      refine z_iload_n zi_46_17 rfl ?_
      refine z_cv3v zi_46_18 rfl rfl rfl (zt_c hT) ⟨rfl, Nat.le_of_ble_eq_true rfl, Nat.le_of_ble_eq_true rfl⟩ (s_turnWheel (s := gR g n) (w := gF g n) hT h' hw' rfl hr.1 rfl hr.2 (by omega) ?_)
      have h1 := zTB_M h' hr.2 ((gM (gsM g (gtm g b n)) (gR g n) (gF g n) + b * gA g n) % gT (gsM g (gtm g b n)) (gR g n) (gF g n)) (s := gR g n)
      have f1 := hf.up (b := T + 3) (n := 2 * gR g n + gF g n) (v := (gM (gsM g (gtm g b n)) (gR g n) (gF g n) + b * gA g n) % gT (gsM g (gtm g b n)) (gR g n) (gF g n)) (by omega)
      have em : gM (gsM g (gtm g b n)) (gR g n) (gF g n) = gM g (gR g n) (gF g n) := gtm_new hw (by omega)
      have em2 : gM (gsM g (gtm g b n)) (gR g n) (1 - gF g n) = gM g (gR g n) (1 - gF g n) := gtm_new hw (by omega)
      rw [em] at h1 f1 ⊢
      generalize ht1 : zup t' (T + 3) (2 * gR g n + gF g n) ((gM g (gR g n) (gF g n) + b * gA g n) % gT (gsM g (gtm g b n)) (gR g n) (gF g n)) = t1 at h1 f1 ⊢
      have ht0 := hw.t hr.1 hr.2
      have hw1 : gWF (gsM (gsM g (gtm g b n)) (fup2 (gM (gsM g (gtm g b n))) (gR g n) (gF g n) ((gM g (gR g n) (gF g n) + b * gA g n) % gT (gsM g (gtm g b n)) (gR g n) (gF g n)))) := by
        refine ⟨hw.1, hw.2.1, hw.2.2.1, hw.2.2.2.1, fun s w hs hw2 => ⟨(hw.t hs hw2).1, (hw.t hs hw2).2.1, ?_⟩, hw.2.2.2.2.2.1, hw.2.2.2.2.2.2.1, hw.2.2.2.2.2.2.2⟩
        show 0 ≤ fup2 (gtm g b n) (gR g n) (gF g n) ((gM g (gR g n) (gF g n) + b * gA g n) % gT g (gR g n) (gF g n)) s w ∧ fup2 (gtm g b n) (gR g n) (gF g n) ((gM g (gR g n) (gF g n) + b * gA g n) % gT g (gR g n) (gF g n)) s w < gT g s w
        unfold fup2
        split
        · rename_i q
          rw [q.1, q.2]
          exact ⟨Int.emod_nonneg _ (by omega), Int.emod_lt_of_pos _ (by omega)⟩
        · exact gtm_wf hw b n hs hw2
      refine z_aload_n zi_46_19 rfl ?_
      refine z_iload zi_46_20 rfl ?_
      refine z_iload_n zi_46_21 rfl ?_
      refine z_cv2i zi_46_22 rfl rfl (zt_c hT) ⟨rfl, Nat.le_of_ble_eq_true rfl, Nat.le_of_ble_eq_true rfl⟩ (s_backWay (p := n) hT h1 hw1 (show n < gL g by omega) rfl ?_)
      have e2 : (if gK g (gR g n) = 2 then b * gA g n else -(b * gA g n)) = b * gB g n := by
        rw [gB_eq g n]
        split
        · rfl
        · rw [Int.mul_neg]
      refine z_top e2 ?_
      refine z_istore_n zi_46_23 rfl ?_
      refine z_aload_n zi_46_24 rfl ?_
      refine z_iload zi_46_25 rfl ?_
      refine z_aload_n zi_46_26 rfl ?_
      refine z_iload zi_46_27 rfl ?_
      refine z_cv1i zi_46_28 rfl (zt_c hT) ⟨rfl, Nat.le_of_ble_eq_true rfl, Nat.le_of_ble_eq_true rfl⟩ (s_backOf (s := gR g n) hT h1 hw1 rfl hr.1 ?_)
      have eF1 : 1 - gFi (gsM (gsM g (gtm g b n)) (fup2 (gM (gsM g (gtm g b n))) (gR g n) (gF g n) ((gM g (gR g n) (gF g n) + b * gA g n) % gT (gsM g (gtm g b n)) (gR g n) (gF g n)))) (gR g n) = ((1 - gF g n : Nat) : Int) := by
        have : gFi (gsM (gsM g (gtm g b n)) (fup2 (gM (gsM g (gtm g b n))) (gR g n) (gF g n) ((gM g (gR g n) (gF g n) + b * gA g n) % gT (gsM g (gtm g b n)) (gR g n) (gF g n)))) (gR g n) = gFi (gsM g (gtm g b n)) (gR g n) := rfl
        rw [this, eF]
        omega
      refine z_top eF1 ?_
      refine z_iload_n zi_46_29 rfl ?_
      refine z_cv3v zi_46_30 rfl rfl rfl (zt_c hT) ⟨rfl, Nat.le_of_ble_eq_true rfl, Nat.le_of_ble_eq_true rfl⟩ (s_turnWheel (s := gR g n) (w := 1 - gF g n) hT h1 hw1 rfl hr.1 rfl (by omega) (by omega) ?_)
      have e3 : gM (gsM (gsM g (gtm g b n)) (fup2 (gM (gsM g (gtm g b n))) (gR g n) (gF g n) ((gM g (gR g n) (gF g n) + b * gA g n) % gT (gsM g (gtm g b n)) (gR g n) (gF g n)))) (gR g n) (1 - gF g n) = gM g (gR g n) (1 - gF g n) := by
        show fup2 (gtm g b n) (gR g n) (gF g n) _ (gR g n) (1 - gF g n) = _
        unfold fup2
        rw [if_neg (by omega)]
        exact em2
      rw [e3]
      have h2 := zTB_M h1 (w := 1 - gF g n) (by omega) ((gM g (gR g n) (1 - gF g n) + b * gB g n) % gT g (gR g n) (1 - gF g n)) (s := gR g n)
      have f2 := f1.up (b := T + 3) (n := 2 * gR g n + (1 - gF g n)) (v := (gM g (gR g n) (1 - gF g n) + b * gB g n) % gT g (gR g n) (1 - gF g n)) (by omega)
      refine z_iload_n zi_46_31 rfl ?_
      refine z_ineg zi_46_32 ?_
      refine z_istore_n zi_46_33 rfl ?_
      refine z_iinc zi_46_34 rfl rfl ?_
      refine z_goto zi_46_35 ?_
      have e5 : -(b * gB g n) = b * gA g (n + 1) := by rw [gA_s, Int.mul_neg]
      rw [e5]
      refine z_loc (lv' := [(3, .int (zi ((n + 1 : Nat) : Int))), (2, .int (zi (b * gA g (n + 1)))), (0, .ref T)]) rfl ?_
      refine ih (n + 1) (by omega) _ (zTB_Mx h2 (fun s w hs hw2 => ?_)) f2
      show gtm g b (n + 1) s w = fup2 (fup2 (gtm g b n) (gR g n) (gF g n) ((gM g (gR g n) (gF g n) + b * gA g n) % gT g (gR g n) (gF g n))) (gR g n) (1 - gF g n) ((gM g (gR g n) (1 - gF g n) + b * gB g n) % gT g (gR g n) (1 - gF g n)) s w
      rw [gtm_step]
      unfold fup2
      by_cases q : s = gR g n
      · rw [if_pos q]
        by_cases q2 : w = gF g n
        · rw [if_pos q2, if_neg (by omega), if_pos ⟨q, q2⟩, q, q2]
        · rw [if_neg q2, if_pos (by omega), q, show w = 1 - gF g n by omega]
      · rw [if_neg q, if_neg (fun z => q z.1), if_neg (fun z => q z.1)]
  refine z_iload_n zi_46_0 rfl ?_
  refine z_istore_n zi_46_1 rfl ?_
  refine z_iconst zi_46_2 ?_
  refine z_istore_n zi_46_3 rfl ?_
  refine z_loc (lv' := [(3, .int (zi ((0 : Nat) : Int))), (2, .int (zi b)), (0, .ref T)]) rfl ?_
  refine z_lv (lv' := [(3, .int (zi ((0 : Nat) : Int))), (2, .int (zi (b * gA g 0))), (0, .ref T)]) (by rw [gA_0, Int.mul_one]) ?_
  exact loop (gL g) 0 (by omega) t (zTB_Mx (g := g) (m := gM g) h (fun s w _ _ => rfl)) zFr.rf
end
