section
variable {d T : Nat} {t : zMI} {g : zG} {K : Int → zMI → Prop} {Kv : zMI → Prop}
theorem gup_c {g g' : zG} (hm : gM g' = gM g) (hr : gR g' = gR g) : ∀ n, gup g' n = gup g n
  | 0 => rfl
  | n + 1 => by
    show gup g' n + ((if gM g' (gR g' n) 0 = 0 then 1 else 0) + (if gM g' (gR g' n) 1 = 0 then 1 else 0)) = gup g n + ((if gM g (gR g n) 0 = 0 then 1 else 0) + (if gM g (gR g n) 1 = 0 then 1 else 0))
    rw [hm, hr, gup_c hm hr n]
theorem ghv_c {g g' : zG} (hm : gK g' = gK g) (hr : gR g' = gR g) : ∀ n, ghv g' n = ghv g n
  | 0 => rfl
  | n + 1 => by
    show ghv g' n + (if gK g' (gR g' n) = 3 then 1 else 0) = ghv g n + (if gK g (gR g n) = 3 then 1 else 0)
    rw [hm, hr, ghv_c hm hr n]
theorem gsc_c {g g' : zG} (hl : gL g' = gL g) (hk : gK g' = gK g) (hm : gM g' = gM g) (hr : gR g' = gR g) : gsc g' = gsc g := by
  unfold gsc
  rw [hl, gup_c hm hr, ghv_c hk hr]
theorem gturn_0 {g : zG} (h : gL g = 0) (b : Int) : gturn g b = g := by
  have e : gtm g b (gL g) = gM g := by
    rw [h]
    rfl
  unfold gturn
  rw [e]
  rfl
theorem s_layDown {a b : Int} {s f : Nat} (hT : zTa T) (h : zTB T t g) (hw : gWF g) (ha : a = (s : Int)) (hs : s < gN g) (hb : b = (f : Int)) (hf : f < 2) (hn : gP g s = none) (ho : gO g = 0) (k : ∀ t', zTB T t' (glay g s f) → zFr T t t' → K (gsc (gput g s f)) t') : ZX (d + 4) 37 0 [(0, .ref T), (1, .int (zi a)), (2, .int (zi b))] [] t (zKi K) := by
  have hn12 := hw.n
  subst ha hb
  have hlt : gL g < gN g := by
    have := (gput_wf hw hs hf (gpl_none hn) ho).n
    have e1 : gL (gput g s f) = gL g + 1 := by show gL (gpre g) + 1 = _; rw [gpre_L]
    have e2 : gN (gput g s f) = gN g := by show gN (gpre g) = _; rw [gpre_N]
    omega
  have rest : ∀ t1 way, zTB T t1 (gpre g) → zFr T t t1 → ZX (d + 4) 37 10 [(3, .int (zi way)), (0, .ref T), (1, .int (zi s)), (2, .int (zi f))] [] t1 (zKi K) := by
    intro t1 way h1 f1
    have w1 := gpre_wf hw
    have hs1 : s < gN (gpre g) := by rw [gpre_N]; exact hs
    have hn1 : gP (gpre g) s = none := by show gpl (gR (gpre g)) (gL (gpre g)) s = none; rw [gpre_R, gpre_L]; exact hn
    have hL1 : gL (gpre g) = gL g := gpre_L g
    have hh := hw.h hs
    refine z_aload_n zi_37_10 rfl ?_
    refine z_iload_n zi_37_11 rfl ?_
    refine z_cv1i zi_37_12 rfl (zt_c hT) ⟨rfl, Nat.le_of_ble_eq_true rfl, Nat.le_of_ble_eq_true rfl⟩ (s_handOf (s := s) hT h1 w1 rfl hs1 ?_)
    rw [gpre_H]
    refine z_istore zi_37_13 rfl ?_
    refine z_aload_n zi_37_14 rfl ?_
    refine z_iload_n zi_37_15 rfl ?_
    refine z_cv1v zi_37_16 rfl (zt_c hT) ⟨rfl, Nat.le_of_ble_eq_true rfl, Nat.le_of_ble_eq_true rfl⟩ (s_setNotLaid (s := s) hT rfl (by omega) ?_)
    refine z_aload_n zi_37_17 rfl ?_
    refine z_getfield zi_37_18 (zt_f5 hT) ?_
    refine z_iload_n zi_37_19 rfl ?_
    refine z_aload_n zi_37_20 rfl ?_
    refine z_getfield zi_37_21 (zt_f7 hT) ?_
    simp (disch := omega) only [zup_o]
    rw [h1.l]
    refine z_cs3v zi_37_22 rfl rfl rfl ⟨by decide, rfl, Nat.le_of_ble_eq_true rfl, Nat.le_of_ble_eq_true rfl⟩ (s_put (n := s) (zt_a5 hT) (by omega) rfl (by omega) ?_)
    refine z_aload_n zi_37_23 rfl ?_
    refine z_getfield zi_37_24 (zt_f6 hT) ?_
    refine z_iload_n zi_37_25 rfl ?_
    refine z_iload_n zi_37_26 rfl ?_
    refine z_cs3v zi_37_27 rfl rfl rfl ⟨by decide, rfl, Nat.le_of_ble_eq_true rfl, Nat.le_of_ble_eq_true rfl⟩ (s_put (n := s) (zt_a6 hT) (by omega) rfl (by omega) ?_)
    refine z_aload_n zi_37_28 rfl ?_
    refine z_getfield zi_37_29 (zt_f8 hT) ?_
    refine z_aload_n zi_37_30 rfl ?_
    refine z_getfield zi_37_31 (zt_f7 hT) ?_
    simp (disch := omega) only [zup_o]
    rw [h1.l]
    refine z_iload_n zi_37_32 rfl ?_
    refine z_cs3v zi_37_33 rfl rfl rfl ⟨by decide, rfl, Nat.le_of_ble_eq_true rfl, Nat.le_of_ble_eq_true rfl⟩ (s_put (n := gL (gpre g)) (zt_a7 hT) (by omega) rfl (by omega) ?_)
    refine z_aload_n zi_37_34 rfl ?_
    refine z_dup zi_37_35 rfl ?_
    refine z_getfield zi_37_36 (zt_f7 hT) ?_
    simp (disch := omega) only [zup_o]
    rw [h1.l]
    refine z_iconst zi_37_37 ?_
    refine z_iadd zi_37_38 ?_
    refine z_putfield zi_37_39 (zt_i7 hT) (Or.inl rfl) ?_
    have h2 := zTB_app h1 w1 (f := f) hs1 hn1
    have f2 : zFr T t1 (zup (zup (zup (zup (zup (zup (zup t1 (T + 4) s (-4)) (T + 5) s (-4)) (T + 6) s (-4)) (T + 5) s (gL (gpre g))) (T + 6) s f) (T + 7) (gL (gpre g)) s) T 7 ((gL (gpre g) : Int) + 1)) := by
      refine zFr.up (zFr.up (zFr.up (zFr.up (zFr.up (zFr.up (zFr.up zFr.rf ?_) ?_) ?_) ?_) ?_) ?_) ?_ <;> omega
    generalize (zup (zup (zup (zup (zup (zup (zup t1 (T + 4) s (-4)) (T + 5) s (-4)) (T + 6) s (-4)) (T + 5) s (gL (gpre g))) (T + 6) s f) (T + 7) (gL (gpre g)) s) T 7 ((gL (gpre g) : Int) + 1)) = t2 at h2 f2 ⊢
    have w2 : gWF (gsH (gapp (gpre g) s f) (fup (gH (gpre g)) s (-4))) := gsH_wf (gput_wf hw hs hf (gpl_none hn) ho) (fun s' hs' => by
      unfold fup
      split
      · omega
      · exact w1.h hs')
    refine z_aload_n zi_37_40 rfl ?_
    refine z_cv0i zi_37_41  (zt_c hT) ⟨rfl, Nat.le_of_ble_eq_true rfl, Nat.le_of_ble_eq_true rfl⟩ (s_scoreNow hT h2 w2 ?_)
    have esc : gsc (gsH (gapp (gpre g) s f) (fup (gH (gpre g)) s (-4))) = gsc (gput g s f) := gsc_c rfl rfl rfl rfl
    rw [esc]
    refine z_istore zi_37_42 rfl ?_
    refine z_iload zi_37_43 rfl ?_
    have fin : ∀ t3, zTB T t3 (glay g s f) → zFr T t2 t3 → ZX (d + 4) 37 55 [(5, .int (zi (gsc (gput g s f)))), (4, .int (zi (gH g s))), (3, .int (zi way)), (0, .ref T), (1, .int (zi s)), (2, .int (zi f))] [] t3 (zKi K) := by
      intro t3 h3 f3
      refine z_iload zi_37_55 rfl ?_
      refine z_ireturn zi_37_56 rfl (k t3 h3 ((f1.tr f2).tr f3))
    have eH : gH (gpre g) = gH g := gpre_H g
    have eS : gS (gpre g) = gS g := gpre_S g
    refine z_cs1i zi_37_44 rfl ⟨by decide, rfl, Nat.le_of_ble_eq_true rfl, Nat.le_of_ble_eq_true rfl⟩ (s_isHand (by omega) (fun q => ?_) (fun q => ?_))
    · refine z_if_eq_f zi_37_45 (by omega) (by omega) ?_
      obtain ⟨hd, ehd⟩ : ∃ hd : Nat, gH g s = (hd : Int) := ⟨(gH g s).toNat, by omega⟩
      refine z_aload_n zi_37_46 rfl ?_
      refine z_getfield zi_37_47 (zt_f10 hT) ?_
      refine z_iload zi_37_48 rfl ?_
      refine z_aload_n zi_37_49 rfl ?_
      refine z_iload zi_37_50 rfl ?_
      refine z_cv1i zi_37_51 rfl (zt_c hT) ⟨rfl, Nat.le_of_ble_eq_true rfl, Nat.le_of_ble_eq_true rfl⟩ (s_scoreOf (s := hd) hT h2 ehd (by omega) ?_)
      refine z_iload zi_37_52 rfl ?_
      refine z_iadd zi_37_53 ?_
      refine z_cs3v zi_37_54 rfl rfl rfl ⟨by decide, rfl, Nat.le_of_ble_eq_true rfl, Nat.le_of_ble_eq_true rfl⟩ (s_put (n := hd) (zt_a8 hT) (by omega) ehd (by omega) ?_)
      refine z_loc (lv' := [(5, .int (zi (gsc (gput g s f)))), (4, .int (zi (gH g s))), (3, .int (zi way)), (0, .ref T), (1, .int (zi s)), (2, .int (zi f))]) rfl ?_
      refine fin _ ?_ (zFr.rf.up (by omega))
      have h3 := zTB_S h2 (s := hd) (by omega) (gS (gsH (gapp (gpre g) s f) (fup (gH (gpre g)) s (-4))) hd + gsc (gput g s f))
      have h4 := zTB_Sx (f' := fun h => if gH g s = (h : Int) then gS g h + gsc (gput g s f) else gS g h) h3 (by
        show (if gH g s = ((0 : Nat) : Int) then gS g 0 + gsc (gput g s f) else gS g 0) = fup (gS (gpre g)) hd (gS (gpre g) hd + gsc (gput g s f)) 0
        unfold fup
        rw [eS]
        by_cases z : hd = 0
        · rw [if_pos (by omega), if_pos z.symm, z]
        · rw [if_neg (by omega), if_neg (fun y => z y.symm)]) (by
        show (if gH g s = ((1 : Nat) : Int) then gS g 1 + gsc (gput g s f) else gS g 1) = fup (gS (gpre g)) hd (gS (gpre g) hd + gsc (gput g s f)) 1
        unfold fup
        rw [eS]
        by_cases z : hd = 1
        · rw [if_pos (by omega), if_pos z.symm, z]
        · rw [if_neg (by omega), if_neg (fun y => z y.symm)])
      rw [eH] at h4
      exact h4
    · refine z_if_eq_t zi_37_45 (by omega) (by omega) ?_
      refine z_loc (lv' := [(5, .int (zi (gsc (gput g s f)))), (4, .int (zi (gH g s))), (3, .int (zi way)), (0, .ref T), (1, .int (zi s)), (2, .int (zi f))]) rfl ?_
      refine fin _ ?_ zFr.rf
      have h4 := zTB_Sx (g := gsH (gapp (gpre g) s f) (fup (gH (gpre g)) s (-4))) (f := gS (gsH (gapp (gpre g) s f) (fup (gH (gpre g)) s (-4)))) (f' := fun h => if gH g s = (h : Int) then gS g h + gsc (gput g s f) else gS g h) h2 (by
        show (if gH g s = ((0 : Nat) : Int) then gS g 0 + gsc (gput g s f) else gS g 0) = gS (gpre g) 0
        rw [eS, if_neg (by omega)]) (by
        show (if gH g s = ((1 : Nat) : Int) then gS g 1 + gsc (gput g s f) else gS g 1) = gS (gpre g) 1
        rw [eS, if_neg (by omega)])
      rw [eH] at h4
      exact h4
  refine z_aload_n zi_37_0 rfl ?_
  by_cases hL : gL g = 0
  · refine z_cv0i zi_37_1  (zt_c hT) ⟨rfl, Nat.le_of_ble_eq_true rfl, Nat.le_of_ble_eq_true rfl⟩ (s_lastBackWay0 hT h hL ?_)
    refine z_istore_n zi_37_2 rfl ?_
    refine z_aload_n zi_37_3 rfl ?_
    refine z_iload_n zi_37_4 rfl ?_
    have e0 : gLk g (-1) = 0 := by
      unfold gLk
      rw [if_neg (by omega), hL]
      rfl
    refine z_cv1i zi_37_5 rfl (zt_c hT) ⟨rfl, Nat.le_of_ble_eq_true rfl, Nat.le_of_ble_eq_true rfl⟩ (s_lockOf hT h hw (Or.inr rfl) ?_)
    rw [e0]
    refine z_if_ne_f zi_37_6 (by omega) (by omega) ?_
    refine z_aload_n zi_37_7 rfl ?_
    refine z_iload_n zi_37_8 rfl ?_
    refine z_cv1v zi_37_9 rfl (zt_c hT) ⟨rfl, Nat.le_of_ble_eq_true rfl, Nat.le_of_ble_eq_true rfl⟩ (s_turnTrain hT h hw (by omega) (fun t1 h1 f1 => ?_))
    rw [gturn_0 hL] at h1
    refine z_loc (lv' := [(3, .int (zi (-1))), (0, .ref T), (1, .int (zi s)), (2, .int (zi f))]) rfl ?_
    exact rest t1 _ (by unfold gpre; rw [if_pos hL]; exact h1) f1
  · have hB := gB_pm g (gL g - 1)
    have hlr := gLk_rng hw (gB g (gL g - 1))
    refine z_cv0i zi_37_1  (zt_c hT) ⟨rfl, Nat.le_of_ble_eq_true rfl, Nat.le_of_ble_eq_true rfl⟩ (s_lastBackWay hT h hw (by omega) ?_)
    refine z_istore_n zi_37_2 rfl ?_
    refine z_aload_n zi_37_3 rfl ?_
    refine z_iload_n zi_37_4 rfl ?_
    refine z_cv1i zi_37_5 rfl (zt_c hT) ⟨rfl, Nat.le_of_ble_eq_true rfl, Nat.le_of_ble_eq_true rfl⟩ (s_lockOf hT h hw hB ?_)
    refine z_if_ne zi_37_6 (by omega) (fun c => ?_) (fun c => ?_)
    · refine z_loc (lv' := [(3, .int (zi (gB g (gL g - 1)))), (0, .ref T), (1, .int (zi s)), (2, .int (zi f))]) rfl ?_
      exact rest t _ (by unfold gpre; rw [if_neg hL, if_neg c]; exact h) zFr.rf
    · refine z_aload_n zi_37_7 rfl ?_
      refine z_iload_n zi_37_8 rfl ?_
      refine z_cv1v zi_37_9 rfl (zt_c hT) ⟨rfl, Nat.le_of_ble_eq_true rfl, Nat.le_of_ble_eq_true rfl⟩ (s_turnTrain hT h hw (by omega) (fun t1 h1 f1 => ?_))
      refine z_loc (lv' := [(3, .int (zi (gB g (gL g - 1)))), (0, .ref T), (1, .int (zi s)), (2, .int (zi f))]) rfl ?_
      exact rest t1 _ (by unfold gpre; rw [if_neg hL, if_pos (by omega)]; exact h1) f1
theorem s_lastTeeth (hT : zTa T) (h : zTB T t g) (hw : gWF g) (hL : 0 < gL g) (k : K (gT g (gR g (gL g - 1)) (1 - gF g (gL g - 1))) t) : ZX (d + 1) 32 0 [(0, .ref T)] [] t (zKi K) := by
  have hn := hw.n
  have hr := hw.r (p := gL g - 1) (by omega)
  have eF : gFi g (gR g (gL g - 1)) = (gF g (gL g - 1) : Int) := by
    unfold gFi
    rw [gPi_at hw (show gL g - 1 < gL g by omega)]
  refine z_aload_n zi_32_0 rfl ?_
  refine z_getfield zi_32_1 (zt_f8 hT) ?_
  refine z_aload_n zi_32_2 rfl ?_
  refine z_getfield zi_32_3 (zt_f7 hT) ?_
  rw [h.l]
  refine z_iconst zi_32_4 ?_
  refine z_isub zi_32_5 ?_
  refine z_cs2i zi_32_6 rfl rfl ⟨by decide, rfl, Nat.le_of_ble_eq_true rfl, Nat.le_of_ble_eq_true rfl⟩ (s_at (n := gL g - 1) (zt_a7 hT) (by omega) (by omega) (by omega) ?_)
  rw [h.r (show gL g - 1 < gL g by omega)]
  refine z_istore_n zi_32_7 rfl ?_
  refine z_aload_n zi_32_8 rfl ?_
  refine z_getfield zi_32_9 (zt_f2 hT) ?_
  refine z_iconst zi_32_10 ?_
  refine z_iload_n zi_32_11 rfl ?_
  refine z_imul zi_32_12 ?_
  refine z_iconst zi_32_13 ?_
  refine z_iadd zi_32_14 ?_
  refine z_aload_n zi_32_15 rfl ?_
  refine z_getfield zi_32_16 (zt_f6 hT) ?_
  refine z_iload_n zi_32_17 rfl ?_
  refine z_cs2i zi_32_18 rfl rfl ⟨by decide, rfl, Nat.le_of_ble_eq_true rfl, Nat.le_of_ble_eq_true rfl⟩ (s_at (n := gR g (gL g - 1)) (zt_a6 hT) (by omega) rfl (by omega) ?_)
  rw [h.f hr.1, eF]
  refine z_isub zi_32_19 ?_
  refine z_cs2i zi_32_20 rfl rfl ⟨by decide, rfl, Nat.le_of_ble_eq_true rfl, Nat.le_of_ble_eq_true rfl⟩ (s_at (n := 2 * gR g (gL g - 1) + (1 - gF g (gL g - 1))) (zt_a2 hT) (by omega) (by omega) (by omega) ?_)
  rw [h.t hr.1 (by omega)]
  refine z_ireturn zi_32_21 rfl k
theorem s_areNear {a b : Int} (ha : -100 ≤ a ∧ a ≤ 100) (hb : -100 ≤ b ∧ b ≤ 100) (kt : -1 ≤ a - b ∧ a - b ≤ 1 → K 1 t) (kf : ¬ (-1 ≤ a - b ∧ a - b ≤ 1) → K 0 t) : ZX (d + 1) 33 0 [(0, .int (zi a)), (1, .int (zi b))] [] t (zKi K) := by
  refine z_iload_n zi_33_0 rfl ?_
  refine z_iload_n zi_33_1 rfl ?_
  refine z_isub zi_33_2 ?_
  refine z_cs1i zi_33_3 rfl ⟨by decide, rfl, Nat.le_of_ble_eq_true rfl, Nat.le_of_ble_eq_true rfl⟩ (s_abs (by omega) ?_)
  by_cases c : 0 ≤ a - b
  · rw [if_pos c]
    refine z_iconst zi_33_4 ?_
    refine z_icmp_gt zi_33_5 (by omega) (fun c2 => ?_) (fun c2 => ?_)
    · refine z_iconst zi_33_8 ?_
      refine z_zreturn zi_33_9 rfl (by omega) (kf (by omega))
    · refine z_iconst zi_33_6 ?_
      refine z_goto zi_33_7 ?_
      refine z_zreturn zi_33_9 rfl (by omega) (kt (by omega))
  · rw [if_neg c]
    refine z_iconst zi_33_4 ?_
    refine z_icmp_gt zi_33_5 (by omega) (fun c2 => ?_) (fun c2 => ?_)
    · refine z_iconst zi_33_8 ?_
      refine z_zreturn zi_33_9 rfl (by omega) (kf (by omega))
    · refine z_iconst zi_33_6 ?_
      refine z_goto zi_33_7 ?_
      refine z_zreturn zi_33_9 rfl (by omega) (kt (by omega))
theorem s_fits {a b : Int} {s f : Nat} (hT : zTa T) (h : zTB T t g) (hw : gWF g) (ha : a = (s : Int)) (hs : s < gN g) (hb : b = (f : Int)) (hf : f < 2) (kt : gfit g s f → K 1 t) (kf : ¬ gfit g s f → K 0 t) : ZX (d + 2) 34 0 [(0, .ref T), (1, .int (zi a)), (2, .int (zi b))] [] t (zKi K) := by
  have hn := hw.n
  refine z_aload_n zi_34_0 rfl ?_
  refine z_getfield zi_34_1 (zt_f7 hT) ?_
  rw [h.l]
  refine z_if_eq zi_34_2 (by omega) (fun c => ?_) (fun c => ?_)
  · refine z_iconst zi_34_11 ?_
    refine z_goto zi_34_12 ?_
    refine z_zreturn zi_34_14 rfl (by omega) (kt (Or.inl (by omega)))
  · have hL : 0 < gL g := by omega
    have hr := hw.r (p := gL g - 1) (by omega)
    have h1 := hw.t hs hf
    have h2 := hw.t hr.1 (show 1 - gF g (gL g - 1) < 2 by omega)
    refine z_aload_n zi_34_3 rfl ?_
    refine z_iload_n zi_34_4 rfl ?_
    refine z_iload_n zi_34_5 rfl ?_
    refine z_cv2i zi_34_6 rfl rfl (zt_c hT) ⟨rfl, Nat.le_of_ble_eq_true rfl, Nat.le_of_ble_eq_true rfl⟩ (s_teethOf hT h hw ha hs hb hf ?_)
    refine z_aload_n zi_34_7 rfl ?_
    refine z_cv0i zi_34_8  (zt_c hT) ⟨rfl, Nat.le_of_ble_eq_true rfl, Nat.le_of_ble_eq_true rfl⟩ (s_lastTeeth hT h hw hL ?_)
    refine z_cs2i zi_34_9 rfl rfl ⟨by decide, rfl, Nat.le_of_ble_eq_true rfl, Nat.le_of_ble_eq_true rfl⟩ (s_areNear (by omega) (by omega) (fun q => ?_) (fun q => ?_))
    · refine z_if_eq_f zi_34_10 (by omega) (by omega) ?_
      refine z_iconst zi_34_11 ?_
      refine z_goto zi_34_12 ?_
      refine z_zreturn zi_34_14 rfl (by omega) (kt (Or.inr q))
    · refine z_if_eq_t zi_34_10 (by omega) (by omega) ?_
      refine z_iconst zi_34_13 ?_
      refine z_zreturn zi_34_14 rfl (by omega) (kf (fun z => by rcases z with z | z; omega; exact q z))
theorem s_mayLay {hd a : Int} {n : Nat} (hT : zTa T) (h : zTB T t g) (hw : gWF g) (hh : hd = 0 ∨ hd = 1) (ha : a = (n : Int)) (hn2 : n < 24) (kt : n / 2 < gN g → gH g (n / 2) = hd → gfit g (n / 2) (n % 2) → K 1 t) (kf : ¬ (n / 2 < gN g ∧ gH g (n / 2) = hd ∧ gfit g (n / 2) (n % 2)) → K 0 t) : ZX (d + 3) 35 0 [(0, .ref T), (1, .int (zi hd)), (2, .int (zi a))] [] t (zKi K) := by
  have hn := hw.n
  subst ha
  have e1 : (n : Int).tdiv 2 = ((n / 2 : Nat) : Int) := (Int.ofNat_tdiv n 2).symm
  have e2 : (n : Int).tmod 2 = ((n % 2 : Nat) : Int) := (Int.ofNat_tmod n 2).symm
  refine z_iload_n zi_35_0 rfl ?_
  refine z_iconst zi_35_1 ?_
  refine z_idiv zi_35_2 (by omega) ?_
  rw [e1]
  refine z_istore_n zi_35_3 rfl ?_
  refine z_aload_n zi_35_4 rfl ?_
  refine z_iload_n zi_35_5 rfl ?_
  refine z_cv1i zi_35_6 rfl (zt_c hT) ⟨rfl, Nat.le_of_ble_eq_true rfl, Nat.le_of_ble_eq_true rfl⟩ (s_hasStone hT h hw (by omega) (fun q => ?_) (fun q => ?_))
  · have hs : n / 2 < gN g := by omega
    have hh2 := hw.h hs
    refine z_if_eq_f zi_35_7 (by omega) (by omega) ?_
    refine z_aload_n zi_35_8 rfl ?_
    refine z_iload_n zi_35_9 rfl ?_
    refine z_cv1i zi_35_10 rfl (zt_c hT) ⟨rfl, Nat.le_of_ble_eq_true rfl, Nat.le_of_ble_eq_true rfl⟩ (s_handOf (s := n / 2) hT h hw rfl hs ?_)
    refine z_iload_n zi_35_11 rfl ?_
    refine z_icmp_ne zi_35_12 (by omega) (fun c => ?_) (fun c => ?_)
    · refine z_iconst zi_35_22 ?_
      refine z_zreturn zi_35_23 rfl (by omega) (kf (fun z => c z.2.1))
    · refine z_aload_n zi_35_13 rfl ?_
      refine z_iload_n zi_35_14 rfl ?_
      refine z_iload_n zi_35_15 rfl ?_
      refine z_iconst zi_35_16 ?_
      refine z_irem zi_35_17 (by omega) ?_
      rw [e2]
      refine z_cv2i zi_35_18 rfl rfl (zt_c hT) ⟨rfl, Nat.le_of_ble_eq_true rfl, Nat.le_of_ble_eq_true rfl⟩ (s_fits (s := n / 2) (f := n % 2) hT h hw rfl hs rfl (by omega) (fun z => ?_) (fun z => ?_))
      · refine z_if_eq_f zi_35_19 (by omega) (by omega) ?_
        refine z_iconst zi_35_20 ?_
        refine z_goto zi_35_21 ?_
        refine z_zreturn zi_35_23 rfl (by omega) (kt hs (by omega) z)
      · refine z_if_eq_t zi_35_19 (by omega) (by omega) ?_
        refine z_iconst zi_35_22 ?_
        refine z_zreturn zi_35_23 rfl (by omega) (kf (fun y => z y.2.2))
  · refine z_if_eq_t zi_35_7 (by omega) (by omega) ?_
    refine z_iconst zi_35_22 ?_
    refine z_zreturn zi_35_23 rfl (by omega) (kf (fun z => q (by omega)))
theorem s_canBeRing (hT : zTa T) (h : zTB T t g) (hw : gWF g) (kt : 3 ≤ gL g → -1 ≤ gT g (gR g 0) (gF g 0) - gT g (gR g (gL g - 1)) (1 - gF g (gL g - 1)) ∧ gT g (gR g 0) (gF g 0) - gT g (gR g (gL g - 1)) (1 - gF g (gL g - 1)) ≤ 1 → K 1 t) (kf : ¬ (3 ≤ gL g ∧ -1 ≤ gT g (gR g 0) (gF g 0) - gT g (gR g (gL g - 1)) (1 - gF g (gL g - 1)) ∧ gT g (gR g 0) (gF g 0) - gT g (gR g (gL g - 1)) (1 - gF g (gL g - 1)) ≤ 1) → K 0 t) : ZX (d + 2) 36 0 [(0, .ref T)] [] t (zKi K) := by
  have hn := hw.n
  refine z_aload_n zi_36_0 rfl ?_
  refine z_getfield zi_36_1 (zt_f7 hT) ?_
  refine z_iconst zi_36_2 ?_
  rw [h.l]
  refine z_icmp_ge zi_36_3 (by omega) (fun c => ?_) (fun c => ?_)
  · have hr := hw.r (p := gL g - 1) (by omega)
    have hr0 := hw.r (p := 0) (by omega)
    have h1 := hw.t hr0.1 hr0.2
    have h2 := hw.t hr.1 (show 1 - gF g (gL g - 1) < 2 by omega)
    have eF : gFi g (gR g 0) = (gF g 0 : Int) := by
      unfold gFi
      rw [gPi_at hw (show 0 < gL g by omega)]
    refine z_aload_n zi_36_6 rfl ?_
    refine z_iconst zi_36_7 ?_
    refine z_cv1i zi_36_8 rfl (zt_c hT) ⟨rfl, Nat.le_of_ble_eq_true rfl, Nat.le_of_ble_eq_true rfl⟩ (s_stoneInTrain (p := 0) hT h hw rfl (by omega) ?_)
    refine z_istore_n zi_36_9 rfl ?_
    refine z_aload_n zi_36_10 rfl ?_
    refine z_iload_n zi_36_11 rfl ?_
    refine z_aload_n zi_36_12 rfl ?_
    refine z_iload_n zi_36_13 rfl ?_
    refine z_cv1i zi_36_14 rfl (zt_c hT) ⟨rfl, Nat.le_of_ble_eq_true rfl, Nat.le_of_ble_eq_true rfl⟩ (s_frontOf (s := gR g 0) hT h hw rfl hr0.1 ?_)
    refine z_cv2i zi_36_15 rfl rfl (zt_c hT) ⟨rfl, Nat.le_of_ble_eq_true rfl, Nat.le_of_ble_eq_true rfl⟩ (s_teethOf (s := gR g 0) (w := gF g 0) hT h hw rfl hr0.1 eF hr0.2 ?_)
    refine z_aload_n zi_36_16 rfl ?_
    refine z_cv0i zi_36_17  (zt_c hT) ⟨rfl, Nat.le_of_ble_eq_true rfl, Nat.le_of_ble_eq_true rfl⟩ (s_lastTeeth hT h hw (by omega) ?_)
    refine z_cs2i zi_36_18 rfl rfl ⟨by decide, rfl, Nat.le_of_ble_eq_true rfl, Nat.le_of_ble_eq_true rfl⟩ (s_areNear (by omega) (by omega) (fun q => ?_) (fun q => ?_))
    · refine z_zreturn zi_36_19 rfl (by omega) (kt (by omega) q)
    · refine z_zreturn zi_36_19 rfl (by omega) (kf (fun z => q z.2))
  · refine z_iconst zi_36_4 ?_
    refine z_zreturn zi_36_5 rfl (by omega) (kf (by omega))
end
