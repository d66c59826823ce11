/-! the model: put, lay, take, shut, locked, crank -/
def zFz (a L : Nat) (t t' : zMI) : Prop := (∀ q, ¬ (50 ≤ q ∧ q ≤ 53) → ¬ (57 ≤ q ∧ q ≤ 58) → ¬ (a ≤ q ∧ q ≤ 60) → t' q = t q) ∧ (∀ n, n ≠ 4 → t' 50 n = t 50 n) ∧ ∀ p, p < L → t' 52 p = t 52 p ∧ t' 53 p = t 53 p
theorem zFz.rf {a L : Nat} {t : zMI} : zFz a L t t := ⟨fun _ _ _ _ => rfl, fun _ _ => rfl, fun _ _ => ⟨rfl, rfl⟩⟩
theorem zFz.tr {a L : Nat} {t t' t'' : zMI} (h : zFz a L t t') (h' : zFz a L t' t'') : zFz a L t t'' :=
  ⟨fun q x y z => (h'.1 q x y z).trans (h.1 q x y z), fun n hn => (h'.2.1 n hn).trans (h.2.1 n hn), fun p hp => ⟨(h'.2.2 p hp).1.trans (h.2.2 p hp).1, (h'.2.2 p hp).2.trans (h.2.2 p hp).2⟩⟩
theorem zFz.le {a a' L L' : Nat} {t t' : zMI} (h : zFz a L t t') (ea : a' ≤ a) (e : L' ≤ L) : zFz a' L' t t' := ⟨fun q x y z => h.1 q x y (by omega), h.2.1, fun p hp => h.2.2 p (by omega)⟩
theorem zFz.a {a L : Nat} {t t' : zMI} (h : zFz a L t t') (ha : 56 ≤ a) : zFA t t' := ⟨fun k hk => h.1 k (by omega) (by omega) (by omega), h.2.1 9 (by omega), h.2.1 17 (by omega)⟩
theorem zFz.w {a L : Nat} {t t' : zMI} (h : ∀ q, q ≠ 57 → q ≠ 58 → t' q = t q) : zFz a L t t' := ⟨fun q _ x _ => h q (by omega) (by omega), fun n _ => by rw [h 50 (by omega) (by omega)], fun p _ => by rw [h 52 (by omega) (by omega), h 53 (by omega) (by omega)]; exact ⟨rfl, rfl⟩⟩
theorem zFz.m {a L : Nat} {t t' : zMI} (h : ∀ q, q ≠ 51 → t' q = t q) : zFz a L t t' := ⟨fun q x _ _ => h q (by omega), fun n _ => by rw [h 50 (by omega)], fun p _ => by rw [h 52 (by omega), h 53 (by omega)]; exact ⟨rfl, rfl⟩⟩
theorem zRS_w {t t' : zMI} {g : zG} (h : zRS t g) (e : ∀ q, q ≠ 57 → q ≠ 58 → t' q = t q) : zRS t' g :=
  zRS_congr h (fun k _ _ => e k (by omega) (by omega)) (by rw [e 50 (by omega) (by omega)]) (by rw [e 50 (by omega) (by omega)]) (by rw [e 50 (by omega) (by omega)]) (by rw [e 50 (by omega) (by omega)])
theorem zRS_app {t : zMI} {g : zG} (h : zRS t g) (s f : Nat) : zRS (zup (zup (zup t 52 (gL g) s) 53 (gL g) f) 50 4 ((gL g : Int) + 1)) (gapp g s f) := by
  refine ⟨⟨?_, ?_, ?_, ?_⟩, fun s' hs' => ?_, fun s' w hs' hw' => ?_, fun p hp => ?_, ?_, ?_⟩
  · simp (disch := omega) only [zup_o, zup_n]; exact h.n
  · rw [zup_s]; show (gL g : Int) + 1 = ((gL g + 1 : Nat) : Int); omega
  · simp (disch := omega) only [zup_o, zup_n]; exact h.o
  · simp (disch := omega) only [zup_o, zup_n]; exact h.d
  · simp (disch := omega) only [zup_o]; exact ⟨h.k hs', h.h hs'⟩
  · simp (disch := omega) only [zup_o]; exact ⟨h.t hs' hw', h.m hs' hw'⟩
  · have hp2 : p < gL g + 1 := hp
    show _ = ((fupN (gR g) (gL g) s p : Nat) : Int) ∧ _ = ((fupN (gF g) (gL g) f p : Nat) : Int)
    unfold fupN
    simp (disch := omega) only [zup_o]
    rw [zup_at, zup_at]
    by_cases z : p = gL g
    · rw [if_pos z, if_pos z, if_pos z, if_pos z]; exact ⟨rfl, rfl⟩
    · rw [if_neg z, if_neg z, if_neg z, if_neg z]; exact ⟨h.r (by omega), h.f (by omega)⟩
  · simp (disch := omega) only [zup_o]; exact h.s (w := 0) (by omega)
  · simp (disch := omega) only [zup_o]; exact h.s (w := 1) (by omega)
theorem zRS_S {t : zMI} {g : zG} (h : zRS t g) (w : Nat) (v : Int) : zRS (zup t 54 w v) (gsS g (fup (gS g) w v)) := by
  refine ⟨⟨?_, ?_, ?_, ?_⟩, fun s' hs' => ?_, fun s' w hs' hw' => ?_, fun p hp => ?_, ?_, ?_⟩
  · rw [zup_o (by omega)]; exact h.n
  · rw [zup_o (by omega)]; exact h.l
  · rw [zup_o (by omega)]; exact h.o
  · rw [zup_o (by omega)]; exact h.d
  · rw [zup_o (by omega)]; exact ⟨h.k hs', h.h hs'⟩
  · rw [zup_o (by omega)]; exact ⟨h.t hs' hw', h.m hs' hw'⟩
  · rw [zup_o (by omega), zup_o (by omega)]; exact ⟨h.r hp, h.f hp⟩
  · show _ = fup (gS g) w v 0
    rw [zup_at]
    unfold fup
    by_cases z : 0 = w
    · rw [if_pos z, if_pos z]
    · rw [if_neg z, if_neg z]; exact h.s (w := 0) (by omega)
  · show _ = fup (gS g) w v 1
    rw [zup_at]
    unfold fup
    by_cases z : 1 = w
    · rw [if_pos z, if_pos z]
    · rw [if_neg z, if_neg z]; exact h.s (w := 1) (by omega)
theorem zRS_Sx {t : zMI} {g g' : zG} {f f' : Nat → Int} {hh : Nat → Int} (h : zRS t (gsH (gsS g f) hh)) (e0 : f' 0 = f 0) (e1 : f' 1 = f 1) : zRS t (gsH (gsS g f') hh) :=
  ⟨h.1, h.2.1, h.2.2.1, h.2.2.2.1, h.2.2.2.2.1.trans e0.symm, h.2.2.2.2.2.trans e1.symm⟩
theorem zRS_O {t : zMI} {g : zG} (h : zRS t g) (v : Int) : zRS (zup t 50 6 v) (gsO g v) := by
  refine ⟨⟨?_, ?_, ?_, ?_⟩, fun s' hs' => ?_, fun s' w hs' hw' => ?_, fun p hp => ?_, ?_, ?_⟩
  · rw [zup_n (by omega)]; exact h.n
  · rw [zup_n (by omega)]; exact h.l
  · rw [zup_s]; rfl
  · rw [zup_n (by omega)]; exact h.d
  · rw [zup_o (by omega)]; exact ⟨h.k hs', h.h hs'⟩
  · rw [zup_o (by omega)]; exact ⟨h.t hs' hw', h.m hs' hw'⟩
  · rw [zup_o (by omega), zup_o (by omega)]; exact ⟨h.r hp, h.f hp⟩
  · rw [zup_o (by omega)]; exact h.s (w := 0) (by omega)
  · rw [zup_o (by omega)]; exact h.s (w := 1) (by omega)
theorem zRS_D {t : zMI} {g : zG} (h : zRS t g) (v : Int) : zRS (zup t 50 7 v) (gsD g v) := by
  refine ⟨⟨?_, ?_, ?_, ?_⟩, fun s' hs' => ?_, fun s' w hs' hw' => ?_, fun p hp => ?_, ?_, ?_⟩
  · rw [zup_n (by omega)]; exact h.n
  · rw [zup_n (by omega)]; exact h.l
  · rw [zup_n (by omega)]; exact h.o
  · rw [zup_s]; rfl
  · rw [zup_o (by omega)]; exact ⟨h.k hs', h.h hs'⟩
  · rw [zup_o (by omega)]; exact ⟨h.t hs' hw', h.m hs' hw'⟩
  · rw [zup_o (by omega), zup_o (by omega)]; exact ⟨h.r hp, h.f hp⟩
  · rw [zup_o (by omega)]; exact h.s (w := 0) (by omega)
  · rw [zup_o (by omega)]; exact h.s (w := 1) (by omega)
theorem zRS_take {t : zMI} {g : zG} (h : zRS t g) {n : Nat} (hn : n ≤ gL g) : zRS (zup (zup t 50 4 ((gL g : Int) - n)) 50 6 0) (gtake g n) := by
  refine ⟨⟨?_, ?_, ?_, ?_⟩, fun s' hs' => ?_, fun s' w hs' hw' => ?_, fun p hp => ?_, ?_, ?_⟩
  · simp (disch := omega) only [zup_n]; exact h.n
  · rw [zup_n (by omega), zup_s]; show (gL g : Int) - n = ((gL g - n : Nat) : Int); omega
  · rw [zup_s]; rfl
  · simp (disch := omega) only [zup_n]; exact h.d
  · simp (disch := omega) only [zup_o]; exact ⟨h.k hs', h.h hs'⟩
  · simp (disch := omega) only [zup_o]; exact ⟨h.t hs' hw', h.m hs' hw'⟩
  · have hp2 : p < gL g - n := hp
    simp (disch := omega) only [zup_o]; exact ⟨h.r (by omega), h.f (by omega)⟩
  · simp (disch := omega) only [zup_o]; exact h.s (w := 0) (by omega)
  · simp (disch := omega) only [zup_o]; exact h.s (w := 1) (by omega)
section
variable {d : Nat} {t : zMI} {g : zG} {sh : gSh} {K : Int → zMI → Prop} {Kv : zMI → Prop}
theorem m_put {a b : Int} {s f : Nat} (h : zRS t g) (hw : gWF g) (ha : a = (s : Int)) (hs : s < gN g) (hb : b = (f : Int)) (hf : f < 2) (hn : gP g s = none) (ho : gO g = 0) (k : ∀ t', zRS t' (gput g s f) → zFz 61 (gL g) t t' → K (gsc (gput g s f)) t') : ZX (d + 3) 140 0 [(0, .ref 50), (1, .int (zi a)), (2, .int (zi b))] [] t (zKi K) := by
  subst ha hb
  have hn12 := hw.n
  have hw2 : gWF (gput g s f) := gput_wf hw hs hf (gpl_none hn) ho
  have hL2 : gL (gput g s f) = gL g + 1 := by
    show gL (gpre g) + 1 = _
    rw [gpre_L]
  have tail : ∀ t1, zRS t1 (gpre g) → zFz 61 (gL g) t t1 → ZX (d + 3) 140 13 [(0, .ref 50), (1, .int (zi s)), (2, .int (zi f))] [] t1 (zKi K) := by
    intro t1 h1 f1
    have h2 : zRS _ (gput g s f) := zRS_app h1 s f
    have hl1 : t1 50 4 = (gL g : Int) := by rw [h1.l, gpre_L]
    rw [gpre_L] at h2
    have f2 : zFz 61 (gL g) t1 (zup (zup (zup t1 52 (gL g) s) 53 (gL g) f) 50 4 ((gL g : Int) + 1)) := by
      refine ⟨fun q a _ _ => ?_, fun n hn => ?_, fun p hp => ?_⟩
      · simp (disch := omega) only [zup_o]
      · simp (disch := omega) only [zup_o, zup_n]
      · simp (disch := omega) only [zup_o, zup_n]
        exact ⟨trivial, trivial⟩
    have k := fun h => k _ h (f1.tr f2)
    have hlt : gL g < 12 := by have := hw2.n; omega
    refine z_aload_n zi_140_13 rfl ?_
    refine z_getfield zi_140_14 zm_f2 ?_
    refine z_aload_n zi_140_15 rfl ?_
    refine z_getfield zi_140_16 zm_f4 ?_
    rw [hl1]
    refine z_iload_n zi_140_17 rfl ?_
    refine z_iastore (n := gL g) zi_140_18 rfl (by omega) (by omega) (by omega) ?_
    refine z_aload_n zi_140_19 rfl ?_
    refine z_getfield zi_140_20 zm_f3 ?_
    refine z_aload_n zi_140_21 rfl ?_
    refine z_getfield zi_140_22 zm_f4 ?_
    rw [zup_o (by omega), hl1]
    refine z_iload_n zi_140_23 rfl ?_
    refine z_iastore (n := gL g) zi_140_24 rfl (by omega) (by omega) (by omega) ?_
    refine z_aload_n zi_140_25 rfl ?_
    refine z_dup zi_140_26 rfl ?_
    refine z_getfield zi_140_27 zm_f4 ?_
    simp (disch := omega) only [zup_o]
    rw [hl1]
    refine z_iconst zi_140_28 ?_
    refine z_iadd zi_140_29 ?_
    refine z_putfield zi_140_30 rfl (Or.inl rfl) ?_
    generalize (zup (zup (zup t1 52 (gL g) (s : Int)) 53 (gL g) (f : Int)) 50 4 ((gL g : Int) + 1)) = t2 at h2 k ⊢
    have k := k h2
    generalize gput g s f = G at h2 hw2 hL2 k
    have hG := hw2.n
    have hgu := gup_rng G (gL G)
    unfold gsc at k
    refine z_aload_n zi_140_31 rfl ?_
    refine z_getfield zi_140_32 zm_f4 ?_
    rw [h2.l]
    refine z_iconst zi_140_33 ?_
    refine z_icmp_lt zi_140_34 (by omega) (fun c => ?_) (fun c => ?_)
    · rw [if_pos (Or.inl (by omega))] at k
      refine z_iconst zi_140_42 ?_
      refine z_ireturn zi_140_43 rfl k
    · refine z_aload_n zi_140_35 rfl ?_
      refine z_cv0i zi_140_36  rfl ⟨rfl, Nat.le_of_ble_eq_true rfl, Nat.le_of_ble_eq_true rfl⟩ (m_upMarks h2 hw2 ?_)
      refine z_iconst zi_140_37 ?_
      refine z_aload_n zi_140_38 rfl ?_
      refine z_getfield zi_140_39 zm_f4 ?_
      rw [h2.l]
      refine z_imul zi_140_40 ?_
      refine z_icmp_ge zi_140_41 (by omega) (fun c2 => ?_) (fun c2 => ?_)
      · rw [if_neg (by omega)] at k
        have loop : ∀ (j n : Nat), n + j = gL G → ZX (d + 3) 140 49 [(4, .int (zi n)), (3, .int (zi ((gL G : Int) + ghv G n))), (0, .ref 50), (1, .int (zi s)), (2, .int (zi f))] [] t2 (zKi K) := by
          intro j
          induction j with
          | zero =>
            intro n e
            have e1 : n = gL G := by omega
            subst e1
            refine z_iload zi_140_49 rfl ?_
            refine z_aload_n zi_140_50 rfl ?_
            refine z_getfield zi_140_51 zm_f4 ?_
            rw [h2.l]
            refine z_icmp_ge_t zi_140_52 (by omega) (by omega) ?_
            refine z_iload_n zi_140_72 rfl ?_
            refine z_ireturn zi_140_73 rfl k
          | succ j ih =>
            intro n e
            have hr := hw2.r (p := n) (by omega)
            have hk := hw2.k hr.1
            have hgv := ghv_rng G n
            have es : ghv G (n + 1) = ghv G n + (if gK G (gR G n) = 3 then 1 else 0) := rfl
            have ih := ih (n + 1) (by omega)
            refine z_iload zi_140_49 rfl ?_
            refine z_aload_n zi_140_50 rfl ?_
            refine z_getfield zi_140_51 zm_f4 ?_
            rw [h2.l]
            refine z_icmp_ge_f zi_140_52 (by omega) (by omega) ?_
            have fin : ∀ x : Int, x = (if gK G (gR G n) = 3 then 1 else 0) → ZX (d + 3) 140 68 [(4, .int (zi n)), (3, .int (zi ((gL G : Int) + ghv G n))), (0, .ref 50), (1, .int (zi s)), (2, .int (zi f))] [.int (zi x), .int (zi ((gL G : Int) + ghv G n))] t2 (zKi K) := by
              intro x hx
              rw [← hx] at es
              refine z_iadd zi_140_68 ?_
              refine z_istore_n zi_140_69 rfl ?_
              refine z_iinc zi_140_70 rfl rfl ?_
              refine z_goto zi_140_71 ?_
              refine z_loc (lv' := [(4, .int (zi ((n + 1 : Nat) : Int))), (3, .int (zi ((gL G : Int) + ghv G n + x))), (0, .ref 50), (1, .int (zi s)), (2, .int (zi f))]) rfl ?_
              rw [Int.add_assoc, ← es]
              exact ih
            refine z_iload_n zi_140_53 rfl ?_
            refine z_aload_n zi_140_54 rfl ?_
            refine z_getfield zi_140_55 zm_f0 ?_
            refine z_bipush zi_140_56 (by decide) ?_
            refine z_aload_n zi_140_57 rfl ?_
            refine z_getfield zi_140_58 zm_f2 ?_
            refine z_iload zi_140_59 rfl ?_
            refine z_iaload (n := n) zi_140_60 rfl (by omega) (by omega) (by omega) ?_
            rw [h2.r (by omega)]
            refine z_imul zi_140_61 ?_
            refine z_iaload (n := 6 * gR G n) zi_140_62 rfl (by omega) (by omega) (by omega) ?_
            rw [h2.k hr.1]
            refine z_iconst zi_140_63 ?_
            refine z_icmp_ne zi_140_64 (by omega) (fun c3 => ?_) (fun c3 => ?_)
            · refine z_iconst zi_140_67 ?_
              exact fin 0 (by rw [if_neg c3])
            · refine z_iconst zi_140_65 ?_
              refine z_goto zi_140_66 ?_
              exact fin 1 (by rw [if_pos (by omega)])
        refine z_aload_n zi_140_44 rfl ?_
        refine z_getfield zi_140_45 zm_f4 ?_
        rw [h2.l]
        refine z_istore_n zi_140_46 rfl ?_
        refine z_iconst zi_140_47 ?_
        refine z_istore zi_140_48 rfl ?_
        have e0 : (gL G : Int) = (gL G : Int) + ghv G 0 := by show _ = _ + 0; omega
        refine z_loc (lv' := [(4, .int (zi ((0 : Nat) : Int))), (3, .int (zi (gL G : Int))), (0, .ref 50), (1, .int (zi s)), (2, .int (zi f))]) rfl ?_
        refine z_lv (lv' := [(4, .int (zi ((0 : Nat) : Int))), (3, .int (zi ((gL G : Int) + ghv G 0))), (0, .ref 50), (1, .int (zi s)), (2, .int (zi f))]) (by rw [← e0]) ?_
        exact loop (gL G) 0 (by omega)
      · rw [if_pos (Or.inr (by omega))] at k
        refine z_iconst zi_140_42 ?_
        refine z_ireturn zi_140_43 rfl k
  refine z_aload_n zi_140_0 rfl ?_
  refine z_getfield zi_140_1 zm_f4 ?_
  rw [h.l]
  refine z_if_le zi_140_2 (by omega) (fun c => ?_) (fun c => ?_)
  · refine tail t ?_ zFz.rf
    unfold gpre
    rw [if_pos (by omega)]
    exact h
  · have hB := gB_pm g (gL g - 1)
    refine z_aload_n zi_140_3 rfl ?_
    refine z_aload_n zi_140_4 rfl ?_
    refine z_cv0i zi_140_5  rfl ⟨rfl, Nat.le_of_ble_eq_true rfl, Nat.le_of_ble_eq_true rfl⟩ (m_wayForBack h hw (by omega) (fun t1 _ f1 => ?_))
    have h1 := zRS_w h f1
    refine z_cv1v zi_140_6 rfl rfl ⟨rfl, Nat.le_of_ble_eq_true rfl, Nat.le_of_ble_eq_true rfl⟩ (m_findWays h1 hw hB (fun t2 y2 f2 => ?_))
    have h2 := zRS_w h1 f2
    refine z_aload_n zi_140_7 rfl ?_
    refine z_cv0i zi_140_8  rfl ⟨rfl, Nat.le_of_ble_eq_true rfl, Nat.le_of_ble_eq_true rfl⟩ (m_isLocked h2 hw hB y2 (fun q => ?_) (fun q => ?_))
    · refine z_if_ne_t zi_140_9 (by omega) (by omega) ?_
      refine tail t2 ?_ ((zFz.w f1).tr (zFz.w f2))
      unfold gpre
      rw [if_neg (by omega), if_neg q]
      exact h2
    · refine z_if_ne_f zi_140_9 (by omega) (by omega) ?_
      refine z_aload_n zi_140_10 rfl ?_
      refine z_iconst zi_140_11 ?_
      refine z_cv1v zi_140_12 rfl rfl ⟨rfl, Nat.le_of_ble_eq_true rfl, Nat.le_of_ble_eq_true rfl⟩ (m_turnAll h2 hw hB y2 (by omega) (fun t3 h3 f3 => ?_))
      rw [Int.mul_one] at h3
      refine tail t3 ?_ (((zFz.w f1).tr (zFz.w f2)).tr (zFz.m f3))
      unfold gpre
      rw [if_neg (by omega), if_pos q]
      exact h3
theorem gput_H (g : zG) (s f : Nat) : gH (gput g s f) = gH g := gpre_H g
theorem gput_S (g : zG) (s f : Nat) : gS (gput g s f) = gS g := gpre_S g
theorem gput_N (g : zG) (s f : Nat) : gN (gput g s f) = gN g := gpre_N g
theorem m_layOne {a b : Int} {s f : Nat} (h : zRS t g) (hw : gWF g) (ha : a = (s : Int)) (hs : s < gN g) (hb : b = (f : Int)) (hf : f < 2) (hn : gP g s = none) (ho : gO g = 0) (k : ∀ t', zRS t' (glay g s f) → zFA t t' → K (gsc (gput g s f)) t') : ZX (d + 4) 141 0 [(0, .ref 50), (1, .int (zi a)), (2, .int (zi b))] [] t (zKi K) := by
  subst ha hb
  have hn12 := hw.n
  have hh := hw.h hs
  refine z_aload_n zi_141_0 rfl ?_
  refine z_iload_n zi_141_1 rfl ?_
  refine z_iload_n zi_141_2 rfl ?_
  refine z_cv2i zi_141_3 rfl rfl rfl ⟨rfl, Nat.le_of_ble_eq_true rfl, Nat.le_of_ble_eq_true rfl⟩ (m_put h hw rfl hs rfl hf hn ho (fun t1 h1 f1 => ?_))
  have sH := h1.h (s := s) (by rw [gput_N]; exact hs)
  rw [gput_H] at sH
  have s0 := h1.s (w := 0) (by omega)
  have s1 := h1.s (w := 1) (by omega)
  rw [gput_S] at s0 s1
  have eG : glay g s f = gsH (gsS (gput g s f) (fun h => if gH g s = (h : Int) then gS g h + gsc (gput g s f) else gS g h)) (fup (gH g) s (-4)) := rfl
  rw [eG] at k
  have eH := gput_H g s f
  have eS := gput_S g s f
  generalize gsc (gput g s f) = sc at k ⊢
  generalize gput g s f = G at h1 k eH eS
  refine z_istore_n zi_141_4 rfl ?_
  refine z_aload_n zi_141_5 rfl ?_
  refine z_getfield zi_141_6 zm_f0 ?_
  refine z_bipush zi_141_7 (by decide) ?_
  refine z_iload_n zi_141_8 rfl ?_
  refine z_imul zi_141_9 ?_
  refine z_iconst zi_141_10 ?_
  refine z_iadd zi_141_11 ?_
  refine z_iaload (n := 6 * s + 5) zi_141_12 rfl (by omega) (by omega) (by omega) ?_
  rw [sH]
  refine z_istore zi_141_13 rfl ?_
  refine z_aload_n zi_141_14 rfl ?_
  refine z_getfield zi_141_15 zm_f5 ?_
  refine z_iconst zi_141_16 ?_
  refine z_dup2 zi_141_17 rfl rfl ?_
  refine z_iaload (n := 0) zi_141_18 rfl (by omega) (by omega) (by omega) ?_
  rw [s0]
  refine z_iload zi_141_19 rfl ?_
  have p1 : ∀ x : Int, x = (if gH g s = 0 then sc else 0) → ZX (d + 4) 141 24 [(4, .int (zi (gH g s))), (3, .int (zi sc)), (0, .ref 50), (1, .int (zi s)), (2, .int (zi f))] [.int (zi x), .int (zi (gS g 0)), .int (zi 0), .ref 54] t1 (zKi K) := by
    intro x hx
    have p2 : ∀ y : Int, y = (if gH g s = 1 then sc else 0) → ZX (d + 4) 141 37 [(4, .int (zi (gH g s))), (3, .int (zi sc)), (0, .ref 50), (1, .int (zi s)), (2, .int (zi f))] [.int (zi y), .int (zi (gS g 1)), .int (zi 1), .ref 54] (zup t1 54 0 (gS g 0 + x)) (zKi K) := by
      intro y hy
      refine z_iadd zi_141_37 ?_
      refine z_iastore (n := 1) zi_141_38 rfl (by omega) (by omega) (by omega) ?_
      refine z_aload_n zi_141_39 rfl ?_
      refine z_getfield zi_141_40 zm_f0 ?_
      refine z_bipush zi_141_41 (by decide) ?_
      refine z_iload_n zi_141_42 rfl ?_
      refine z_imul zi_141_43 ?_
      refine z_iconst zi_141_44 ?_
      refine z_iadd zi_141_45 ?_
      refine z_bipush zi_141_46 (by decide) ?_
      refine z_iastore (n := 6 * s + 5) zi_141_47 rfl (by omega) (by omega) (by omega) ?_
      refine z_iload_n zi_141_48 rfl ?_
      have h4 := zRS_H (zRS_S (zRS_S h1 0 (gS g 0 + x)) 1 (gS g 1 + y)) (s := s) (-4)
      have eh : gH (gsS (gsS G (fup (gS G) 0 (gS g 0 + x))) (fup (gS (gsS G (fup (gS G) 0 (gS g 0 + x)))) 1 (gS g 1 + y))) = gH g := eH
      rw [eh] at h4
      refine z_ireturn zi_141_49 rfl (k _ (zRS_Sx (g := G) (g' := G) h4 ?_ ?_) ?_)
      · show (if gH g s = ((0 : Nat) : Int) then gS g 0 + sc else gS g 0) = gS g 0 + x
        rw [hx]
        split
        · rename_i z
          rw [if_pos (show gH g s = 0 from z)]
        · rename_i z
          rw [if_neg (show ¬ gH g s = 0 from z), Int.add_zero]
      · show (if gH g s = ((1 : Nat) : Int) then gS g 1 + sc else gS g 1) = gS g 1 + y
        rw [hy]
        split
        · rename_i z
          rw [if_pos (show gH g s = 1 from z)]
        · rename_i z
          rw [if_neg (show ¬ gH g s = 1 from z), Int.add_zero]
      · refine (((f1.a (by omega)).up ?_).up ?_).up ?_ <;> omega
    refine z_iadd zi_141_24 ?_
    refine z_iastore (n := 0) zi_141_25 rfl (by omega) (by omega) (by omega) ?_
    refine z_aload_n zi_141_26 rfl ?_
    refine z_getfield zi_141_27 zm_f5 ?_
    refine z_iconst zi_141_28 ?_
    refine z_dup2 zi_141_29 rfl rfl ?_
    refine z_iaload (n := 1) zi_141_30 rfl (by omega) (by omega) (by omega) ?_
    rw [zup_n (by omega), s1]
    refine z_iload zi_141_31 rfl ?_
    refine z_iconst zi_141_32 ?_
    refine z_icmp_ne zi_141_33 (by omega) (fun c => ?_) (fun c => ?_)
    · refine z_iconst zi_141_36 ?_
      exact p2 0 (by rw [if_neg c])
    · refine z_iload_n zi_141_34 rfl ?_
      refine z_goto zi_141_35 ?_
      exact p2 sc (by rw [if_pos (by omega)])
  refine z_if_ne zi_141_20 (by omega) (fun c => ?_) (fun c => ?_)
  · refine z_iconst zi_141_23 ?_
    refine z_loc (lv' := [(4, .int (zi (gH g s))), (3, .int (zi sc)), (0, .ref 50), (1, .int (zi s)), (2, .int (zi f))]) rfl ?_
    exact p1 0 (by rw [if_neg c])
  · refine z_iload_n zi_141_21 rfl ?_
    refine z_goto zi_141_22 ?_
    refine z_loc (lv' := [(4, .int (zi (gH g s))), (3, .int (zi sc)), (0, .ref 50), (1, .int (zi s)), (2, .int (zi f))]) rfl ?_
    exact p1 sc (by rw [if_pos (by omega)])
theorem m_lay {s f : Int} (h : zRS t g) (hw : gWF g) (r1 : -2147483648 ≤ s ∧ s < 2147483648) (r2 : -2147483648 ≤ f ∧ f < 2147483648) (k : ∀ t', zRS t' (oLay g s f).2 → zFA t t' → K (oLay g s f).1 t') : ZX (d + 5) 142 0 [(0, .ref 50), (1, .int (zi s)), (2, .int (zi f))] [] t (zKi K) := by
  have hn := hw.n
  have ho := hw.o
  have bad : oMay g s f = -1 → K (-1) t := fun q => by
    have := k t
    unfold oLay at this
    rw [q, if_neg (by omega), if_neg (by omega)] at this
    exact this h zFA.rf
  have ill : oMay g s f = -2 → K (-2) t := fun q => by
    have := k t
    unfold oLay at this
    rw [q, if_neg (by omega), if_neg (by omega)] at this
    exact this h zFA.rf
  refine z_aload_n zi_142_0 rfl ?_
  refine z_iload_n zi_142_1 rfl ?_
  refine z_cv1i zi_142_2 rfl rfl ⟨rfl, Nat.le_of_ble_eq_true rfl, Nat.le_of_ble_eq_true rfl⟩ (m_isStone h hw r1 (fun q1 => ?_) (fun q1 => ?_))
  · refine z_if_eq_f zi_142_3 (by omega) (by omega) ?_
    refine z_iload_n zi_142_4 rfl ?_
    refine z_i2l zi_142_5 (by omega) ?_
    refine z_lconst (v := 0) zi_142_6 (by decide) ?_
    refine z_lconst (v := 1) zi_142_7 (by decide) ?_
    refine z_in zi_142_8 (by omega) (Nat.le_of_ble_eq_true rfl) (fun q2 => ?_) (fun q2 => ?_)
    · refine z_if_ne_t zi_142_9 (by omega) (by omega) ?_
      obtain ⟨s, rfl⟩ : ∃ s' : Nat, s = s' := ⟨s.toNat, by omega⟩
      obtain ⟨f, rfl⟩ : ∃ f' : Nat, f = f' := ⟨f.toNat, by omega⟩
      have hP := gPi_rng hw s
      refine z_aload_n zi_142_12 rfl ?_
      refine z_iload_n zi_142_13 rfl ?_
      refine z_cv1i zi_142_14 rfl rfl ⟨rfl, Nat.le_of_ble_eq_true rfl, Nat.le_of_ble_eq_true rfl⟩ (m_placeOf h hw rfl (by omega) ?_)
      refine z_if_ge zi_142_15 (by omega) (fun c => ?_) (fun c => ?_)
      · refine z_bipush zi_142_19 (by decide) ?_
        refine z_ireturn zi_142_20 rfl (ill (by unfold oMay; rw [if_pos ⟨q1, q2⟩, Int.toNat_natCast, if_pos (Or.inl c)]))
      · refine z_aload_n zi_142_16 rfl ?_
        refine z_getfield zi_142_17 zm_f6 ?_
        rw [h.o]
        refine z_if_eq zi_142_18 (by omega) (fun c2 => ?_) (fun c2 => ?_)
        · refine z_aload_n zi_142_21 rfl ?_
          refine z_iload_n zi_142_22 rfl ?_
          refine z_iload_n zi_142_23 rfl ?_
          refine z_cv2i zi_142_24 rfl rfl rfl ⟨rfl, Nat.le_of_ble_eq_true rfl, Nat.le_of_ble_eq_true rfl⟩ (m_mayLay h hw rfl (by omega) rfl (by omega) (fun q => ?_) (fun q => ?_))
          · refine z_if_eq_f zi_142_25 (by omega) (by omega) ?_
            have e : oMay g s f = 1 := by
              unfold oMay; rw [if_pos ⟨q1, q2⟩, Int.toNat_natCast, Int.toNat_natCast, if_neg (by omega), if_pos q]
            unfold oLay at k
            rw [if_pos e, Int.toNat_natCast, Int.toNat_natCast] at k
            refine z_aload_n zi_142_26 rfl ?_
            refine z_iload_n zi_142_27 rfl ?_
            refine z_iload_n zi_142_28 rfl ?_
            refine z_cv2i zi_142_29 rfl rfl rfl ⟨rfl, Nat.le_of_ble_eq_true rfl, Nat.le_of_ble_eq_true rfl⟩ (m_layOne h hw rfl (by omega) rfl (by omega) (gPi_none c) c2 (fun t1 h1 f1 => ?_))
            refine z_goto zi_142_30 ?_
            refine z_ireturn zi_142_32 rfl (k t1 h1 f1)
          · refine z_if_eq_t zi_142_25 (by omega) (by omega) ?_
            have e : oMay g s f = 0 := by
              unfold oMay; rw [if_pos ⟨q1, q2⟩, Int.toNat_natCast, Int.toNat_natCast, if_neg (by omega), if_neg q]
            unfold oLay at k
            rw [if_neg (by omega), if_pos e] at k
            refine z_bipush zi_142_31 (by decide) ?_
            refine z_ireturn zi_142_32 rfl (k t h zFA.rf)
        · refine z_bipush zi_142_19 (by decide) ?_
          refine z_ireturn zi_142_20 rfl (ill (by unfold oMay; rw [if_pos ⟨q1, q2⟩, Int.toNat_natCast, if_pos (Or.inr (by omega))]))
    · refine z_if_ne_f zi_142_9 (by omega) (by omega) ?_
      refine z_iconst zi_142_10 ?_
      refine z_ireturn zi_142_11 rfl (bad (by unfold oMay; rw [if_neg (fun z => q2 z.2)]))
  · refine z_if_eq_t zi_142_3 (by omega) (by omega) ?_
    refine z_iconst zi_142_10 ?_
    refine z_ireturn zi_142_11 rfl (bad (by unfold oMay; rw [if_neg (fun z => q1 z.1)]))
theorem m_take {a : Int} (h : zRS t g) (hw : gWF g) (r1 : -2147483648 ≤ a ∧ a < 2147483648) (k : ∀ t', zRS t' (oTake g a).2 → zFA t t' → K (oTake g a).1 t') : ZX (d + 1) 143 0 [(0, .ref 50), (1, .int (zi a))] [] t (zKi K) := by
  have hn := hw.n
  unfold oTake at k
  refine z_iload_n zi_143_0 rfl ?_
  refine z_i2l zi_143_1 (by omega) ?_
  refine z_lconst (v := 1) zi_143_2 (by decide) ?_
  refine z_ldc2_w (v := 12) zi_143_3 rfl ?_
  refine z_in zi_143_4 (by omega) (Nat.le_of_ble_eq_true rfl) (fun q1 => ?_) (fun q1 => ?_)
  · rw [if_pos q1] at k
    refine z_if_ne_t zi_143_5 (by omega) (by omega) ?_
    refine z_iload_n zi_143_8 rfl ?_
    refine z_aload_n zi_143_9 rfl ?_
    refine z_getfield zi_143_10 zm_f4 ?_
    rw [h.l]
    refine z_icmp_le zi_143_11 (by omega) (fun c => ?_) (fun c => ?_)
    · rw [if_neg (by omega)] at k
      refine z_aload_n zi_143_14 rfl ?_
      refine z_dup zi_143_15 rfl ?_
      refine z_getfield zi_143_16 zm_f4 ?_
      rw [h.l]
      refine z_iload_n zi_143_17 rfl ?_
      refine z_isub zi_143_18 ?_
      refine z_putfield zi_143_19 rfl (Or.inl rfl) ?_
      refine z_aload_n zi_143_20 rfl ?_
      refine z_iconst zi_143_21 ?_
      refine z_putfield zi_143_22 rfl (Or.inr ⟨rfl, by omega⟩) ?_
      refine z_aload_n zi_143_23 rfl ?_
      refine z_getfield zi_143_24 zm_f4 ?_
      simp (disch := omega) only [zup_n, zup_s]
      have h1 := zRS_take h (n := a.toNat) (by omega)
      have ea : ((a.toNat : Nat) : Int) = a := by omega
      rw [ea] at h1
      refine z_ireturn zi_143_25 rfl (k _ h1 ((zFA.rf.up (by omega)).up (by omega)))
    · rw [if_pos (by omega)] at k
      refine z_bipush zi_143_12 (by decide) ?_
      refine z_ireturn zi_143_13 rfl (k t h zFA.rf)
  · rw [if_neg q1] at k
    refine z_if_ne_f zi_143_5 (by omega) (by omega) ?_
    refine z_iconst zi_143_6 ?_
    refine z_ireturn zi_143_7 rfl (k t h zFA.rf)
theorem m_shut {a : Int} (h : zRS t g) (hw : gWF g) (r1 : a = 0 ∨ a = 1) (k : ∀ t', zRS t' (oShut g a).2 → zFA t t' → K (oShut g a).1 t') : ZX (d + 2) 144 0 [(0, .ref 50), (1, .int (zi a))] [] t (zKi K) := by
  have hn := hw.n
  have ho := hw.o
  unfold oShut at k
  have last : ∀ c : Int, (c = 1 → gcan g) → (c = 0 → ¬ gcan g) → (c = 0 ∨ c = 1) → ZX (d + 2) 144 44 [(2, .int (zi (gO g))), (0, .ref 50), (1, .int (zi a))] [.int (zi c)] t (zKi K) := by
    intro c c1 c0 cc
    have fin : ¬ (a = 1 ∧ ¬ gcan g) → ZX (d + 2) 144 51 [(3, .int (zi c)), (2, .int (zi (gO g))), (0, .ref 50), (1, .int (zi a))] [] t (zKi K) := by
      intro q
      rw [if_neg q] at k
      refine z_aload_n zi_144_51 rfl ?_
      refine z_iload_n zi_144_52 rfl ?_
      refine z_putfield zi_144_53 rfl (Or.inr ⟨rfl, by omega⟩) ?_
      refine z_iload_n zi_144_54 rfl ?_
      refine z_ireturn zi_144_55 rfl (k _ (zRS_O h a) (zFA.rf.up (by omega)))
    refine z_istore_n zi_144_44 rfl ?_
    refine z_iload_n zi_144_45 rfl ?_
    refine z_if_eq zi_144_46 (by omega) (fun q => ?_) (fun q => ?_)
    · exact fin (fun z => by omega)
    · refine z_iload_n zi_144_47 rfl ?_
      refine z_if_ne zi_144_48 (by omega) (fun q2 => ?_) (fun q2 => ?_)
      · exact fin (fun z => z.2 (c1 (by omega)))
      · rw [if_pos ⟨by omega, c0 (by omega)⟩] at k
        refine z_bipush zi_144_49 (by decide) ?_
        refine z_ireturn zi_144_50 rfl (k t h zFA.rf)
  have mid : ZX (d + 2) 144 7 [(2, .int (zi (gO g))), (0, .ref 50), (1, .int (zi a))] [] t (zKi K) := by
    refine z_aload_n zi_144_7 rfl ?_
    refine z_getfield zi_144_8 zm_f4 ?_
    rw [h.l]
    refine z_iconst zi_144_9 ?_
    refine z_icmp_lt zi_144_10 (by omega) (fun c => ?_) (fun c => ?_)
    · refine z_iconst zi_144_43 ?_
      exact last 0 (fun z => by omega) (fun _ z => by have := z.1; omega) (Or.inl rfl)
    · have hr0 := hw.r (p := 0) (by omega)
      have hr := hw.r (p := gL g - 1) (by omega)
      have t0 := hw.t (s := gR g 0) (w := gF g 0) hr0.1 hr0.2
      have t1 := hw.t (s := gR g (gL g - 1)) (w := 1 - gF g (gL g - 1)) hr.1 (by omega)
      refine z_aload_n zi_144_11 rfl ?_
      refine z_aload_n zi_144_12 rfl ?_
      refine z_getfield zi_144_13 zm_f2 ?_
      refine z_iconst zi_144_14 ?_
      refine z_iaload (n := 0) zi_144_15 rfl (by omega) (by omega) (by omega) ?_
      rw [h.r (by omega)]
      refine z_aload_n zi_144_16 rfl ?_
      refine z_getfield zi_144_17 zm_f3 ?_
      refine z_iconst zi_144_18 ?_
      refine z_iaload (n := 0) zi_144_19 rfl (by omega) (by omega) (by omega) ?_
      rw [h.f (by omega)]
      refine z_cv2i zi_144_20 rfl rfl rfl ⟨rfl, Nat.le_of_ble_eq_true rfl, Nat.le_of_ble_eq_true rfl⟩ (m_teeth (s := gR g 0) (w := gF g 0) h hw rfl hr0.1 rfl hr0.2 ?_)
      refine z_aload_n zi_144_21 rfl ?_
      refine z_aload_n zi_144_22 rfl ?_
      refine z_getfield zi_144_23 zm_f2 ?_
      refine z_aload_n zi_144_24 rfl ?_
      refine z_getfield zi_144_25 zm_f4 ?_
      rw [h.l]
      refine z_iconst zi_144_26 ?_
      refine z_isub zi_144_27 ?_
      refine z_iaload (n := gL g - 1) zi_144_28 rfl (by omega) (by omega) (by omega) ?_
      rw [h.r (by omega)]
      refine z_iconst zi_144_29 ?_
      refine z_aload_n zi_144_30 rfl ?_
      refine z_getfield zi_144_31 zm_f3 ?_
      refine z_aload_n zi_144_32 rfl ?_
      refine z_getfield zi_144_33 zm_f4 ?_
      rw [h.l]
      refine z_iconst zi_144_34 ?_
      refine z_isub zi_144_35 ?_
      refine z_iaload (n := gL g - 1) zi_144_36 rfl (by omega) (by omega) (by omega) ?_
      rw [h.f (by omega)]
      refine z_isub zi_144_37 ?_
      refine z_cv2i zi_144_38 rfl rfl rfl ⟨rfl, Nat.le_of_ble_eq_true rfl, Nat.le_of_ble_eq_true rfl⟩ (m_teeth (s := gR g (gL g - 1)) (w := 1 - gF g (gL g - 1)) h hw rfl hr.1 (by omega) (by omega) ?_)
      refine z_cs2i zi_144_39 rfl rfl ⟨by decide, rfl, Nat.le_of_ble_eq_true rfl, Nat.le_of_ble_eq_true rfl⟩ (m_mesh (by omega) (fun q => ?_) (fun q => ?_))
      · refine z_if_eq_f zi_144_40 (by omega) (by omega) ?_
        refine z_iconst zi_144_41 ?_
        refine z_goto zi_144_42 ?_
        exact last 1 (fun _ => ⟨by omega, q⟩) (fun z => by omega) (Or.inr rfl)
      · refine z_if_eq_t zi_144_40 (by omega) (by omega) ?_
        refine z_iconst zi_144_43 ?_
        exact last 0 (fun z => by omega) (fun _ z => q z.2) (Or.inl rfl)
  refine z_aload_n zi_144_0 rfl ?_
  refine z_getfield zi_144_1 zm_f6 ?_
  rw [h.o]
  refine z_if_eq zi_144_2 (by omega) (fun c => ?_) (fun c => ?_)
  · refine z_iconst zi_144_5 ?_
    refine z_istore_n zi_144_6 rfl ?_
    rw [c] at mid
    exact mid
  · refine z_iconst zi_144_3 ?_
    refine z_goto zi_144_4 ?_
    refine z_istore_n zi_144_6 rfl ?_
    rw [show gO g = 1 by omega] at mid
    exact mid
theorem m_locked (h : zRS t g) (hw : gWF g) (k : ∀ t', zRS t' g → zFA t t' → K (oLocked g) t') : ZX (d + 2) 145 0 [(0, .ref 50)] [] t (zKi K) := by
  have hn := hw.n
  unfold oLocked at k
  refine z_aload_n zi_145_0 rfl ?_
  refine z_getfield zi_145_1 zm_f4 ?_
  rw [h.l]
  refine z_if_ne zi_145_2 (by omega) (fun c => ?_) (fun c => ?_)
  · have hB := gB_pm g (gL g - 1)
    rw [if_neg (by omega)] at k
    refine z_aload_n zi_145_5 rfl ?_
    refine z_aload_n zi_145_6 rfl ?_
    refine z_cv0i zi_145_7  rfl ⟨rfl, Nat.le_of_ble_eq_true rfl, Nat.le_of_ble_eq_true rfl⟩ (m_wayForBack h hw (by omega) (fun t1 _ f1 => ?_))
    have h1 := zRS_w h f1
    refine z_cv1v zi_145_8 rfl rfl ⟨rfl, Nat.le_of_ble_eq_true rfl, Nat.le_of_ble_eq_true rfl⟩ (m_findWays h1 hw hB (fun t2 y2 f2 => ?_))
    have h2 := zRS_w h1 f2
    have k := k t2 h2 (((zFz.w (a := 61) (L := 0) f1).tr (zFz.w f2)).a (by omega))
    have hr := glN_rng g (gB g (gL g - 1)) (gL g)
    unfold gLk at k
    refine z_aload_n zi_145_9 rfl ?_
    refine z_cv0i zi_145_10  rfl ⟨rfl, Nat.le_of_ble_eq_true rfl, Nat.le_of_ble_eq_true rfl⟩ (m_lockedAt h2 hw hB y2 ?_)
    refine z_istore_n zi_145_11 rfl ?_
    refine z_aload_n zi_145_12 rfl ?_
    refine z_cv0i zi_145_13  rfl ⟨rfl, Nat.le_of_ble_eq_true rfl, Nat.le_of_ble_eq_true rfl⟩ (m_isOdd h2 hw hB y2 (fun q => ?_) (fun q => ?_))
    · rw [if_pos q] at k
      refine z_if_eq_f zi_145_14 (by omega) (by omega) ?_
      refine z_iconst zi_145_15 ?_
      refine z_goto zi_145_16 ?_
      refine z_ireturn zi_145_27 rfl k
    · rw [if_neg q] at k
      refine z_if_eq_t zi_145_14 (by omega) (by omega) ?_
      unfold glN at hr ⊢
      cases e : glk g (gB g (gL g - 1)) (gL g) with
      | none =>
        rw [e] at k hr
        dsimp only at k hr ⊢
        refine z_iload_n zi_145_17 rfl ?_
        refine z_if_ge_f zi_145_18 (by omega) (by omega) ?_
        refine z_iconst zi_145_19 ?_
        refine z_goto zi_145_20 ?_
        refine z_ireturn zi_145_27 rfl k
      | some p =>
        rw [e] at k hr
        dsimp only at k hr ⊢
        have hp := glk_lt e
        refine z_iload_n zi_145_17 rfl ?_
        refine z_if_ge_t zi_145_18 (by omega) (by omega) ?_
        refine z_iconst zi_145_21 ?_
        refine z_aload_n zi_145_22 rfl ?_
        refine z_getfield zi_145_23 zm_f2 ?_
        refine z_iload_n zi_145_24 rfl ?_
        refine z_iaload (n := p) zi_145_25 rfl (by omega) (by omega) (by omega) ?_
        rw [h2.r hp]
        refine z_iadd zi_145_26 ?_
        refine z_ireturn zi_145_27 rfl k
  · rw [if_pos (by omega)] at k
    refine z_bipush zi_145_3 (by decide) ?_
    refine z_ireturn zi_145_4 rfl (k t h zFA.rf)
theorem m_crank {b : Int} (h : zRS t g) (hw : gWF g) (r1 : -2147483648 ≤ b ∧ b < 2147483648) (k : ∀ t', zRS t' (oCrank g b).2 → zFA t t' → K (oCrank g b).1 t') : ZX (d + 3) 146 0 [(0, .ref 50), (1, .int (zi b))] [] t (zKi K) := by
  have hn := hw.n
  unfold oCrank at k
  refine z_iload_n zi_146_0 rfl ?_
  refine z_i2l zi_146_1 (by omega) ?_
  refine z_ldc2_w (v := -99) zi_146_2 rfl ?_
  refine z_ldc2_w (v := 99) zi_146_3 rfl ?_
  refine z_in zi_146_4 (by omega) (Nat.le_of_ble_eq_true rfl) (fun q1 => ?_) (fun q1 => ?_)
  · rw [if_pos q1] at k
    refine z_if_ne_t zi_146_5 (by omega) (by omega) ?_
    refine z_aload_n zi_146_8 rfl ?_
    refine z_getfield zi_146_9 zm_f4 ?_
    rw [h.l]
    refine z_if_ne zi_146_10 (by omega) (fun c => ?_) (fun c => ?_)
    · rw [if_neg (by omega)] at k
      have main : ∀ way : Int, way = (if b < 0 then -1 else 1) → ZX (d + 3) 146 19 [(0, .ref 50), (1, .int (zi b))] [.int (zi way), .ref 50] t (zKi K) := by
        intro way hway
        have hy : way = 1 ∨ way = -1 := by
          rw [hway]
          split
          · exact Or.inr rfl
          · exact Or.inl rfl
        rw [← hway] at k
        refine z_cv1v zi_146_19 rfl rfl ⟨rfl, Nat.le_of_ble_eq_true rfl, Nat.le_of_ble_eq_true rfl⟩ (m_findWays h hw hy (fun t1 y1 f1 => ?_))
        have h1 := zRS_w h f1
        have turn : ¬ (b ≠ 0 ∧ gLk g way ≠ 0) → ZX (d + 3) 146 27 [(0, .ref 50), (1, .int (zi b))] [] t1 (zKi K) := by
          intro q
          rw [if_neg q] at k
          have go : ∀ x : Int, way * x = b → -99 ≤ x ∧ x ≤ 99 → ZX (d + 3) 146 34 [(0, .ref 50), (1, .int (zi b))] [.int (zi x), .ref 50] t1 (zKi K) := by
            intro x hx hx2
            refine z_cv1v zi_146_34 rfl rfl ⟨rfl, Nat.le_of_ble_eq_true rfl, Nat.le_of_ble_eq_true rfl⟩ (m_turnAll h1 hw hy y1 hx2 (fun t2 h2 f2 => ?_))
            rw [hx] at h2
            refine z_aload_n zi_146_35 rfl ?_
            refine z_cv0i zi_146_36  rfl ⟨rfl, Nat.le_of_ble_eq_true rfl, Nat.le_of_ble_eq_true rfl⟩ (m_upMarks h2 (gturn_wf hw b) ?_)
            refine z_ireturn zi_146_37 rfl (k t2 h2 (((zFz.w (a := 61) (L := 0) f1).tr (zFz.m f2)).a (by omega)))
          refine z_aload_n zi_146_27 rfl ?_
          refine z_iload_n zi_146_28 rfl ?_
          refine z_if_ge zi_146_29 (by omega) (fun c3 => ?_) (fun c3 => ?_)
          · refine z_iload_n zi_146_33 rfl ?_
            refine go b ?_ q1
            rw [hway, if_neg (by omega), Int.one_mul]
          · refine z_iload_n zi_146_30 rfl ?_
            refine z_ineg zi_146_31 ?_
            refine z_goto zi_146_32 ?_
            refine go (-b) ?_ (by omega)
            rw [hway, if_pos (by omega)]
            omega
        refine z_iload_n zi_146_20 rfl ?_
        refine z_if_eq zi_146_21 (by omega) (fun c2 => ?_) (fun c2 => ?_)
        · exact turn (fun z => z.1 c2)
        · refine z_aload_n zi_146_22 rfl ?_
          refine z_cv0i zi_146_23  rfl ⟨rfl, Nat.le_of_ble_eq_true rfl, Nat.le_of_ble_eq_true rfl⟩ (m_isLocked h1 hw hy y1 (fun q => ?_) (fun q => ?_))
          · rw [if_pos ⟨c2, q⟩] at k
            refine z_if_eq_f zi_146_24 (by omega) (by omega) ?_
            refine z_bipush zi_146_25 (by decide) ?_
            refine z_ireturn zi_146_26 rfl (k t1 h1 ((zFz.w (a := 61) (L := 0) f1).a (by omega)))
          · refine z_if_eq_t zi_146_24 (by omega) (by omega) ?_
            exact turn (fun z => z.2 q)
      refine z_aload_n zi_146_13 rfl ?_
      refine z_iload_n zi_146_14 rfl ?_
      refine z_if_ge zi_146_15 (by omega) (fun c4 => ?_) (fun c4 => ?_)
      · refine z_iconst zi_146_18 ?_
        exact main 1 (by rw [if_neg (by omega)])
      · refine z_iconst zi_146_16 ?_
        refine z_goto zi_146_17 ?_
        exact main (-1) (by rw [if_pos (by omega)])
    · rw [if_pos (by omega)] at k
      refine z_bipush zi_146_11 (by decide) ?_
      refine z_ireturn zi_146_12 rfl (k t h zFA.rf)
  · rw [if_neg q1] at k
    refine z_if_ne_f zi_146_5 (by omega) (by omega) ?_
    refine z_iconst zi_146_6 ?_
    refine z_ireturn zi_146_7 rfl (k t h zFA.rf)
end
