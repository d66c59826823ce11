/-! the model: orders -/
theorem gel_end {set N : Nat} (h : set < 2 ^ N) : ∀ k, gel set (N + k) = gel set N
  | 0 => rfl
  | k + 1 => by
    show gel set (N + k) ++ _ = _
    rw [if_neg (fun z => by have h2 : N + k < N := gbit_lt h z; omega), List.append_nil]
    exact gel_end h k
section
variable {d : Nat} {t : zMI} {g : zG} {sh : gSh} {K : Int → zMI → Prop} {Kv : zMI → Prop}
theorem m_countOrders {a b : Int} {set m q fr : Nat} (h : zRS t g) (hg : gOK g) (hs : zSm t sh) (hw : gShW sh) (hset : set < 2 ^ gN g) (hml : (gel set 12).length = m) (hm : 2 ≤ m ∧ m ≤ 5) (hx : t 50 27 = (m : Int)) (hq : q < 4) (hrow : zRw t 67 m (gEl set)) (ha : a = (set : Int)) (hb : b = 24 * (q : Int) + fr) (hfr : fr + 2 * m ≤ 24)
    (k : ∀ t', zRS t' g → zFA t t' → t' 50 27 = t 50 27 → ((gOr (gtake g (gL g)) m set (sh.2.2 q) fr 120 (gEl set) 0 (fun _ => 0)).1 ≠ 0 → zRw t' 68 m (gOr (gtake g (gL g)) m set (sh.2.2 q) fr 120 (gEl set) 0 (fun _ => 0)).2) → K (gOr (gtake g (gL g)) m set (sh.2.2 q) fr 120 (gEl set) 0 (fun _ => 0)).1 t') : ZX (d + 5) 172 0 [(0, .ref 50), (1, .int (zi a)), (2, .int (zi b))] [] t (zKi K) := by
  subst ha hb
  have hn := hg.1.n
  have ho := hg.1.o
  have hrow0 : gRow m (gN g) (gEl set) := by rw [← hml]; exact gEl_row hset hn.1
  have hend := gEnd_ok hml hm
  have hu : gOK (gtake g (gL g)) := gtake_ok hg _
  have huo : gO (gtake g (gL g)) = 0 := rfl
  have huL : gL (gtake g (gL g)) = 0 := Nat.sub_self _
  have huN : gN (gtake g (gL g)) = gN g := rfl
  -- the end
  have back : ∀ (c : Nat) (ff : Nat → Nat) (t1 : zMI), c ≤ 120 → (∀ i, i < 72 → t1 51 i = t 51 i) → (∀ n, n ≠ 4 → n ≠ 6 → t1 50 n = t 50 n) → (∀ i, i < 12 → t1 69 i = t 52 i ∧ t1 69 (12 + i) = t 53 i) → (∀ q, ¬ (50 ≤ q ∧ q ≤ 53) → ¬ (57 ≤ q ∧ q ≤ 59) → q ≠ 67 → q ≠ 68 → q ≠ 69 → t1 q = t q) → (c ≠ 0 → zRw t1 68 m ff) → (∀ t', zRS t' g → zFA t t' → t' 50 27 = t 50 27 → (c ≠ 0 → zRw t' 68 m ff) → K c t') → ∀ l : List (Nat × Value), zg l 0 = some (.ref 50) → zg l 3 = some (.int (zi (gL g))) → zg l 4 = some (.int (zi (gO g))) → zg l 5 = some (.int (zi c)) → ZX (d + 5) 172 72 l [] t1 (zKi K) := by
    intro c ff t1 hc h51 h50 h69 hf hff kk l l0 l3 l4 l5
    refine z_loc (lv' := [(0, .ref 50), (3, .int (zi (gL g))), (4, .int (zi (gO g))), (5, .int (zi c))]) (by simp only [List.map, l0, l3, l4, l5]) ?_
    have loop : ∀ (j n : Nat) (t2 : zMI), n + j = 12 → (∀ i, i < n → t2 52 i = t 52 i ∧ t2 53 i = t 53 i) → (∀ q, q ≠ 50 → q ≠ 52 → q ≠ 53 → t2 q = t1 q) → t2 50 4 = (gL g : Int) → (∀ n, n ≠ 4 → t2 50 n = t 50 n) → ZX (d + 5) 172 80 [(7, .int (zi n)), (0, .ref 50), (5, .int (zi c))] [] t2 (zKi K) := by
      intro j
      induction j with
      | zero =>
        intro n t2 e h2 f2 g4 g50
        have e1 : n = 12 := by omega
        subst e1
        refine z_iload zi_172_80 rfl ?_
        refine z_bipush zi_172_81 (by decide) ?_
        refine z_icmp_ge_t zi_172_82 (by omega) (by omega) ?_
        refine z_iload zi_172_103 rfl ?_
        refine z_ireturn zi_172_104 rfl (kk t2 (zRS_back h hn.1 (fun i hi => ?_) g4 g50 (fun p hp => h2 p (by omega)) ?_) ⟨fun q hq => ?_, g50 9 (by omega), g50 17 (by omega)⟩ (g50 27 (by omega)) (fun z i hi => ?_))
        · rw [f2 51 (by omega) (by omega) (by omega)]; exact h51 i hi
        · rw [f2 54 (by omega) (by omega) (by omega)]; exact hf 54 (by omega) (by omega) (by omega) (by omega) (by omega)
        · rw [f2 q (by omega) (by omega) (by omega)]; exact hf q (by omega) (by omega) (by omega) (by omega) (by omega)
        · rw [f2 68 (by omega) (by omega) (by omega)]; exact hff z i hi
      | succ j ih =>
        intro n t2 e h2 f2 g4 g50
        have f69 : ∀ n, t2 69 n = t1 69 n := fun n => by rw [f2 69 (by omega) (by omega) (by omega)]
        refine z_iload zi_172_80 rfl ?_
        refine z_bipush zi_172_81 (by decide) ?_
        refine z_icmp_ge_f zi_172_82 (by omega) (by omega) ?_
        refine z_aload_n zi_172_83 rfl ?_
        refine z_getfield zi_172_84 zm_f2 ?_
        refine z_iload zi_172_85 rfl ?_
        refine z_aload_n zi_172_86 rfl ?_
        refine z_getfield zi_172_87 zm_f26 ?_
        refine z_iload zi_172_88 rfl ?_
        refine z_iaload (n := n) zi_172_89 rfl (by omega) (by omega) (by omega) ?_
        rw [f69, (h69 n (by omega)).1]
        refine z_iastore (n := n) zi_172_90 rfl (by omega) (by omega) (by omega) ?_
        refine z_aload_n zi_172_91 rfl ?_
        refine z_getfield zi_172_92 zm_f3 ?_
        refine z_iload zi_172_93 rfl ?_
        refine z_aload_n zi_172_94 rfl ?_
        refine z_getfield zi_172_95 zm_f26 ?_
        refine z_bipush zi_172_96 (by decide) ?_
        refine z_iload zi_172_97 rfl ?_
        refine z_iadd zi_172_98 ?_
        refine z_iaload (n := 12 + n) zi_172_99 rfl (by omega) (by omega) (by omega) ?_
        rw [zup_o (by omega), f69, (h69 n (by omega)).2]
        refine z_iastore (n := n) zi_172_100 rfl (by omega) (by omega) (by omega) ?_
        refine z_iinc zi_172_101 rfl rfl ?_
        refine z_goto zi_172_102 ?_
        refine z_loc (lv' := [(7, .int (zi ((n + 1 : Nat) : Int))), (0, .ref 50), (5, .int (zi c))]) rfl ?_
        refine ih (n + 1) _ (by omega) (fun i hi => ?_) (fun q q1 q2 q3 => by rw [zup_o q3, zup_o q2]; exact f2 q q1 q2 q3) (by rw [zup_o (by omega), zup_o (by omega)]; exact g4) (fun n hn => by rw [zup_o (by omega), zup_o (by omega)]; exact g50 n hn)
        rw [zup_o (show 52 ≠ 53 by omega), zup_at, zup_at, zup_o (show 53 ≠ 52 by omega)]
        by_cases z : i = n
        · rw [if_pos z, if_pos z, z]
          exact ⟨rfl, rfl⟩
        · rw [if_neg z, if_neg z]
          exact h2 i (by omega)
    refine z_aload_n zi_172_72 rfl ?_
    refine z_iload_n zi_172_73 rfl ?_
    refine z_putfield zi_172_74 rfl (Or.inl rfl) ?_
    refine z_aload_n zi_172_75 rfl ?_
    refine z_iload zi_172_76 rfl ?_
    refine z_putfield zi_172_77 rfl (Or.inr ⟨rfl, by omega⟩) ?_
    refine z_iconst zi_172_78 ?_
    refine z_istore zi_172_79 rfl ?_
    refine z_loc (lv' := [(7, .int (zi ((0 : Nat) : Int))), (0, .ref 50), (5, .int (zi c))]) rfl ?_
    refine loop 12 0 _ (by omega) (fun i hi => by omega) (fun q q1 _ _ => by rw [zup_o q1, zup_o q1]) (by rw [zup_n (by omega), zup_s]) (fun n hn => ?_)
    by_cases z : n = 6
    · rw [z, zup_s]; exact h.o.symm
    · rw [zup_n z, zup_n hn]; exact h50 n hn z
  -- the rows
  have rows : ∀ (j : Nat) (row : Nat → Nat) (c : Nat) (ff : Nat → Nat) (t1 : zMI), j ≤ 120 → c + j ≤ 120 → gEnd m j row = true → gRow m (gN g) row → zRw t1 67 m row → (c ≠ 0 → zRw t1 68 m ff) → (∀ i, i < 72 → t1 51 i = t 51 i) → (∀ i, i < 72 → t1 59 i = t 51 i) → (∀ n, n ≠ 4 → n ≠ 6 → t1 50 n = t 50 n) → t1 50 6 = 0 → (∀ i, i < 12 → t1 69 i = t 52 i ∧ t1 69 (12 + i) = t 53 i) → (∀ q, ¬ (50 ≤ q ∧ q ≤ 53) → ¬ (57 ≤ q ∧ q ≤ 59) → q ≠ 67 → q ≠ 68 → q ≠ 69 → t1 q = t q) → (∀ t', zRS t' g → zFA t t' → t' 50 27 = t 50 27 → ((gOr (gtake g (gL g)) m set (sh.2.2 q) fr j row c ff).1 ≠ 0 → zRw t' 68 m (gOr (gtake g (gL g)) m set (sh.2.2 q) fr j row c ff).2) → K (gOr (gtake g (gL g)) m set (sh.2.2 q) fr j row c ff).1 t') → ZX (d + 5) 172 42 [(6, .int (zi 1)), (5, .int (zi c)), (0, .ref 50), (1, .int (zi set)), (2, .int (zi (24 * (q : Int) + fr))), (3, .int (zi (gL g))), (4, .int (zi (gO g)))] [] t1 (zKi K) := by
    intro j
    induction j with
    | zero =>
      intro row c ff t1 _ _ he
      cases he
    | succ j ih =>
      intro row c ff t1 hj hcj he hr hrw hff h51 h59 h50 h506 h69 hf kk
      unfold gEnd at he
      unfold gOr at kk
      have hx1 : t1 50 27 = (m : Int) := by rw [h50 27 (by omega) (by omega)]; exact hx
      have hsm : zSm t1 sh := zSm_c hs (fun q q1 q2 => hf q (by omega) (by omega) (by omega) (by omega) (by omega))
      have hru : zRS (zup t1 50 4 0) (gtake g (gL g)) := by
        have h0 := zRS_take h (n := gL g) (Nat.le_refl _)
        refine zRS_back h0 (by rw [huN]; exact hn.1) (fun i hi => ?_) (by rw [zup_s, huL]; rfl) (fun n hn => ?_) (fun p hp => by omega) ?_
        · rw [zup_o (by omega), zup_o (by omega), zup_o (by omega)]; exact h51 i hi
        · rw [zup_n hn]
          by_cases z : n = 6
          · rw [z, zup_s]; exact h506
          · rw [zup_n z, zup_n hn]; exact h50 n hn z
        · rw [zup_o (by omega), zup_o (by omega), zup_o (by omega)]
          exact hf 54 (by omega) (by omega) (by omega) (by omega) (by omega)
      -- after the row was tried
      have after : ∀ (t2 : zMI) (c2 : Nat) (f2 : Nat → Nat), c2 ≤ c + 1 → zRw t2 67 m row → (c2 ≠ 0 → zRw t2 68 m f2) → (∀ i, i < 72 → t2 51 i = t 51 i) → (∀ i, i < 72 → t2 59 i = t 51 i) → (∀ n, n ≠ 4 → n ≠ 6 → t2 50 n = t 50 n) → t2 50 6 = 0 → (∀ i, i < 12 → t2 69 i = t 52 i ∧ t2 69 (12 + i) = t 53 i) → (∀ q, ¬ (50 ≤ q ∧ q ≤ 53) → ¬ (57 ≤ q ∧ q ≤ 59) → q ≠ 67 → q ≠ 68 → q ≠ 69 → t2 q = t q) → (gNx m row = none → ∀ t', zRS t' g → zFA t t' → t' 50 27 = t 50 27 → (c2 ≠ 0 → zRw t' 68 m f2) → K c2 t') → (∀ r, gNx m row = some r → ∀ t', zRS t' g → zFA t t' → t' 50 27 = t 50 27 → ((gOr (gtake g (gL g)) m set (sh.2.2 q) fr j r c2 f2).1 ≠ 0 → zRw t' 68 m (gOr (gtake g (gL g)) m set (sh.2.2 q) fr j r c2 f2).2) → K (gOr (gtake g (gL g)) m set (sh.2.2 q) fr j r c2 f2).1 t') → ∀ l : List (Nat × Value), zg l 0 = some (.ref 50) → zg l 1 = some (.int (zi set)) → zg l 2 = some (.int (zi (24 * (q : Int) + fr))) → zg l 3 = some (.int (zi (gL g))) → zg l 4 = some (.int (zi (gO g))) → zg l 5 = some (.int (zi c2)) → ZX (d + 5) 172 68 l [] t2 (zKi K) := by
        intro t2 c2 f2 hc2 w67 w68 w51 w59 w50 w506 w69 wf k0 k1 l l0 l1 l2 l3 l4 l5
        refine z_loc (lv' := [(0, .ref 50), (1, .int (zi set)), (2, .int (zi (24 * (q : Int) + fr))), (3, .int (zi (gL g))), (4, .int (zi (gO g))), (5, .int (zi c2))]) (by simp only [List.map, l0, l1, l2, l3, l4, l5]) ?_
        refine z_aload_n zi_172_68 rfl ?_
        refine z_cv0i zi_172_69  rfl ⟨rfl, Nat.le_of_ble_eq_true rfl, Nat.le_of_ble_eq_true rfl⟩ (m_nextOrder w67 hr hn.1 hm (by rw [w50 27 (by omega) (by omega)]; exact hx) (fun z => ?_) (fun r t3 z1 z2 z3 => ?_))
        · refine z_istore zi_172_70 rfl ?_
          refine z_goto zi_172_71 ?_
          refine z_iload zi_172_42 rfl ?_
          refine z_if_eq_t zi_172_43 (by omega) (by omega) ?_
          exact back c2 f2 t2 (by omega) w51 w50 w69 wf w68 (k0 z) _ rfl rfl rfl rfl
        · rw [z1] at he
          dsimp only at he
          refine z_istore zi_172_70 rfl ?_
          refine z_goto zi_172_71 ?_
          refine z_loc (lv' := [(6, .int (zi 1)), (5, .int (zi c2)), (0, .ref 50), (1, .int (zi set)), (2, .int (zi (24 * (q : Int) + fr))), (3, .int (zi (gL g))), (4, .int (zi (gO g)))]) rfl ?_
          refine ih r c2 f2 t3 (by omega) (by omega) he (gNx_row hr hm.1 z1) z2 (fun y i hi => by rw [z3 68 (by omega)]; exact w68 y i hi) (fun i hi => by rw [z3 51 (by omega)]; exact w51 i hi) (fun i hi => by rw [z3 59 (by omega)]; exact w59 i hi) (fun n n1 n2 => by rw [z3 50 (by omega)]; exact w50 n n1 n2) (by rw [z3 50 (by omega)]; exact w506) (fun i hi => by rw [z3 69 (by omega)]; exact w69 i hi) (fun q q1 q2 q3 q4 q5 => by rw [z3 q q3]; exact wf q q1 q2 q3 q4 q5) (k1 r z1)
      refine z_iload zi_172_42 rfl ?_
      refine z_if_eq_f zi_172_43 (by omega) (by omega) ?_
      refine z_aload_n zi_172_44 rfl ?_
      refine z_iload_n zi_172_45 rfl ?_
      refine z_iload_n zi_172_46 rfl ?_
      refine z_cv2i zi_172_47 rfl rfl rfl ⟨rfl, Nat.le_of_ble_eq_true rfl, Nat.le_of_ble_eq_true rfl⟩ (m_brings (g := gtake g (gL g)) (row := row) (fr := fr) hru hu.1 huo huL (fun i hi => (h59 i hi).trans (h51 i hi).symm) hsm hw (by rw [huN]; exact hset) hml hm hx1 hq hr hrw rfl rfl hfr (fun t2 z b1 b2 b3 => ?_) (fun t2 z b1 b2 b3 => ?_))
      · have w67 : zRw t2 67 m row := fun i hi => by rw [b3 67 (by omega) (by omega)]; exact hrw i hi
        have w51 : ∀ i, i < 72 → t2 51 i = t 51 i := fun i hi => (b1 i hi).trans (h51 i hi)
        have w59 : ∀ i, i < 72 → t2 59 i = t 51 i := fun i hi => by rw [b3 59 (by omega) (by omega)]; exact h59 i hi
        have w50 : ∀ n, n ≠ 4 → n ≠ 6 → t2 50 n = t 50 n := fun n n1 n2 => (b2 n n1).trans (h50 n n1 n2)
        have w506 : t2 50 6 = 0 := (b2 6 (by omega)).trans h506
        have w69 : ∀ i, i < 12 → t2 69 i = t 52 i ∧ t2 69 (12 + i) = t 53 i := fun i hi => by rw [b3 69 (by omega) (by omega)]; exact h69 i hi
        have wf : ∀ q, ¬ (50 ≤ q ∧ q ≤ 53) → ¬ (57 ≤ q ∧ q ≤ 59) → q ≠ 67 → q ≠ 68 → q ≠ 69 → t2 q = t q := fun q q1 q2 q3 q4 q5 => (b3 q q1 (by omega)).trans (hf q q1 q2 q3 q4 q5)
        refine z_if_eq_f zi_172_48 (by omega) (by omega) ?_
        by_cases hc0 : c = 0
        · subst hc0
          have copy : ∀ (i n : Nat) (t3 : zMI), n + i = m → (∀ i', i' < n → t3 68 i' = (row i' : Int)) → (∀ q, q ≠ 68 → t3 q = t2 q) → ZX (d + 5) 172 51 [(7, .int (zi n)), (5, .int (zi ((0 : Nat) : Int))), (0, .ref 50), (1, .int (zi set)), (2, .int (zi (24 * (q : Int) + fr))), (3, .int (zi (gL g))), (4, .int (zi (gO g)))] [] t3 (zKi K) := by
            intro i
            induction i with
            | zero =>
              intro n t3 e g1 g2
              have en : n = m := by omega
              subst en
              refine z_iload zi_172_51 rfl ?_
              refine z_aload_n zi_172_52 rfl ?_
              refine z_getfield zi_172_53 zm_f27 ?_
              rw [g2 50 (by omega), w50 27 (by omega) (by omega), hx]
              refine z_icmp_ge_t zi_172_54 (by omega) (by omega) ?_
              refine z_iinc zi_172_67 rfl rfl ?_
              refine after t3 1 row (by omega) (fun i hi => by rw [g2 67 (by omega)]; exact w67 i hi) (fun _ i hi => g1 i hi) (fun i hi => by rw [g2 51 (by omega)]; exact w51 i hi) (fun i hi => by rw [g2 59 (by omega)]; exact w59 i hi) (fun n n1 n2 => by rw [g2 50 (by omega)]; exact w50 n n1 n2) (by rw [g2 50 (by omega)]; exact w506) (fun i hi => by rw [g2 69 (by omega)]; exact w69 i hi) (fun q q1 q2 q3 q4 q5 => by rw [g2 q q4]; exact wf q q1 q2 q3 q4 q5) (fun y => ?_) (fun r y => ?_) _ rfl rfl rfl rfl rfl rfl
              · rw [y] at kk
                dsimp only at kk
                rw [if_pos z] at kk
                exact kk
              · rw [y] at kk
                dsimp only at kk
                rw [if_pos z] at kk
                exact kk
            | succ i ihc =>
              intro n t3 e g1 g2
              refine z_iload zi_172_51 rfl ?_
              refine z_aload_n zi_172_52 rfl ?_
              refine z_getfield zi_172_53 zm_f27 ?_
              rw [g2 50 (by omega), w50 27 (by omega) (by omega), hx]
              refine z_icmp_ge_f zi_172_54 (by omega) (by omega) ?_
              refine z_iload zi_172_55 rfl ?_
              refine z_if_ne_f zi_172_56 (by omega) (by omega) ?_
              refine z_aload_n zi_172_57 rfl ?_
              refine z_getfield zi_172_58 zm_f25 ?_
              refine z_iload zi_172_59 rfl ?_
              refine z_aload_n zi_172_60 rfl ?_
              refine z_getfield zi_172_61 zm_f24 ?_
              refine z_iload zi_172_62 rfl ?_
              refine z_iaload (n := n) zi_172_63 rfl (by omega) (by omega) (by omega) ?_
              rw [g2 67 (by omega), w67 n (by omega)]
              refine z_iastore (n := n) zi_172_64 rfl (by omega) (by omega) (by omega) ?_
              refine z_iinc zi_172_65 rfl rfl ?_
              refine z_goto zi_172_66 ?_
              refine z_loc (lv' := [(7, .int (zi ((n + 1 : Nat) : Int))), (5, .int (zi ((0 : Nat) : Int))), (0, .ref 50), (1, .int (zi set)), (2, .int (zi (24 * (q : Int) + fr))), (3, .int (zi (gL g))), (4, .int (zi (gO g)))]) rfl ?_
              refine ihc (n + 1) _ (by omega) (fun i' hi' => ?_) (fun q hq => by rw [zup_o hq]; exact g2 q hq)
              rw [zup_at]
              by_cases y : i' = n
              · rw [if_pos y, y]
              · rw [if_neg y]; exact g1 i' (by omega)
          refine z_iconst zi_172_49 ?_
          refine z_istore zi_172_50 rfl ?_
          refine z_loc (lv' := [(7, .int (zi ((0 : Nat) : Int))), (5, .int (zi ((0 : Nat) : Int))), (0, .ref 50), (1, .int (zi set)), (2, .int (zi (24 * (q : Int) + fr))), (3, .int (zi (gL g))), (4, .int (zi (gO g)))]) rfl ?_
          exact copy m 0 t2 (by omega) (fun i' hi' => by omega) (fun _ _ => rfl)
        · have e1 : (c : Int) + 1 = ((c + 1 : Nat) : Int) := by omega
          refine z_iconst zi_172_49 ?_
          refine z_istore zi_172_50 rfl ?_
          refine z_iload zi_172_51 rfl ?_
          refine z_aload_n zi_172_52 rfl ?_
          refine z_getfield zi_172_53 zm_f27 ?_
          rw [w50 27 (by omega) (by omega), hx]
          refine z_icmp_ge_f zi_172_54 (by omega) (by omega) ?_
          refine z_iload zi_172_55 rfl ?_
          refine z_if_ne_t zi_172_56 (by omega) (by omega) ?_
          refine z_iinc zi_172_67 rfl rfl ?_
          rw [e1]
          refine after t2 (c + 1) ff (by omega) w67 (fun _ i hi => by rw [b3 68 (by omega) (by omega)]; exact hff hc0 i hi) w51 w59 w50 w506 w69 wf (fun y => ?_) (fun r y => ?_) _ rfl rfl rfl rfl rfl rfl
          · rw [y] at kk
            dsimp only at kk
            rw [if_pos z, if_neg hc0] at kk
            exact kk
          · rw [y] at kk
            dsimp only at kk
            rw [if_pos z, if_neg hc0] at kk
            exact kk
      · refine z_if_eq_t zi_172_48 (by omega) (by omega) ?_
        refine after t2 c ff (by omega) (fun i hi => by rw [b3 67 (by omega) (by omega)]; exact hrw i hi) (fun y i hi => by rw [b3 68 (by omega) (by omega)]; exact hff y i hi) (fun i hi => (b1 i hi).trans (h51 i hi)) (fun i hi => by rw [b3 59 (by omega) (by omega)]; exact h59 i hi) (fun n n1 n2 => (b2 n n1).trans (h50 n n1 n2)) ((b2 6 (by omega)).trans h506) (fun i hi => by rw [b3 69 (by omega) (by omega)]; exact h69 i hi) (fun q q1 q2 q3 q4 q5 => (b3 q q1 (by omega)).trans (hf q q1 q2 q3 q4 q5)) (fun y => ?_) (fun r y => ?_) _ rfl rfl rfl rfl rfl rfl
        · rw [y] at kk
          dsimp only at kk
          rw [if_neg z] at kk
          exact kk
        · rw [y] at kk
          dsimp only at kk
          rw [if_neg z] at kk
          exact kk
  -- what is kept
  have keep : ∀ (j n : Nat) (t1 : zMI), n + j = 12 → (∀ i, i < n → t1 69 i = t 52 i ∧ t1 69 (12 + i) = t 53 i) → (∀ q, q ≠ 69 → t1 q = t q) → ZX (d + 5) 172 8 [(5, .int (zi n)), (4, .int (zi (gO g))), (3, .int (zi (gL g))), (0, .ref 50), (1, .int (zi set)), (2, .int (zi (24 * (q : Int) + fr)))] [] t1 (zKi K) := by
    intro j
    induction j with
    | zero =>
      intro n t1 e h1 f1
      have e1 : n = 12 := by omega
      subst e1
      refine z_iload zi_172_8 rfl ?_
      refine z_bipush zi_172_9 (by decide) ?_
      refine z_icmp_ge_t zi_172_10 (by omega) (by omega) ?_
      refine z_aload_n zi_172_31 rfl ?_
      refine z_aload_n zi_172_32 rfl ?_
      refine z_getfield zi_172_33 zm_f15 ?_
      refine z_cv1v zi_172_34 rfl rfl ⟨rfl, Nat.le_of_ble_eq_true rfl, Nat.le_of_ble_eq_true rfl⟩ (m_keepIn rfl (by omega) (fun t2 b1 b2 => ?_))
      refine z_aload_n zi_172_35 rfl ?_
      refine z_iconst zi_172_36 ?_
      refine z_putfield zi_172_37 rfl (Or.inr ⟨rfl, by omega⟩) ?_
      refine z_iconst zi_172_38 ?_
      refine z_istore zi_172_39 rfl ?_
      refine z_iconst zi_172_40 ?_
      refine z_istore zi_172_41 rfl ?_
      refine z_loc (lv' := [(6, .int (zi 1)), (5, .int (zi ((0 : Nat) : Int))), (0, .ref 50), (1, .int (zi set)), (2, .int (zi (24 * (q : Int) + fr))), (3, .int (zi (gL g))), (4, .int (zi (gO g)))]) rfl ?_
      refine rows 120 (gEl set) 0 (fun _ => 0) _ (Nat.le_refl _) (Nat.le_refl _) hend hrow0 (fun i hi => ?_) (fun z => absurd rfl z) (fun i hi => ?_) (fun i hi => ?_) (fun n n1 n2 => ?_) zup_s (fun i hi => ?_) (fun q q1 q2 q3 q4 q5 => ?_) k
      · rw [zup_o (by omega), b2 67 (by omega), f1 67 (by omega)]; exact hrow i hi
      · rw [zup_o (by omega), b2 51 (by omega), f1 51 (by omega)]
      · rw [zup_o (by omega), b1 i hi, f1 51 (by omega)]
      · rw [zup_n n2, b2 50 (by omega), f1 50 (by omega)]
      · rw [zup_o (by omega), b2 69 (by omega)]; exact h1 i hi
      · rw [zup_o (by omega), b2 q (by omega), f1 q q5]
    | succ j ih =>
      intro n t1 e h1 f1
      refine z_iload zi_172_8 rfl ?_
      refine z_bipush zi_172_9 (by decide) ?_
      refine z_icmp_ge_f zi_172_10 (by omega) (by omega) ?_
      refine z_aload_n zi_172_11 rfl ?_
      refine z_getfield zi_172_12 zm_f26 ?_
      refine z_iload zi_172_13 rfl ?_
      refine z_aload_n zi_172_14 rfl ?_
      refine z_getfield zi_172_15 zm_f2 ?_
      refine z_iload zi_172_16 rfl ?_
      refine z_iaload (n := n) zi_172_17 rfl (by omega) (by omega) (by omega) ?_
      rw [f1 52 (by omega)]
      refine z_iastore (n := n) zi_172_18 rfl (by omega) (by omega) (by omega) ?_
      refine z_aload_n zi_172_19 rfl ?_
      refine z_getfield zi_172_20 zm_f26 ?_
      refine z_bipush zi_172_21 (by decide) ?_
      refine z_iload zi_172_22 rfl ?_
      refine z_iadd zi_172_23 ?_
      refine z_aload_n zi_172_24 rfl ?_
      refine z_getfield zi_172_25 zm_f3 ?_
      refine z_iload zi_172_26 rfl ?_
      refine z_iaload (n := n) zi_172_27 rfl (by omega) (by omega) (by omega) ?_
      rw [zup_o (by omega), f1 53 (by omega)]
      refine z_iastore (n := 12 + n) zi_172_28 rfl (by omega) (by omega) (by omega) ?_
      refine z_iinc zi_172_29 rfl rfl ?_
      refine z_goto zi_172_30 ?_
      refine z_loc (lv' := [(5, .int (zi ((n + 1 : Nat) : Int))), (4, .int (zi (gO g))), (3, .int (zi (gL g))), (0, .ref 50), (1, .int (zi set)), (2, .int (zi (24 * (q : Int) + fr)))]) rfl ?_
      refine ih (n + 1) _ (by omega) (fun i hi => ?_) (fun q hq => by rw [zup_o hq, zup_o hq]; exact f1 q hq)
      rw [zup_at, zup_at, zup_at, zup_at]
      by_cases z : i = n
      · rw [if_neg (by omega), if_pos z, if_pos (by omega), z]
        exact ⟨rfl, rfl⟩
      · rw [if_neg (by omega), if_neg z, if_neg (by omega), if_neg (by omega)]
        exact h1 i (by omega)
  refine z_aload_n zi_172_0 rfl ?_
  refine z_getfield zi_172_1 zm_f4 ?_
  rw [h.l]
  refine z_istore_n zi_172_2 rfl ?_
  refine z_aload_n zi_172_3 rfl ?_
  refine z_getfield zi_172_4 zm_f6 ?_
  rw [h.o]
  refine z_istore zi_172_5 rfl ?_
  refine z_iconst zi_172_6 ?_
  refine z_istore zi_172_7 rfl ?_
  refine z_loc (lv' := [(5, .int (zi ((0 : Nat) : Int))), (4, .int (zi (gO g))), (3, .int (zi (gL g))), (0, .ref 50), (1, .int (zi set)), (2, .int (zi (24 * (q : Int) + fr)))]) rfl ?_
  exact keep 12 0 t (by omega) (fun i hi => by omega) (fun _ _ => rfl)
theorem m_orders {set s lane fr w : Int} (h : zRS t g) (hg : gOK g) (hs : zSm t sh) (hw : gShW sh) (r0 : -2147483648 ≤ set ∧ set < 2147483648) (r1 : -2147483648 ≤ s ∧ s < 2147483648) (r2 : -2147483648 ≤ lane ∧ lane < 2147483648) (r3 : -2147483648 ≤ fr ∧ fr < 2147483648) (r4 : -2147483648 ≤ w ∧ w < 2147483648) (k : ∀ t', zRS t' g → zFA t t' → K (oOrders g sh set s lane fr w) t') : ZX (d + 6) 173 0 [(0, .ref 50), (1, .int (zi set)), (2, .int (zi s)), (3, .int (zi lane)), (4, .int (zi fr)), (5, .int (zi w))] [] t (zKi K) := by
  have hn := hg.1.n
  have hp : 2 ^ gN g ≤ 4096 := Nat.le_trans (Nat.pow_le_pow_right (by omega) hn.1) (by decide : 2 ^ 12 ≤ 4096)
  have hp1 : 0 < 2 ^ gN g := Nat.two_pow_pos _
  have ec : ((2 ^ gN g : Nat) : Int) = 2 ^ gN g := by rw [Int.natCast_pow]; rfl
  have bad : oOrders g sh set s lane fr w = -1 → ∀ t', zRS t' g → zFA t t' → K (-1) t' := fun q t' a b => by
    have := k t' a b
    rw [q] at this
    exact this
  have bad1 : ¬ ((0 ≤ set ∧ set < 2 ^ gN g) ∧ (0 ≤ s ∧ s < 4) ∧ (0 ≤ lane ∧ lane ≤ 2)) → oOrders g sh set s lane fr w = -1 := fun q => by
    unfold oOrders
    rw [if_neg q]
  have bad2 : ¬ ((2 ≤ (gel set.toNat 12).length ∧ (gel set.toNat 12).length ≤ 5) ∧ (-1 ≤ w ∧ w ≤ ((gel set.toNat 12).length : Int) - 1)) → oOrders g sh set s lane fr w = -1 := fun q => by
    unfold oOrders
    by_cases c : (0 ≤ set ∧ set < 2 ^ gN g) ∧ (0 ≤ s ∧ s < 4) ∧ (0 ≤ lane ∧ lane ≤ 2)
    · rw [if_pos c, if_neg q]
    · rw [if_neg c]
  refine z_iload_n zi_173_0 rfl ?_
  refine z_i2l zi_173_1 (by omega) ?_
  refine z_lconst (v := 1) zi_173_2 (by decide) ?_
  refine z_iconst zi_173_3 ?_
  refine z_aload_n zi_173_4 rfl ?_
  refine z_getfield zi_173_5 zm_f1 ?_
  rw [h.n]
  refine z_ishl zi_173_6 (zshl1 hn.1) ?_
  refine z_iconst zi_173_7 ?_
  refine z_isub zi_173_8 ?_
  refine z_i2l zi_173_9 (by omega) ?_
  rw [ec]
  refine z_in zi_173_10 (by omega) (Nat.le_of_ble_eq_true rfl) (fun q1 => ?_) (fun q1 => ?_)
  rotate_left
  · refine z_if_eq_t zi_173_11 (by omega) (by omega) ?_
    refine z_iconst zi_173_16 ?_
    refine z_ireturn zi_173_17 rfl (bad ?_ t h zFA.rf)
    by_cases z : set = 0
    · exact bad2 (fun y => by
        have e0 : (gel (0 : Int).toNat 12).length = 0 := by decide
        rw [z, e0] at y
        omega)
    · exact bad1 (fun y => q1 (by omega))
  obtain ⟨S, rfl⟩ : ∃ S : Nat, set = S := ⟨set.toNat, by omega⟩
  rw [Int.toNat_natCast] at bad2
  have hset : S < 2 ^ gN g := by omega
  refine z_if_eq_f zi_173_11 (by omega) (by omega) ?_
  refine z_iload_n zi_173_12 rfl ?_
  refine z_iload_n zi_173_13 rfl ?_
  refine z_cs2i zi_173_14 rfl rfl ⟨by decide, rfl, Nat.le_of_ble_eq_true rfl, Nat.le_of_ble_eq_true rfl⟩ (m_isSheet r1 r2 (fun q2 => ?_) (fun q2 => ?_))
  rotate_left
  · refine z_if_ne_f zi_173_15 (by omega) (by omega) ?_
    refine z_iconst zi_173_16 ?_
    refine z_ireturn zi_173_17 rfl (bad (bad1 (fun z => q2 z.2)) t h zFA.rf)
  have hin : (0 ≤ (S : Int) ∧ (S : Int) < 2 ^ gN g) ∧ (0 ≤ s ∧ s < 4) ∧ (0 ≤ lane ∧ lane ≤ 2) := ⟨by omega, q2⟩
  obtain ⟨m, rfl⟩ : ∃ m : Nat, s = m := ⟨s.toNat, by omega⟩
  have hm : m < 4 := by omega
  have fS : ∀ {t' : zMI}, (∀ q, q ≠ 50 → q ≠ 67 → t' q = t q) → (∀ n, n ≠ 27 → t' 50 n = t 50 n) → zRS t' g ∧ zFA t t' := fun {t'} f1 f2 =>
    ⟨zRS_congr h (fun q _ _ => f1 q (by omega) (by omega)) (f2 1 (by omega)) (f2 4 (by omega)) (f2 6 (by omega)) (f2 7 (by omega)), fun q hq => f1 q (by omega) (by omega), f2 9 (by omega), f2 17 (by omega)⟩
  have hmono : ∀ n, n ≤ 12 → (gel S n).length ≤ (gel S 12).length := fun n hn => by
    have := gel_mono S n (12 - n)
    rw [show n + (12 - n) = 12 by omega] at this
    exact this
  -- the stones of the set
  have loop : ∀ (j n : Nat) (t' : zMI), n + j = gN g → (gel S n).length ≤ 5 → t' 50 27 = ((gel S n).length : Int) → (∀ i, (hi : i < (gel S n).length) → t' 67 i = ((gel S n)[i] : Int)) → (∀ q, q ≠ 50 → q ≠ 67 → t' q = t q) → (∀ n, n ≠ 27 → t' 50 n = t 50 n) → ZX (d + 6) 173 23 [(6, .int (zi n)), (0, .ref 50), (1, .int (zi S)), (2, .int (zi m)), (3, .int (zi lane)), (4, .int (zi fr)), (5, .int (zi w))] [] t' (zKi K) := by
    intro j
    induction j with
    | zero =>
      intro n t' e h5 h27 h67 f1 f2
      have en : n = gN g := by omega
      subst en
      obtain ⟨h', fA⟩ := fS f1 f2
      have eL : gel S 12 = gel S (gN g) := by
        have := gel_end hset (12 - gN g)
        rw [show gN g + (12 - gN g) = 12 by omega] at this
        exact this
      have hro : zRw t' 67 (gel S 12).length (gEl S) := fun i hi => by
        rw [gEl_get hi, h67 i (by rw [← eL]; exact hi)]
        simp only [eL]
      rw [← eL] at h5 h27
      generalize eM : (gel S 12).length = M at h5 h27 hro bad2
      refine z_iload zi_173_23 rfl ?_
      refine z_aload_n zi_173_24 rfl ?_
      refine z_getfield zi_173_25 zm_f1 ?_
      rw [f2 1 (by omega), h.n]
      refine z_icmp_ge_t zi_173_26 (by omega) (by omega) ?_
      refine z_aload_n zi_173_54 rfl ?_
      refine z_getfield zi_173_55 zm_f27 ?_
      rw [h27]
      refine z_iconst zi_173_56 ?_
      refine z_icmp_lt zi_173_57 (by omega) (fun c1 => ?_) (fun c1 => ?_)
      · refine z_iconst zi_173_68 ?_
        refine z_ireturn zi_173_69 rfl (bad (bad2 (fun z => by omega)) t' h' fA)
      · refine z_iload zi_173_58 rfl ?_
        refine z_i2l zi_173_59 (by omega) ?_
        refine z_ldc2_w (v := -1) zi_173_60 rfl ?_
        refine z_aload_n zi_173_61 rfl ?_
        refine z_getfield zi_173_62 zm_f27 ?_
        rw [h27]
        refine z_iconst zi_173_63 ?_
        refine z_isub zi_173_64 ?_
        refine z_i2l zi_173_65 (by omega) ?_
        refine z_in zi_173_66 (by omega) (Nat.le_of_ble_eq_true rfl) (fun q4 => ?_) (fun q4 => ?_)
        · have hb2 : (2 ≤ M ∧ M ≤ 5) ∧ (-1 ≤ w ∧ w ≤ (M : Int) - 1) := ⟨by omega, q4⟩
          have hgl := gLack_le (sh := sh) (n := m) (lane := lane) (fr := fr) (w := 2 * (M : Int))
          unfold oOrders at k
          rw [if_pos hin, Int.toNat_natCast, Int.toNat_natCast, eM, if_pos hb2] at k
          have hs' : zSm t' sh := zSm_c hs (fun q q1 q2 => f1 q (by omega) (by omega))
          refine z_if_ne_t zi_173_67 (by omega) (by omega) ?_
          refine z_aload_n zi_173_70 rfl ?_
          refine z_iload_n zi_173_71 rfl ?_
          refine z_iload_n zi_173_72 rfl ?_
          refine z_iload zi_173_73 rfl ?_
          refine z_iconst zi_173_74 ?_
          refine z_aload_n zi_173_75 rfl ?_
          refine z_getfield zi_173_76 zm_f27 ?_
          rw [h27]
          refine z_imul zi_173_77 ?_
          refine z_cv [.int (zi m), .int (zi lane), .int (zi fr), .int (zi (2 * (M : Int)))] [] zi_173_78 rfl rfl (Nat.le_of_ble_eq_true rfl) rfl (Nat.le_of_ble_eq_true rfl) (m_lacksRow (K := fun v t2 => v = gLack sh m lane fr (2 * (M : Int)) ∧ t2 = t') hs' hw rfl hm q2.2 r3 (by omega) ⟨rfl, rfl⟩) ?_
          rintro r t2 ⟨v', rfl, rfl, rfl⟩
          show ZX (d + 6) 173 79 _ (.int (zi (gLack sh m lane fr (2 * (M : Int)))) :: []) _ _
          refine z_istore zi_173_79 rfl ?_
          refine z_iload zi_173_80 rfl ?_
          refine z_if_ge zi_173_81 (by omega) (fun c2 => ?_) (fun c2 => ?_)
          · have c0 : gLack sh m lane fr (2 * (M : Int)) = 0 := by omega
            rw [if_neg (fun z => z c0)] at k
            obtain ⟨g1, g2, g3, g4⟩ := gLack_0 c0
            have w2 := (hw m hm).2.1
            obtain ⟨f, rfl⟩ : ∃ f : Nat, fr = f := ⟨fr.toNat, by omega⟩
            rw [Int.toNat_natCast] at k
            refine z_aload_n zi_173_84 rfl ?_
            refine z_iload_n zi_173_85 rfl ?_
            refine z_bipush zi_173_86 (by decide) ?_
            refine z_iload_n zi_173_87 rfl ?_
            refine z_imul zi_173_88 ?_
            refine z_iload zi_173_89 rfl ?_
            refine z_iadd zi_173_90 ?_
            refine z_cv2i zi_173_91 rfl rfl rfl ⟨rfl, Nat.le_of_ble_eq_true rfl, Nat.le_of_ble_eq_true rfl⟩ (m_countOrders (set := S) (m := M) (q := m) (fr := f) h' hg hs' hw hset eM hb2.1 h27 hm hro rfl rfl (by omega) (fun t3 h3 f3 _ hrw => ?_))
            have hle := gOr_le (gtake g (gL g)) M S (sh.2.2 m) f 120 (gEl S) 0 (fun _ => 0)
            have hrr := gOr_row (gtake g (gL g)) M (gN g) S (sh.2.2 m) f (by omega) 120 (gEl S) 0 (fun _ => 0) (by rw [← eM]; exact gEl_row hset hn.1) (fun z => absurd rfl z)
            generalize gOr (gtake g (gL g)) M S (sh.2.2 m) f 120 (gEl S) 0 (fun _ => 0) = R at k hrw hle hrr ⊢
            have k := k t3 h3 (fA.tr f3)
            refine z_istore zi_173_92 rfl ?_
            refine z_iload zi_173_93 rfl ?_
            refine z_if_ne zi_173_94 (by omega) (fun c3 => ?_) (fun c3 => ?_)
            · have z : R.1 ≠ 0 := by omega
              rw [if_neg z] at k
              refine z_iload zi_173_97 rfl ?_
              refine z_if_ge zi_173_98 (by omega) (fun c4 => ?_) (fun c4 => ?_)
              · rw [if_neg (by omega)] at k
                refine z_aload_n zi_173_101 rfl ?_
                refine z_getfield zi_173_102 zm_f25 ?_
                refine z_iload zi_173_103 rfl ?_
                refine z_iaload (n := w.toNat) zi_173_104 rfl (by omega) (by omega) (by omega) ?_
                rw [hrw z w.toNat (by omega)]
                refine z_ireturn zi_173_105 rfl k
              · rw [if_pos (by omega)] at k
                refine z_iload zi_173_99 rfl ?_
                refine z_goto zi_173_100 ?_
                refine z_ireturn zi_173_105 rfl k
            · rw [if_pos (by omega)] at k
              refine z_bipush zi_173_95 (by decide) ?_
              refine z_goto zi_173_96 ?_
              refine z_ireturn zi_173_105 rfl k
          · rw [if_pos (by omega)] at k
            refine z_iload zi_173_82 rfl ?_
            refine z_ireturn zi_173_83 rfl (k _ h' fA)
        · refine z_if_ne_f zi_173_67 (by omega) (by omega) ?_
          refine z_iconst zi_173_68 ?_
          refine z_ireturn zi_173_69 rfl (bad (bad2 (fun z => q4 z.2)) t' h' fA)
    | succ j ih =>
      intro n t' e h5 h27 h67 f1 f2
      obtain ⟨h', fA⟩ := fS f1 f2
      have hd : S / 2 ^ n < 2147483648 := Nat.lt_of_le_of_lt (Nat.div_le_self _ _) (by omega)
      refine z_iload zi_173_23 rfl ?_
      refine z_aload_n zi_173_24 rfl ?_
      refine z_getfield zi_173_25 zm_f1 ?_
      rw [f2 1 (by omega), h.n]
      refine z_icmp_ge_f zi_173_26 (by omega) (by omega) ?_
      refine z_iload_n zi_173_27 rfl ?_
      refine z_iload zi_173_28 rfl ?_
      refine z_ishr zi_173_29 (zshr1 (by omega) (by omega)) ?_
      refine z_iconst zi_173_30 ?_
      refine z_iand zi_173_31 (zand1 hd) ?_
      refine z_iconst zi_173_32 ?_
      refine z_icmp_ne zi_173_33 (by omega) (fun c => ?_) (fun c => ?_)
      · have z : ¬ gbit S n := fun z => by unfold gbit at z; omega
        have eg : gel S (n + 1) = gel S n := by
          show gel S n ++ _ = _
          rw [if_neg z, List.append_nil]
        refine z_iinc zi_173_52 rfl rfl ?_
        refine z_goto zi_173_53 ?_
        refine z_loc (lv' := [(6, .int (zi ((n + 1 : Nat) : Int))), (0, .ref 50), (1, .int (zi S)), (2, .int (zi m)), (3, .int (zi lane)), (4, .int (zi fr)), (5, .int (zi w))]) rfl ?_
        exact ih (n + 1) t' (by omega) (by rw [eg]; exact h5) (by rw [eg]; exact h27) (fun i hi => by simp only [eg] at hi ⊢; exact h67 i hi) f1 f2
      · have z : gbit S n := by unfold gbit; omega
        have eg : gel S (n + 1) = gel S n ++ [n] := by
          show gel S n ++ _ = _
          rw [if_pos z]
        have el : (gel S (n + 1)).length = (gel S n).length + 1 := by rw [eg, List.length_append]; rfl
        refine z_aload_n zi_173_34 rfl ?_
        refine z_getfield zi_173_35 zm_f27 ?_
        rw [h27]
        refine z_iconst zi_173_36 ?_
        refine z_icmp_ne zi_173_37 (by omega) (fun c5 => ?_) (fun c5 => ?_)
        · refine z_aload_n zi_173_40 rfl ?_
          refine z_getfield zi_173_41 zm_f24 ?_
          refine z_aload_n zi_173_42 rfl ?_
          refine z_getfield zi_173_43 zm_f27 ?_
          rw [h27]
          refine z_iload zi_173_44 rfl ?_
          refine z_iastore (n := (gel S n).length) zi_173_45 rfl (by omega) (by omega) (by omega) ?_
          refine z_aload_n zi_173_46 rfl ?_
          refine z_dup zi_173_47 rfl ?_
          refine z_getfield zi_173_48 zm_f27 ?_
          rw [zup_o (by omega), h27]
          refine z_iconst zi_173_49 ?_
          refine z_iadd zi_173_50 ?_
          refine z_putfield zi_173_51 rfl (Or.inl rfl) ?_
          refine z_iinc zi_173_52 rfl rfl ?_
          refine z_goto zi_173_53 ?_
          have e1 : ((gel S n).length : Int) + 1 = ((gel S (n + 1)).length : Int) := by omega
          rw [e1]
          refine z_loc (lv' := [(6, .int (zi ((n + 1 : Nat) : Int))), (0, .ref 50), (1, .int (zi S)), (2, .int (zi m)), (3, .int (zi lane)), (4, .int (zi fr)), (5, .int (zi w))]) rfl ?_
          refine ih (n + 1) _ (by omega) (by omega) zup_s (fun i hi => ?_) (fun q a b => by rw [zup_o a, zup_o b]; exact f1 q a b) (fun n hn => by rw [zup_n hn, zup_o (by omega)]; exact f2 n hn)
          rw [zup_o (by omega), zup_at]
          have e3 : (gel S (n + 1))[i] = (gel S n ++ [n])[i]'(by rw [← eg]; exact hi) := by simp only [eg]
          rw [e3]
          by_cases y : i = (gel S n).length
          · rw [if_pos y, List.getElem_append_right (by omega)]
            simp [y]
          · rw [if_neg y, List.getElem_append_left (by omega)]
            exact h67 i (by omega)
        · have := hmono (n + 1) (by omega)
          refine z_iconst zi_173_38 ?_
          refine z_ireturn zi_173_39 rfl (bad (bad2 (fun z => by omega)) t' h' fA)
  refine z_if_ne_t zi_173_15 (by omega) (by omega) ?_
  refine z_aload_n zi_173_18 rfl ?_
  refine z_iconst zi_173_19 ?_
  refine z_putfield zi_173_20 rfl (Or.inl rfl) ?_
  refine z_iconst zi_173_21 ?_
  refine z_istore zi_173_22 rfl ?_
  refine z_loc (lv' := [(6, .int (zi ((0 : Nat) : Int))), (0, .ref 50), (1, .int (zi S)), (2, .int (zi m)), (3, .int (zi lane)), (4, .int (zi fr)), (5, .int (zi w))]) rfl ?_
  exact loop (gN g) 0 _ (by omega) (Nat.zero_le _) zup_s (fun i hi => absurd hi (Nat.not_lt_zero i)) (fun q a b => zup_o a) (fun n hn => zup_n hn)
end
