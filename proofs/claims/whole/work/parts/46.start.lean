/-! the start -/
theorem at_I3_ad {D : va_G} {A : Nat → Prop} {h0 : Nat} {t : State} (h : at_I3 D A h0 t) : ∃ (cA cS : ClassId) (ad : Nat → Nat), ad 0 = h0 ∧ va_P D vwCl (zX3 ad cA cS) t.heap ∧ va_K D vwCl [(cA, .int), (cS, .object RX0)] t ∧ va_D A (zX3 ad cA cS) := by
  obtain ⟨cA, cS, p1, p1_q1, p1_q2, p1_q3, p1_q4, p1_q5, p1_q6, p1_q7, p1_q8, p2, p2_q1, p2_q2, p2_q3, p2_q4, p2_q5, p2_q6, p2_q7, p2_q8, p3, p3_q1, p3_q2, p3_q3, p3_q4, p3_q5, p3_q6, p3_q7, p3_q8, p4, p4_q1, p4_q2, p4_q3, p4_q4, p4_q5, p4_q6, p4_q7, p4_q8, p5, p5_q1, arr, o6, o7, p8, p8_q1, p9, p9_q1, p10, p10_q1, p11, p11_q1, hP, hK, hD⟩ := h
  exact ⟨cA, cS, fun k => ([h0, p1, p1_q1, p1_q2, p1_q3, p1_q4, p1_q5, p1_q6, p1_q7, p1_q8, p2, p2_q1, p2_q2, p2_q3, p2_q4, p2_q5, p2_q6, p2_q7, p2_q8, p3, p3_q1, p3_q2, p3_q3, p3_q4, p3_q5, p3_q6, p3_q7, p3_q8, p4, p4_q1, p4_q2, p4_q3, p4_q4, p4_q5, p4_q6, p4_q7, p4_q8, p5, p5_q1, arr, p8, p8_q1, p9, p9_q1, p10, p10_q1, p11, p11_q1, o6, o7] : List Nat).getD k 0, rfl, hP, hK, hD⟩
theorem at_I4_ad {D : va_G} {A : Nat → Prop} {m0 : Nat} {t : State} (h : at_I4 D A m0 t) : ∃ (cA : ClassId) (ad : Nat → Nat), ad 50 = m0 ∧ va_P D vwCl (zX4 ad cA) t.heap ∧ va_K D vwCl [(cA, .int)] t ∧ va_D A (zX4 ad cA) := by
  obtain ⟨cA, m_q1, m_q2, m_q3, m_q4, m_q5, m_q6, m_q7, m_q8, m_q9, m_q10, m_q11, m_q12, m_q13, m_q14, m_q15, m_q16, m_q17, m_q18, m_q19, hP, hK, hD⟩ := h
  exact ⟨cA, fun k => ([m0, m_q1, m_q2, m_q3, m_q4, m_q5, m_q6, m_q7, m_q8, m_q9, m_q10, m_q11, m_q12, m_q13, m_q14, m_q15, m_q16, m_q17, m_q18, m_q19] : List Nat).getD (k - 50) 0, rfl, hP, hK, hD⟩
theorem whole_s2 {p : Program} {e : Env} {s : State} {m : MethodId} {below : List Frame} {meth : Method} {c : Code} (l : Launch) {b L : Nat} {xs : Nat → Int32} (hL : L ≤ 3072) (C0 : lw_At p s m meth c b L xs) {D : va_G} {ad : Nat → Nat} {cA cS : ClassId} {H : Heap} {locs : List Loc} {cells slots : Nat} (hc : cells ≤ 600000 ∧ slots ≤ 7302250) (hK : va_K D vwCl (zTy cA cS) s) (hNs : zNs s) (hP : va_P D vwCl (zX3 ad cA cS ++ zX4 ad cA) H) (hD : va_D (fun q : Nat => s.heap.size ≤ q) (zX3 ad cA cS ++ zX4 ad cA)) (hS : va_S (fun q : Nat => s.heap.size ≤ q) s.heap H locs) {ls : Array Slot} (hl : lv_has ls 4 [(0, .ref b), (1, .ref (ad 0)), (2, .ref (ad 50)), (3, .int (nI 0))]) : W p l e room_1 s m #[Value.ref b] below meth c H locs cells slots (lw_Z below #[Value.ref b] s) (F0 m 18 ls []) :=
  law_loop hL C0 hK hNs hc L 0 zT0 H locs ls (Nat.zero_le _) (by omega) JJ0 (zX_P hP) (zX_D hD) hS hl
set_option maxHeartbeats 4000000 in
set_option maxRecDepth 100000 in
theorem whole_s1 {p : Program} {e : Env} {s : State} {m : MethodId} {below : List Frame} {meth : Method} {c : Code} (l : Launch) {b L : Nat} {xs : Nat → Int32} (hL : L ≤ 3072) (C0 : lw_At p s m meth c b L xs) {D : va_G} {ad : Nat → Nat} {cA cS : ClassId} {H : Heap} {locs : List Loc} (hK : va_K D vwCl [(cA, .int), (cS, .object RX0)] s) (hNs : zNs s) (hP : va_P D vwCl (zX3 ad cA cS) H) (hD : va_D (fun q : Nat => s.heap.size ≤ q) (zX3 ad cA cS)) (hS : va_S (fun q : Nat => s.heap.size ≤ q) s.heap H locs) {ls : Array Slot} (hl : lv_has ls 4 [(1, .ref (ad 0)), (0, .ref b)]) : W p l e room_1 s m #[Value.ref b] below meth c H locs 50 706 (lw_Z below #[Value.ref b] s) (F0 m 8 ls []) := by
  obtain ⟨hx, hb, hr, hml, hown, hts, hX, hbl, hlocks, hgv⟩ := id C0
  have hts' : ∀ w ∈ zTb, w.before #[Value.ref b] s = true := fun w hw => hts w (List.mem_filter.mp hw).1
  have hA : ∀ q : Nat, s.heap.size ≤ q → (fun q : Nat => s.heap.size ≤ q) q := fun _ h => h
  refine va_new (ci := 4) (fs := [.null, .int 0, .null, .null, .int 0, .null, .int 0, .int 0, .null, .int 0, .int 0, .int 0, .null, .null, .null, .null, .null, .int 0, .null, .null, .null, .null, .null, .null, .null, .null, .null, .int 0]) (C := RX4) (T := TX4) (N := 28) hx hb hts' (zcl_sp 4 _ rfl).1 tyX4 tyX4_ok hown (hts' _ (zin (k := 671) (by decide +kernel) rfl)) (hts' _ (zin (k := 672) (by decide +kernel) rfl)) (hts' _ (zin (k := 60) (by decide +kernel) rfl)) hK hP hD hS hA rfl df_I4 (Nat.le_of_ble_eq_true rfl) (Nat.le_of_ble_eq_true rfl) dL_8 (fun m0 H hP hD hS => ?_)
  refine lv_dup hx hb dL_11 rfl ?_
  have hPc := hP.sub (ws' := [(m0, .inr (4, [.null, .int 0, .null, .null, .int 0, .null, .int 0, .int 0, .null, .int 0, .int 0, .int 0, .null, .null, .null, .null, .null, .int 0, .null, .null, .null, .null, .null, .null, .null, .null, .null, .int 0]))]) [50] rfl
  have hDc := hD.sub (ws' := [(m0, .inr (4, [.null, .int 0, .null, .null, .int 0, .null, .int 0, .int 0, .null, .int 0, .int 0, .int 0, .null, .null, .null, .null, .null, .int 0, .null, .null, .null, .null, .null, .null, .null, .null, .null, .int 0]))]) [50] (by decide) rfl
  have hKc := hK.sub (tys' := []) [] rfl
  have hFc := va_free (wc := [(m0, .inr (4, [.null, .int 0, .null, .null, .int 0, .null, .int 0, .int 0, .null, .int 0, .int 0, .int 0, .null, .null, .null, .null, .null, .int 0, .null, .null, .null, .null, .null, .null, .null, .null, .null, .int 0]))]) hD hS hA [50] rfl
  refine va_callv (va_runI (As := []) (rest := [.ref m0]) ⟨hx, hb, hml, hown, hts'⟩ (c_I4 l D m0 H.size) ⟨callB_of 0 hts' hG_I4 rfl rfl rfl (hts' _ (zin (k := 60) (by decide +kernel) rfl)) (hts' _ (zin (k := 673) (by decide +kernel) rfl)) ⟨by decide +kernel, by decide +kernel, by decide +kernel⟩ ⟨Nat.le_of_ble_eq_true rfl, Nat.le_of_ble_eq_true rfl⟩, rfl, (hts' _ (zin (k := 674) (by decide +kernel) rfl))⟩ ⟨fun a U g mk q => by obtain ⟨q0, q1, qP, qK, qD⟩ := q; exact ⟨q0, q1, qP, va_K.moved (u := U) (U := U.calling g mk a) (Vm.Alike.refl U.vm) qK, qD⟩, fun U hU hW => ⟨rfl, by rw [hU], by rw [hU]; exact hPc, va_K.moved hW.alike hKc, hDc.weaken (fun _ _ _ _ => trivial)⟩⟩ rfl rfl hl.1 rfl (lv_room (Nat.le_of_ble_eq_true rfl)) dL_12 ⟨Nat.le_of_ble_eq_true rfl, Nat.le_of_ble_eq_true rfl⟩) hS (fun q _ h => hFc q h) hFc (fun u t H1 locs ht hvm _ hB hz1 hk1 hS => ?_)
  obtain ⟨cB, am, hm0, hP1, hK1, hD1⟩ := at_I4_ad hB
  rw [ht] at hP1
  have hK1 := va_K.moved hvm.symm hK1
  obtain ⟨hP, hD⟩ := va_join (wr := zX3 ad cA cS) (w1 := zX4 am cB) hP hD [50] [0, 1, 2, 3, 4, 5, 6, 7, 8, 9, 10, 11, 12, 13, 14, 15, 16, 17, 18, 19, 20, 21, 22, 23, 24, 25, 26, 27, 28, 29, 30, 31, 32, 33, 34, 35, 36, 37, 38, 39, 40, 41, 42, 43, 44, 45, 46, 47, 48, 49] rfl rfl (by decide) (by decide) hk1 hFc hP1 hD1
  have hK := hK.app hK1
  obtain rfl := va_K_eq hK 0 2 rfl rfl
  have hK : va_K D vwCl (zTy cA cS) s := hK.sub [0, 1] rfl
  obtain ⟨f, e3, e4, e0, e50⟩ := zX_comb ad am cA cS
  rw [e3, e4] at hP hD
  refine lv_astore_n (lv' := [(2, .ref m0), (1, .ref (ad 0)), (0, .ref b)]) hx hb dL_15 rfl hl (by decide) rfl (fun ls hl => ?_)
  refine lv_iconst (v := 0) hx hb dL_16 (by decide) ?_
  refine lv_istore_n (lv' := [(3, .int 0), (2, .ref m0), (1, .ref (ad 0)), (0, .ref b)]) hx hb dL_17 rfl hl (by decide) rfl (fun ls hl => ?_)
  have hl : lv_has ls 4 [(0, .ref b), (1, .ref (f 0)), (2, .ref (f 50)), (3, .int (nI 0))] := by
    rw [e0, e50, hm0]
    exact lv_sub hl [3, 2, 1, 0] rfl
  exact whole_s2 l hL C0 ⟨Nat.le_of_ble_eq_true rfl, Nat.le_of_ble_eq_true rfl⟩ hK hNs hP hD hS hl
set_option maxHeartbeats 4000000 in
set_option maxRecDepth 100000 in
theorem whole_start {p : Program} {e : Env} {s : State} {m : MethodId} {below : List Frame} {meth : Method} {c : Code} (l : Launch) (hflags : l.flags = flags0) {b L : Nat} {xs : Nat → Int32} (hL : L ≤ 3072) (C0 : lw_At p s m meth c b L xs) : W p l e room_1 s m #[Value.ref b] below meth c s.heap [] 0 0 (lw_Z below #[Value.ref b] s) (entryFrame m ([Value.ref b] : List Value).toArray 4) := by
  obtain ⟨hx, hb, hr, hml, hown, hts, hX, hbl, hlocks, hgv⟩ := id C0
  have hts' : ∀ w ∈ zTb, w.before #[Value.ref b] s = true := fun w hw => hts w (List.mem_filter.mp hw).1
  have hA : ∀ q : Nat, s.heap.size ≤ q → (fun q : Nat => s.heap.size ≤ q) q := fun _ h => h
  obtain ⟨c0, iS0, hKn0⟩ := u_known (C := RX0) (T := TX0) (N := 4) (n := 4) hts' (zcl_sp 0 _ rfl).1 (hts' _ (zin (k := 134) (by decide +kernel) rfl))
  obtain ⟨c1, iS1, hKn1⟩ := u_known (C := RX1) (T := TX1) (N := 12) (n := 12) hts' (zcl_sp 1 _ rfl).1 (hts' _ (zin (k := 73) (by decide +kernel) rfl))
  obtain ⟨c2, iS2, hKn2⟩ := u_known (C := RX2) (T := TX2) (N := 3) (n := 3) hts' (zcl_sp 2 _ rfl).1 (hts' _ (zin (k := 117) (by decide +kernel) rfl))
  obtain ⟨c3, iS3, hKn3⟩ := u_known (C := RX3) (T := TX3) (N := 9) (n := 9) hts' (zcl_sp 3 _ rfl).1 (hts' _ (zin (k := 65) (by decide +kernel) rfl))
  obtain ⟨c4, iS4, hKn4⟩ := u_known (C := RX4) (T := TX4) (N := 28) (n := 28) hts' (zcl_sp 4 _ rfl).1 (hts' _ (zin (k := 672) (by decide +kernel) rfl))
  obtain ⟨D, hKc⟩ : ∃ D : va_G, ∀ (k : Nat) (q : vw_C), vwCl[k]? = some q → u_Kn s q.1 q.2.1 q.2.2 (D.1 k) (D.2 k) := by
    refine ⟨(fun k => if k = 0 then c0 else if k = 1 then c1 else if k = 2 then c2 else if k = 3 then c3 else c4, fun k => if k = 0 then iS0 else if k = 1 then iS1 else if k = 2 then iS2 else if k = 3 then iS3 else iS4), ?_⟩
    intro k q hq
    match k, hq with
    | 0, hq => cases hq; exact hKn0
    | 1, hq => cases hq; exact hKn1
    | 2, hq => cases hq; exact hKn2
    | 3, hq => cases hq; exact hKn3
    | 4, hq => cases hq; exact hKn4
    | k + 5, hq => simp [vwCl] at hq
  have hNs : zNs s := fun a i x h hm => va_any rfl (hts _ hm)
  have hAO : va_AO RX0 s := va_AO.of (hts _ (List.mem_of_getElem? (i := 133) (by decide +kernel)))
  have hS : va_S (fun q : Nat => s.heap.size ≤ q) s.heap s.heap [] := va_S.rf
  have hK : va_K D vwCl [] s := ⟨hKc, fun k q h => by simp at h⟩
  have hP : va_P D vwCl [] s.heap := fun k q h => by simp at h
  have hD : va_D (fun q : Nat => s.heap.size ≤ q) [] := ⟨fun i j p q h => by simp at h, fun k q h => by simp at h⟩
  have hl := lv_entry ([.ref b]) (n := 4) (Nat.le_of_ble_eq_true rfl)
  rw [lg_entry_eq]
  generalize (lg_sl ([.ref b]) ++ List.replicate (4 - (lg_sl ([.ref b])).length) Slot.unset).toArray = ls at hl ⊢
  have hl : lv_has ls 4 [(0, .ref b)] := hl
  refine va_new (ci := 3) (fs := [.null, .null, .int 0, .null, .null, .null, .null, .null, .null]) (C := RX3) (T := TX3) (N := 9) hx hb hts' (zcl_sp 3 _ rfl).1 tyX3 tyX3_ok hown (hts' _ (zin (k := 64) (by decide +kernel) rfl)) (hts' _ (zin (k := 65) (by decide +kernel) rfl)) (hts' _ (zin (k := 56) (by decide +kernel) rfl)) hK hP hD hS hA rfl df_I3 (Nat.le_of_ble_eq_true rfl) (Nat.le_of_ble_eq_true rfl) dL_0 (fun h0 H hP hD hS => ?_)
  have hP : va_P D vwCl [(h0, .inr (3, [.null, .null, .int 0, .null, .null, .null, .null, .null, .null]))] H := hP
  have hD : va_D (fun q : Nat => s.heap.size ≤ q) [(h0, .inr (3, [.null, .null, .int 0, .null, .null, .null, .null, .null, .null]))] := hD
  refine lv_dup hx hb dL_3 rfl ?_
  have hPc := hP.sub (ws' := [(h0, .inr (3, [.null, .null, .int 0, .null, .null, .null, .null, .null, .null]))]) [0] rfl
  have hDc := hD.sub (ws' := [(h0, .inr (3, [.null, .null, .int 0, .null, .null, .null, .null, .null, .null]))]) [0] (by decide) rfl
  have hKc := hK.sub (tys' := []) [] rfl
  have hFc := va_free (wc := [(h0, .inr (3, [.null, .null, .int 0, .null, .null, .null, .null, .null, .null]))]) hD hS hA [0] rfl
  refine va_callv (va_runI (As := []) (rest := [.ref h0]) ⟨hx, hb, hml, hown, hts'⟩ (c_I3 l D h0 H.size) ⟨callB_of 0 hts' hG_I3 rfl rfl rfl (hts' _ (zin (k := 56) (by decide +kernel) rfl)) (hts' _ (zin (k := 66) (by decide +kernel) rfl)) ⟨by decide +kernel, by decide +kernel, by decide +kernel⟩ ⟨Nat.le_of_ble_eq_true rfl, Nat.le_of_ble_eq_true rfl⟩, rfl, (hts' _ (zin (k := 67) (by decide +kernel) rfl))⟩ ⟨fun a U g mk q => by obtain ⟨q0, q1, qP, qK, qN, qAO, qD⟩ := q; exact ⟨q0, q1, qP, va_K.moved (u := U) (U := U.calling g mk a) (Vm.Alike.refl U.vm) qK, fun a i x h hh => va_Nw.same (U := U.calling g mk _) rfl rfl (qN a i x h hh), va_AO.moved (u := U) (U := U.calling g mk a) (Vm.Alike.refl U.vm) qAO, qD⟩, fun U hU hW => ⟨rfl, by rw [hU], by rw [hU]; exact hPc, va_K.moved hW.alike hKc, fun a i x h hh => va_Nw.warmM hW (hNs a i x h hh), va_AO.moved hW.alike hAO, hDc.weaken (fun _ _ _ _ => trivial)⟩⟩ rfl rfl hl.1 rfl (lv_room (Nat.le_of_ble_eq_true rfl)) dL_4 ⟨Nat.le_of_ble_eq_true rfl, Nat.le_of_ble_eq_true rfl⟩) hS (fun q _ h => hFc q h) hFc (fun u t H1 locs ht hvm _ hB hz1 hk1 hS => ?_)
  obtain ⟨cA, cS, ad, had, hP1, hK1, hD1⟩ := at_I3_ad hB
  rw [ht] at hP1
  have hK1 := va_K.moved hvm.symm hK1
  obtain ⟨hP, hD⟩ := va_join (wr := []) (w1 := zX3 ad cA cS) hP hD [0] [] rfl rfl (by decide) (by decide) hk1 hFc hP1 hD1
  rw [List.nil_append] at hP hD
  have hK : va_K D vwCl [(cA, .int), (cS, .object RX0)] s := hK1
  refine lv_astore_n (lv' := [(1, .ref h0), (0, .ref b)]) hx hb dL_7 rfl hl (by decide) rfl (fun ls hl => ?_)
  rw [← had] at hl
  exact whole_s1 l hL C0 hK hNs hP hD hS hl
