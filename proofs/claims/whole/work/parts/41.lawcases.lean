/-! the law: a case each -/
section
variable {p : Program} {l : Launch} {e : Env} {s : State} {m : MethodId} {below : List Frame} {meth : Method} {c : Code} {b L : Nat} {xs : Nat → Int32} {D : va_G} {ad : Nat → Nat} {cA cS : ClassId} {H : Heap} {locs : List Loc} {cells slots : Nat} {Q : State → Prop}
theorem law_c0 (hL : L ≤ 3072) (C0 : lw_At p s m meth c b L xs) (hK : va_K D vwCl (zTy cA cS) s) (hN : zNs s) {i : Nat} (hi : i + 6 ≤ L) {t : zMI} (hJ : JJ t) (hP : va_P D vwCl (zW ad cA cS (zlf t)) H) (hD : va_D (fun q : Nat => s.heap.size ≤ q) (zW ad cA cS (zlf t))) (hS : va_S (fun q : Nat => s.heap.size ≤ q) s.heap H locs) {ls : Array Slot} (hl : lv_has ls 4 [(0, .ref b), (1, .ref (ad 0)), (2, .ref (ad 50)), (3, .int (nI i))]) (hc : cells ≤ 600000 ∧ slots ≤ 7302250)
    (next : ∀ (t2 : zMI) (H2 : Heap) (locs2 : List Loc), JJ t2 → va_P D vwCl (zW ad cA cS (zlf t2)) H2 → va_D (fun q : Nat => s.heap.size ≤ q) (zW ad cA cS (zlf t2)) → va_S (fun q : Nat => s.heap.size ≤ q) s.heap H2 locs2 → W p l e room_1 s m #[Value.ref b] below meth c H2 locs2 cells slots Q (F0 m 1013 ls [])) : W p l e room_1 s m #[Value.ref b] below meth c H locs cells slots Q (F0 m 156 ls []) := by
  obtain ⟨hx, hb, hr, hml, hown, hts, hX, hbl, hlocks, hgv⟩ := id C0
  have hA : ∀ q : Nat, s.heap.size ≤ q → (fun q : Nat => s.heap.size ≤ q) q := fun _ h => h
  have hbA : ¬ (fun q : Nat => s.heap.size ≤ q) b := Nat.not_le.mpr hbl
  have hin1 : vp_in (nI i + 1) L := by rw [show nI i + 1 = nI (i + 1) from nI_add i 1]; exact vp_in_nI (by omega) (by omega)
  obtain ⟨A1, r1, e1⟩ : ∃ A : Int, r32 A ∧ xs (nI i + 1).toNatClampNeg = zi A := ⟨_, zi_rng _, (zi_of _).symm⟩
  have hin2 : vp_in (nI i + 2) L := by rw [show nI i + 2 = nI (i + 2) from nI_add i 2]; exact vp_in_nI (by omega) (by omega)
  obtain ⟨A2, r2, e2⟩ : ∃ A : Int, r32 A ∧ xs (nI i + 2).toNatClampNeg = zi A := ⟨_, zi_rng _, (zi_of _).symm⟩
  have hin3 : vp_in (nI i + 3) L := by rw [show nI i + 3 = nI (i + 3) from nI_add i 3]; exact vp_in_nI (by omega) (by omega)
  obtain ⟨A3, r3, e3⟩ : ∃ A : Int, r32 A ∧ xs (nI i + 3).toNatClampNeg = zi A := ⟨_, zi_rng _, (zi_of _).symm⟩
  refine lv_aload_n hx hb dL_156 rfl (lv_at hl 1 rfl) ?_
  refine lv_aload_n hx hb dL_157 rfl (lv_at hl 0 rfl) ?_
  refine lv_iload_n hx hb dL_158 rfl (lv_at hl 3 rfl) ?_
  refine lv_iconst (v := 1) hx hb dL_159 (by decide) ?_
  refine lv_iadd hx hb dL_160 ?_
  refine va_sld hx hb hX hbl hbA hS hin1 dL_161 ?_
  rw [e1]
  refine lv_aload_n hx hb dL_162 rfl (lv_at hl 0 rfl) ?_
  refine lv_iload_n hx hb dL_163 rfl (lv_at hl 3 rfl) ?_
  refine lv_iconst (v := 2) hx hb dL_164 (by decide) ?_
  refine lv_iadd hx hb dL_165 ?_
  refine va_sld hx hb hX hbl hbA hS hin2 dL_166 ?_
  rw [e2]
  refine lv_aload_n hx hb dL_167 rfl (lv_at hl 0 rfl) ?_
  refine lv_iload_n hx hb dL_168 rfl (lv_at hl 3 rfl) ?_
  refine lv_iconst (v := 3) hx hb dL_169 (by decide) ?_
  refine lv_iadd hx hb dL_170 ?_
  refine va_sld hx hb hX hbl hbA hS hin3 dL_171 ?_
  rw [e3]
  refine law_call C0 hK hN hA hP hD hS hl.1 hc (mm := 66) (bb := 0) (index := 13) (k1 := 180) (k2 := 181) (k3 := 182) [.int (zi A1), .int (zi A2), .int (zi A3)] [] ⟨by decide +kernel, by decide +kernel, by decide +kernel, by decide, by decide, rfl, rfl⟩ (Nat.le_of_ble_eq_true rfl) (Nat.le_of_ble_eq_true rfl) dL_172 (j_stone hJ r1 r2 r3) (fun v t1 H1 locs1 hZ hP hD hS => ?_)
  refine lv_aload_n hx hb dL_175 rfl (lv_at hl 2 rfl) ?_
  refine lv_aload_n hx hb dL_176 rfl (lv_at hl 0 rfl) ?_
  refine lv_iload_n hx hb dL_177 rfl (lv_at hl 3 rfl) ?_
  refine lv_iconst (v := 1) hx hb dL_178 (by decide) ?_
  refine lv_iadd hx hb dL_179 ?_
  refine va_sld hx hb hX hbl hbA hS hin1 dL_180 ?_
  rw [e1]
  refine lv_aload_n hx hb dL_181 rfl (lv_at hl 0 rfl) ?_
  refine lv_iload_n hx hb dL_182 rfl (lv_at hl 3 rfl) ?_
  refine lv_iconst (v := 2) hx hb dL_183 (by decide) ?_
  refine lv_iadd hx hb dL_184 ?_
  refine va_sld hx hb hX hbl hbA hS hin2 dL_185 ?_
  rw [e2]
  refine lv_aload_n hx hb dL_186 rfl (lv_at hl 0 rfl) ?_
  refine lv_iload_n hx hb dL_187 rfl (lv_at hl 3 rfl) ?_
  refine lv_iconst (v := 3) hx hb dL_188 (by decide) ?_
  refine lv_iadd hx hb dL_189 ?_
  refine va_sld hx hb hX hbl hbA hS hin3 dL_190 ?_
  rw [e3]
  refine law_call C0 hK hN hA hP hD hS hl.1 hc (mm := 116) (bb := 50) (index := 17) (k1 := 762) (k2 := 763) (k3 := 764) [.int (zi A1), .int (zi A2), .int (zi A3)] [.int (zi v)] ⟨by decide +kernel, by decide +kernel, by decide +kernel, by decide, by decide, rfl, rfl⟩ (Nat.le_of_ble_eq_true rfl) (Nat.le_of_ble_eq_true rfl) dL_191 hZ (fun w t2 H2 locs2 hw hP hD hS => ?_)
  obtain ⟨rfl, hJ2⟩ := hw
  exact lv_icmp_eq (tgt := 1013) hx hb dL_194 (by decide) (fun _ => next t2 H2 locs2 hJ2 hP hD hS) (fun h => absurd rfl h)
theorem law_c1 (hL : L ≤ 3072) (C0 : lw_At p s m meth c b L xs) (hK : va_K D vwCl (zTy cA cS) s) (hN : zNs s) {i : Nat} (hi : i + 6 ≤ L) {t : zMI} (hJ : JJ t) (hP : va_P D vwCl (zW ad cA cS (zlf t)) H) (hD : va_D (fun q : Nat => s.heap.size ≤ q) (zW ad cA cS (zlf t))) (hS : va_S (fun q : Nat => s.heap.size ≤ q) s.heap H locs) {ls : Array Slot} (hl : lv_has ls 4 [(0, .ref b), (1, .ref (ad 0)), (2, .ref (ad 50)), (3, .int (nI i))]) (hc : cells ≤ 600000 ∧ slots ≤ 7302250)
    (next : ∀ (t2 : zMI) (H2 : Heap) (locs2 : List Loc), JJ t2 → va_P D vwCl (zW ad cA cS (zlf t2)) H2 → va_D (fun q : Nat => s.heap.size ≤ q) (zW ad cA cS (zlf t2)) → va_S (fun q : Nat => s.heap.size ≤ q) s.heap H2 locs2 → W p l e room_1 s m #[Value.ref b] below meth c H2 locs2 cells slots Q (F0 m 1013 ls [])) : W p l e room_1 s m #[Value.ref b] below meth c H locs cells slots Q (F0 m 199 ls []) := by
  obtain ⟨hx, hb, hr, hml, hown, hts, hX, hbl, hlocks, hgv⟩ := id C0
  have hA : ∀ q : Nat, s.heap.size ≤ q → (fun q : Nat => s.heap.size ≤ q) q := fun _ h => h
  have hbA : ¬ (fun q : Nat => s.heap.size ≤ q) b := Nat.not_le.mpr hbl
  have hin1 : vp_in (nI i + 1) L := by rw [show nI i + 1 = nI (i + 1) from nI_add i 1]; exact vp_in_nI (by omega) (by omega)
  obtain ⟨A1, r1, e1⟩ : ∃ A : Int, r32 A ∧ xs (nI i + 1).toNatClampNeg = zi A := ⟨_, zi_rng _, (zi_of _).symm⟩
  have hin2 : vp_in (nI i + 2) L := by rw [show nI i + 2 = nI (i + 2) from nI_add i 2]; exact vp_in_nI (by omega) (by omega)
  obtain ⟨A2, r2, e2⟩ : ∃ A : Int, r32 A ∧ xs (nI i + 2).toNatClampNeg = zi A := ⟨_, zi_rng _, (zi_of _).symm⟩
  have hin3 : vp_in (nI i + 3) L := by rw [show nI i + 3 = nI (i + 3) from nI_add i 3]; exact vp_in_nI (by omega) (by omega)
  obtain ⟨A3, r3, e3⟩ : ∃ A : Int, r32 A ∧ xs (nI i + 3).toNatClampNeg = zi A := ⟨_, zi_rng _, (zi_of _).symm⟩
  refine lv_aload_n hx hb dL_199 rfl (lv_at hl 1 rfl) ?_
  refine lv_aload_n hx hb dL_200 rfl (lv_at hl 0 rfl) ?_
  refine lv_iload_n hx hb dL_201 rfl (lv_at hl 3 rfl) ?_
  refine lv_iconst (v := 1) hx hb dL_202 (by decide) ?_
  refine lv_iadd hx hb dL_203 ?_
  refine va_sld hx hb hX hbl hbA hS hin1 dL_204 ?_
  rw [e1]
  refine lv_aload_n hx hb dL_205 rfl (lv_at hl 0 rfl) ?_
  refine lv_iload_n hx hb dL_206 rfl (lv_at hl 3 rfl) ?_
  refine lv_iconst (v := 2) hx hb dL_207 (by decide) ?_
  refine lv_iadd hx hb dL_208 ?_
  refine va_sld hx hb hX hbl hbA hS hin2 dL_209 ?_
  rw [e2]
  refine lv_aload_n hx hb dL_210 rfl (lv_at hl 0 rfl) ?_
  refine lv_iload_n hx hb dL_211 rfl (lv_at hl 3 rfl) ?_
  refine lv_iconst (v := 3) hx hb dL_212 (by decide) ?_
  refine lv_iadd hx hb dL_213 ?_
  refine va_sld hx hb hX hbl hbA hS hin3 dL_214 ?_
  rw [e3]
  refine law_call C0 hK hN hA hP hD hS hl.1 hc (mm := 67) (bb := 0) (index := 18) (k1 := 209) (k2 := 210) (k3 := 211) [.int (zi A1), .int (zi A2), .int (zi A3)] [] ⟨by decide +kernel, by decide +kernel, by decide +kernel, by decide, by decide, rfl, rfl⟩ (Nat.le_of_ble_eq_true rfl) (Nat.le_of_ble_eq_true rfl) dL_215 (j_mark hJ r1 r2 r3) (fun v t1 H1 locs1 hZ hP hD hS => ?_)
  refine lv_aload_n hx hb dL_218 rfl (lv_at hl 2 rfl) ?_
  refine lv_aload_n hx hb dL_219 rfl (lv_at hl 0 rfl) ?_
  refine lv_iload_n hx hb dL_220 rfl (lv_at hl 3 rfl) ?_
  refine lv_iconst (v := 1) hx hb dL_221 (by decide) ?_
  refine lv_iadd hx hb dL_222 ?_
  refine va_sld hx hb hX hbl hbA hS hin1 dL_223 ?_
  rw [e1]
  refine lv_aload_n hx hb dL_224 rfl (lv_at hl 0 rfl) ?_
  refine lv_iload_n hx hb dL_225 rfl (lv_at hl 3 rfl) ?_
  refine lv_iconst (v := 2) hx hb dL_226 (by decide) ?_
  refine lv_iadd hx hb dL_227 ?_
  refine va_sld hx hb hX hbl hbA hS hin2 dL_228 ?_
  rw [e2]
  refine lv_aload_n hx hb dL_229 rfl (lv_at hl 0 rfl) ?_
  refine lv_iload_n hx hb dL_230 rfl (lv_at hl 3 rfl) ?_
  refine lv_iconst (v := 3) hx hb dL_231 (by decide) ?_
  refine lv_iadd hx hb dL_232 ?_
  refine va_sld hx hb hX hbl hbA hS hin3 dL_233 ?_
  rw [e3]
  refine law_call C0 hK hN hA hP hD hS hl.1 hc (mm := 117) (bb := 50) (index := 21) (k1 := 775) (k2 := 776) (k3 := 777) [.int (zi A1), .int (zi A2), .int (zi A3)] [.int (zi v)] ⟨by decide +kernel, by decide +kernel, by decide +kernel, by decide, by decide, rfl, rfl⟩ (Nat.le_of_ble_eq_true rfl) (Nat.le_of_ble_eq_true rfl) dL_234 hZ (fun w t2 H2 locs2 hw hP hD hS => ?_)
  obtain ⟨rfl, hJ2⟩ := hw
  exact lv_icmp_eq (tgt := 1013) hx hb dL_237 (by decide) (fun _ => next t2 H2 locs2 hJ2 hP hD hS) (fun h => absurd rfl h)
theorem law_c2 (hL : L ≤ 3072) (C0 : lw_At p s m meth c b L xs) (hK : va_K D vwCl (zTy cA cS) s) (hN : zNs s) {i : Nat} (hi : i + 6 ≤ L) {t : zMI} (hJ : JJ t) (hP : va_P D vwCl (zW ad cA cS (zlf t)) H) (hD : va_D (fun q : Nat => s.heap.size ≤ q) (zW ad cA cS (zlf t))) (hS : va_S (fun q : Nat => s.heap.size ≤ q) s.heap H locs) {ls : Array Slot} (hl : lv_has ls 4 [(0, .ref b), (1, .ref (ad 0)), (2, .ref (ad 50)), (3, .int (nI i))]) (hc : cells ≤ 600000 ∧ slots ≤ 7302250)
    (next : ∀ (t2 : zMI) (H2 : Heap) (locs2 : List Loc), JJ t2 → va_P D vwCl (zW ad cA cS (zlf t2)) H2 → va_D (fun q : Nat => s.heap.size ≤ q) (zW ad cA cS (zlf t2)) → va_S (fun q : Nat => s.heap.size ≤ q) s.heap H2 locs2 → W p l e room_1 s m #[Value.ref b] below meth c H2 locs2 cells slots Q (F0 m 1013 ls [])) : W p l e room_1 s m #[Value.ref b] below meth c H locs cells slots Q (F0 m 242 ls []) := by
  obtain ⟨hx, hb, hr, hml, hown, hts, hX, hbl, hlocks, hgv⟩ := id C0
  have hA : ∀ q : Nat, s.heap.size ≤ q → (fun q : Nat => s.heap.size ≤ q) q := fun _ h => h
  have hbA : ¬ (fun q : Nat => s.heap.size ≤ q) b := Nat.not_le.mpr hbl
  have hin1 : vp_in (nI i + 1) L := by rw [show nI i + 1 = nI (i + 1) from nI_add i 1]; exact vp_in_nI (by omega) (by omega)
  obtain ⟨A1, r1, e1⟩ : ∃ A : Int, r32 A ∧ xs (nI i + 1).toNatClampNeg = zi A := ⟨_, zi_rng _, (zi_of _).symm⟩
  have hin2 : vp_in (nI i + 2) L := by rw [show nI i + 2 = nI (i + 2) from nI_add i 2]; exact vp_in_nI (by omega) (by omega)
  obtain ⟨A2, r2, e2⟩ : ∃ A : Int, r32 A ∧ xs (nI i + 2).toNatClampNeg = zi A := ⟨_, zi_rng _, (zi_of _).symm⟩
  refine lv_aload_n hx hb dL_242 rfl (lv_at hl 1 rfl) ?_
  refine lv_aload_n hx hb dL_243 rfl (lv_at hl 0 rfl) ?_
  refine lv_iload_n hx hb dL_244 rfl (lv_at hl 3 rfl) ?_
  refine lv_iconst (v := 1) hx hb dL_245 (by decide) ?_
  refine lv_iadd hx hb dL_246 ?_
  refine va_sld hx hb hX hbl hbA hS hin1 dL_247 ?_
  rw [e1]
  refine lv_aload_n hx hb dL_248 rfl (lv_at hl 0 rfl) ?_
  refine lv_iload_n hx hb dL_249 rfl (lv_at hl 3 rfl) ?_
  refine lv_iconst (v := 2) hx hb dL_250 (by decide) ?_
  refine lv_iadd hx hb dL_251 ?_
  refine va_sld hx hb hX hbl hbA hS hin2 dL_252 ?_
  rw [e2]
  refine law_call C0 hK hN hA hP hD hS hl.1 hc (mm := 68) (bb := 0) (index := 22) (k1 := 232) (k2 := 233) (k3 := 234) [.int (zi A1), .int (zi A2)] [] ⟨by decide +kernel, by decide +kernel, by decide +kernel, by decide, by decide, rfl, rfl⟩ (Nat.le_of_ble_eq_true rfl) (Nat.le_of_ble_eq_true rfl) dL_253 (j_told hJ r1 r2) (fun v t1 H1 locs1 hZ hP hD hS => ?_)
  refine lv_aload_n hx hb dL_256 rfl (lv_at hl 2 rfl) ?_
  refine lv_aload_n hx hb dL_257 rfl (lv_at hl 0 rfl) ?_
  refine lv_iload_n hx hb dL_258 rfl (lv_at hl 3 rfl) ?_
  refine lv_iconst (v := 1) hx hb dL_259 (by decide) ?_
  refine lv_iadd hx hb dL_260 ?_
  refine va_sld hx hb hX hbl hbA hS hin1 dL_261 ?_
  rw [e1]
  refine lv_aload_n hx hb dL_262 rfl (lv_at hl 0 rfl) ?_
  refine lv_iload_n hx hb dL_263 rfl (lv_at hl 3 rfl) ?_
  refine lv_iconst (v := 2) hx hb dL_264 (by decide) ?_
  refine lv_iadd hx hb dL_265 ?_
  refine va_sld hx hb hX hbl hbA hS hin2 dL_266 ?_
  rw [e2]
  refine law_call C0 hK hN hA hP hD hS hl.1 hc (mm := 119) (bb := 50) (index := 26) (k1 := 787) (k2 := 788) (k3 := 789) [.int (zi A1), .int (zi A2)] [.int (zi v)] ⟨by decide +kernel, by decide +kernel, by decide +kernel, by decide, by decide, rfl, rfl⟩ (Nat.le_of_ble_eq_true rfl) (Nat.le_of_ble_eq_true rfl) dL_267 hZ (fun w t2 H2 locs2 hw hP hD hS => ?_)
  obtain ⟨rfl, hJ2⟩ := hw
  exact lv_icmp_eq (tgt := 1013) hx hb dL_270 (by decide) (fun _ => next t2 H2 locs2 hJ2 hP hD hS) (fun h => absurd rfl h)
theorem law_c3 (hL : L ≤ 3072) (C0 : lw_At p s m meth c b L xs) (hK : va_K D vwCl (zTy cA cS) s) (hN : zNs s) {i : Nat} (hi : i + 6 ≤ L) {t : zMI} (hJ : JJ t) (hP : va_P D vwCl (zW ad cA cS (zlf t)) H) (hD : va_D (fun q : Nat => s.heap.size ≤ q) (zW ad cA cS (zlf t))) (hS : va_S (fun q : Nat => s.heap.size ≤ q) s.heap H locs) {ls : Array Slot} (hl : lv_has ls 4 [(0, .ref b), (1, .ref (ad 0)), (2, .ref (ad 50)), (3, .int (nI i))]) (hc : cells ≤ 600000 ∧ slots ≤ 7302250)
    (next : ∀ (t2 : zMI) (H2 : Heap) (locs2 : List Loc), JJ t2 → va_P D vwCl (zW ad cA cS (zlf t2)) H2 → va_D (fun q : Nat => s.heap.size ≤ q) (zW ad cA cS (zlf t2)) → va_S (fun q : Nat => s.heap.size ≤ q) s.heap H2 locs2 → W p l e room_1 s m #[Value.ref b] below meth c H2 locs2 cells slots Q (F0 m 1013 ls [])) : W p l e room_1 s m #[Value.ref b] below meth c H locs cells slots Q (F0 m 275 ls []) := by
  obtain ⟨hx, hb, hr, hml, hown, hts, hX, hbl, hlocks, hgv⟩ := id C0
  have hA : ∀ q : Nat, s.heap.size ≤ q → (fun q : Nat => s.heap.size ≤ q) q := fun _ h => h
  have hbA : ¬ (fun q : Nat => s.heap.size ≤ q) b := Nat.not_le.mpr hbl
  have hin1 : vp_in (nI i + 1) L := by rw [show nI i + 1 = nI (i + 1) from nI_add i 1]; exact vp_in_nI (by omega) (by omega)
  obtain ⟨A1, r1, e1⟩ : ∃ A : Int, r32 A ∧ xs (nI i + 1).toNatClampNeg = zi A := ⟨_, zi_rng _, (zi_of _).symm⟩
  have hin2 : vp_in (nI i + 2) L := by rw [show nI i + 2 = nI (i + 2) from nI_add i 2]; exact vp_in_nI (by omega) (by omega)
  obtain ⟨A2, r2, e2⟩ : ∃ A : Int, r32 A ∧ xs (nI i + 2).toNatClampNeg = zi A := ⟨_, zi_rng _, (zi_of _).symm⟩
  refine lv_aload_n hx hb dL_275 rfl (lv_at hl 1 rfl) ?_
  refine lv_aload_n hx hb dL_276 rfl (lv_at hl 0 rfl) ?_
  refine lv_iload_n hx hb dL_277 rfl (lv_at hl 3 rfl) ?_
  refine lv_iconst (v := 1) hx hb dL_278 (by decide) ?_
  refine lv_iadd hx hb dL_279 ?_
  refine va_sld hx hb hX hbl hbA hS hin1 dL_280 ?_
  rw [e1]
  refine lv_aload_n hx hb dL_281 rfl (lv_at hl 0 rfl) ?_
  refine lv_iload_n hx hb dL_282 rfl (lv_at hl 3 rfl) ?_
  refine lv_iconst (v := 2) hx hb dL_283 (by decide) ?_
  refine lv_iadd hx hb dL_284 ?_
  refine va_sld hx hb hX hbl hbA hS hin2 dL_285 ?_
  rw [e2]
  refine law_call C0 hK hN hA hP hD hS hl.1 hc (mm := 69) (bb := 0) (index := 27) (k1 := 252) (k2 := 253) (k3 := 254) [.int (zi A1), .int (zi A2)] [] ⟨by decide +kernel, by decide +kernel, by decide +kernel, by decide, by decide, rfl, rfl⟩ (Nat.le_of_ble_eq_true rfl) (Nat.le_of_ble_eq_true rfl) dL_286 (j_deal hJ r1 r2) (fun v t1 H1 locs1 hZ hP hD hS => ?_)
  refine lv_aload_n hx hb dL_289 rfl (lv_at hl 2 rfl) ?_
  refine lv_aload_n hx hb dL_290 rfl (lv_at hl 0 rfl) ?_
  refine lv_iload_n hx hb dL_291 rfl (lv_at hl 3 rfl) ?_
  refine lv_iconst (v := 1) hx hb dL_292 (by decide) ?_
  refine lv_iadd hx hb dL_293 ?_
  refine va_sld hx hb hX hbl hbA hS hin1 dL_294 ?_
  rw [e1]
  refine lv_aload_n hx hb dL_295 rfl (lv_at hl 0 rfl) ?_
  refine lv_iload_n hx hb dL_296 rfl (lv_at hl 3 rfl) ?_
  refine lv_iconst (v := 2) hx hb dL_297 (by decide) ?_
  refine lv_iadd hx hb dL_298 ?_
  refine va_sld hx hb hX hbl hbA hS hin2 dL_299 ?_
  rw [e2]
  refine law_call C0 hK hN hA hP hD hS hl.1 hc (mm := 120) (bb := 50) (index := 30) (k1 := 796) (k2 := 797) (k3 := 798) [.int (zi A1), .int (zi A2)] [.int (zi v)] ⟨by decide +kernel, by decide +kernel, by decide +kernel, by decide, by decide, rfl, rfl⟩ (Nat.le_of_ble_eq_true rfl) (Nat.le_of_ble_eq_true rfl) dL_300 hZ (fun w t2 H2 locs2 hw hP hD hS => ?_)
  obtain ⟨rfl, hJ2⟩ := hw
  exact lv_icmp_eq (tgt := 1013) hx hb dL_303 (by decide) (fun _ => next t2 H2 locs2 hJ2 hP hD hS) (fun h => absurd rfl h)
theorem law_c4 (hL : L ≤ 3072) (C0 : lw_At p s m meth c b L xs) (hK : va_K D vwCl (zTy cA cS) s) (hN : zNs s) {i : Nat} (hi : i + 6 ≤ L) {t : zMI} (hJ : JJ t) (hP : va_P D vwCl (zW ad cA cS (zlf t)) H) (hD : va_D (fun q : Nat => s.heap.size ≤ q) (zW ad cA cS (zlf t))) (hS : va_S (fun q : Nat => s.heap.size ≤ q) s.heap H locs) {ls : Array Slot} (hl : lv_has ls 4 [(0, .ref b), (1, .ref (ad 0)), (2, .ref (ad 50)), (3, .int (nI i))]) (hc : cells ≤ 600000 ∧ slots ≤ 7302250)
    (next : ∀ (t2 : zMI) (H2 : Heap) (locs2 : List Loc), JJ t2 → va_P D vwCl (zW ad cA cS (zlf t2)) H2 → va_D (fun q : Nat => s.heap.size ≤ q) (zW ad cA cS (zlf t2)) → va_S (fun q : Nat => s.heap.size ≤ q) s.heap H2 locs2 → W p l e room_1 s m #[Value.ref b] below meth c H2 locs2 cells slots Q (F0 m 1013 ls [])) : W p l e room_1 s m #[Value.ref b] below meth c H locs cells slots Q (F0 m 308 ls []) := by
  obtain ⟨hx, hb, hr, hml, hown, hts, hX, hbl, hlocks, hgv⟩ := id C0
  have hA : ∀ q : Nat, s.heap.size ≤ q → (fun q : Nat => s.heap.size ≤ q) q := fun _ h => h
  have hbA : ¬ (fun q : Nat => s.heap.size ≤ q) b := Nat.not_le.mpr hbl
  have hin1 : vp_in (nI i + 1) L := by rw [show nI i + 1 = nI (i + 1) from nI_add i 1]; exact vp_in_nI (by omega) (by omega)
  obtain ⟨A1, r1, e1⟩ : ∃ A : Int, r32 A ∧ xs (nI i + 1).toNatClampNeg = zi A := ⟨_, zi_rng _, (zi_of _).symm⟩
  have hin2 : vp_in (nI i + 2) L := by rw [show nI i + 2 = nI (i + 2) from nI_add i 2]; exact vp_in_nI (by omega) (by omega)
  obtain ⟨A2, r2, e2⟩ : ∃ A : Int, r32 A ∧ xs (nI i + 2).toNatClampNeg = zi A := ⟨_, zi_rng _, (zi_of _).symm⟩
  have hin3 : vp_in (nI i + 3) L := by rw [show nI i + 3 = nI (i + 3) from nI_add i 3]; exact vp_in_nI (by omega) (by omega)
  obtain ⟨A3, r3, e3⟩ : ∃ A : Int, r32 A ∧ xs (nI i + 3).toNatClampNeg = zi A := ⟨_, zi_rng _, (zi_of _).symm⟩
  refine lv_aload_n hx hb dL_308 rfl (lv_at hl 1 rfl) ?_
  refine lv_aload_n hx hb dL_309 rfl (lv_at hl 0 rfl) ?_
  refine lv_iload_n hx hb dL_310 rfl (lv_at hl 3 rfl) ?_
  refine lv_iconst (v := 1) hx hb dL_311 (by decide) ?_
  refine lv_iadd hx hb dL_312 ?_
  refine va_sld hx hb hX hbl hbA hS hin1 dL_313 ?_
  rw [e1]
  refine lv_i2l hx hb dL_314 rfl ?_
  refine lv_bipush (v := 32) hx hb dL_315 (by decide) ?_
  refine lv_lshl hx hb dL_317 rfl ?_
  refine lv_aload_n hx hb dL_318 rfl (lv_at hl 0 rfl) ?_
  refine lv_iload_n hx hb dL_319 rfl (lv_at hl 3 rfl) ?_
  refine lv_iconst (v := 2) hx hb dL_320 (by decide) ?_
  refine lv_iadd hx hb dL_321 ?_
  refine va_sld hx hb hX hbl hbA hS hin2 dL_322 ?_
  rw [e2]
  refine lv_i2l hx hb dL_323 rfl ?_
  refine lv_ldc2 (v := 4294967295) hx hb hown (hts _ (List.mem_of_getElem? (i := 1026) (by decide +kernel))) dL_324 ?_
  refine lv_land hx hb dL_327 ?_
  refine lv_lor hx hb dL_328 ?_
  refine lv_aload_n hx hb dL_329 rfl (lv_at hl 0 rfl) ?_
  refine lv_iload_n hx hb dL_330 rfl (lv_at hl 3 rfl) ?_
  refine lv_iconst (v := 3) hx hb dL_331 (by decide) ?_
  refine lv_iadd hx hb dL_332 ?_
  refine va_sld hx hb hX hbl hbA hS hin3 dL_333 ?_
  rw [e3]
  refine law_call C0 hK hN hA hP hD hS hl.1 hc (mm := 70) (bb := 0) (index := 33) (k1 := 265) (k2 := 266) (k3 := 267) [.long (((zi A1).toInt64 <<< ((32 : Int32).toInt64 &&& 63)) ||| ((zi A2).toInt64 &&& 4294967295)), .int (zi A3)] [] ⟨by decide +kernel, by decide +kernel, by decide +kernel, by decide, by decide, rfl, rfl⟩ (Nat.le_of_ble_eq_true rfl) (Nat.le_of_ble_eq_true rfl) dL_334 (j_type hJ r3) (fun v t1 H1 locs1 hZ hP hD hS => ?_)
  refine lv_aload_n hx hb dL_337 rfl (lv_at hl 2 rfl) ?_
  refine lv_aload_n hx hb dL_338 rfl (lv_at hl 0 rfl) ?_
  refine lv_iload_n hx hb dL_339 rfl (lv_at hl 3 rfl) ?_
  refine lv_iconst (v := 1) hx hb dL_340 (by decide) ?_
  refine lv_iadd hx hb dL_341 ?_
  refine va_sld hx hb hX hbl hbA hS hin1 dL_342 ?_
  rw [e1]
  refine lv_i2l hx hb dL_343 rfl ?_
  refine lv_bipush (v := 32) hx hb dL_344 (by decide) ?_
  refine lv_lshl hx hb dL_346 rfl ?_
  refine lv_aload_n hx hb dL_347 rfl (lv_at hl 0 rfl) ?_
  refine lv_iload_n hx hb dL_348 rfl (lv_at hl 3 rfl) ?_
  refine lv_iconst (v := 2) hx hb dL_349 (by decide) ?_
  refine lv_iadd hx hb dL_350 ?_
  refine va_sld hx hb hX hbl hbA hS hin2 dL_351 ?_
  rw [e2]
  refine lv_i2l hx hb dL_352 rfl ?_
  refine lv_ldc2 (v := 4294967295) hx hb hown (hts _ (List.mem_of_getElem? (i := 1026) (by decide +kernel))) dL_353 ?_
  refine lv_land hx hb dL_356 ?_
  refine lv_lor hx hb dL_357 ?_
  refine lv_aload_n hx hb dL_358 rfl (lv_at hl 0 rfl) ?_
  refine lv_iload_n hx hb dL_359 rfl (lv_at hl 3 rfl) ?_
  refine lv_iconst (v := 3) hx hb dL_360 (by decide) ?_
  refine lv_iadd hx hb dL_361 ?_
  refine va_sld hx hb hX hbl hbA hS hin3 dL_362 ?_
  rw [e3]
  refine law_call C0 hK hN hA hP hD hS hl.1 hc (mm := 121) (bb := 50) (index := 37) (k1 := 801) (k2 := 802) (k3 := 803) [.long (((zi A1).toInt64 <<< ((32 : Int32).toInt64 &&& 63)) ||| ((zi A2).toInt64 &&& 4294967295)), .int (zi A3)] [.int (zi v)] ⟨by decide +kernel, by decide +kernel, by decide +kernel, by decide, by decide, rfl, rfl⟩ (Nat.le_of_ble_eq_true rfl) (Nat.le_of_ble_eq_true rfl) dL_363 hZ (fun w t2 H2 locs2 hw hP hD hS => ?_)
  obtain ⟨rfl, hJ2⟩ := hw
  exact lv_icmp_eq (tgt := 1013) hx hb dL_366 (by decide) (fun _ => next t2 H2 locs2 hJ2 hP hD hS) (fun h => absurd rfl h)
theorem law_c5 (hL : L ≤ 3072) (C0 : lw_At p s m meth c b L xs) (hK : va_K D vwCl (zTy cA cS) s) (hN : zNs s) {i : Nat} (hi : i + 6 ≤ L) {t : zMI} (hJ : JJ t) (hP : va_P D vwCl (zW ad cA cS (zlf t)) H) (hD : va_D (fun q : Nat => s.heap.size ≤ q) (zW ad cA cS (zlf t))) (hS : va_S (fun q : Nat => s.heap.size ≤ q) s.heap H locs) {ls : Array Slot} (hl : lv_has ls 4 [(0, .ref b), (1, .ref (ad 0)), (2, .ref (ad 50)), (3, .int (nI i))]) (hc : cells ≤ 600000 ∧ slots ≤ 7302250)
    (next : ∀ (t2 : zMI) (H2 : Heap) (locs2 : List Loc), JJ t2 → va_P D vwCl (zW ad cA cS (zlf t2)) H2 → va_D (fun q : Nat => s.heap.size ≤ q) (zW ad cA cS (zlf t2)) → va_S (fun q : Nat => s.heap.size ≤ q) s.heap H2 locs2 → W p l e room_1 s m #[Value.ref b] below meth c H2 locs2 cells slots Q (F0 m 1013 ls [])) : W p l e room_1 s m #[Value.ref b] below meth c H locs cells slots Q (F0 m 371 ls []) := by
  obtain ⟨hx, hb, hr, hml, hown, hts, hX, hbl, hlocks, hgv⟩ := id C0
  have hA : ∀ q : Nat, s.heap.size ≤ q → (fun q : Nat => s.heap.size ≤ q) q := fun _ h => h
  have hbA : ¬ (fun q : Nat => s.heap.size ≤ q) b := Nat.not_le.mpr hbl
  refine lv_aload_n hx hb dL_371 rfl (lv_at hl 1 rfl) ?_
  refine law_call C0 hK hN hA hP hD hS hl.1 hc (mm := 71) (bb := 0) (index := 38) (k1 := 281) (k2 := 282) (k3 := 283) [] [] ⟨by decide +kernel, by decide +kernel, by decide +kernel, by decide, by decide, rfl, rfl⟩ (Nat.le_of_ble_eq_true rfl) (Nat.le_of_ble_eq_true rfl) dL_372 (j_stones hJ) (fun v t1 H1 locs1 hZ hP hD hS => ?_)
  refine lv_aload_n hx hb dL_375 rfl (lv_at hl 2 rfl) ?_
  refine law_call C0 hK hN hA hP hD hS hl.1 hc (mm := 126) (bb := 50) (index := 42) (k1 := 809) (k2 := 810) (k3 := 811) [] [.int (zi v)] ⟨by decide +kernel, by decide +kernel, by decide +kernel, by decide, by decide, rfl, rfl⟩ (Nat.le_of_ble_eq_true rfl) (Nat.le_of_ble_eq_true rfl) dL_376 hZ (fun w t2 H2 locs2 hw hP hD hS => ?_)
  obtain ⟨rfl, hJ2⟩ := hw
  exact lv_icmp_eq (tgt := 1013) hx hb dL_379 (by decide) (fun _ => next t2 H2 locs2 hJ2 hP hD hS) (fun h => absurd rfl h)
theorem law_c6 (hL : L ≤ 3072) (C0 : lw_At p s m meth c b L xs) (hK : va_K D vwCl (zTy cA cS) s) (hN : zNs s) {i : Nat} (hi : i + 6 ≤ L) {t : zMI} (hJ : JJ t) (hP : va_P D vwCl (zW ad cA cS (zlf t)) H) (hD : va_D (fun q : Nat => s.heap.size ≤ q) (zW ad cA cS (zlf t))) (hS : va_S (fun q : Nat => s.heap.size ≤ q) s.heap H locs) {ls : Array Slot} (hl : lv_has ls 4 [(0, .ref b), (1, .ref (ad 0)), (2, .ref (ad 50)), (3, .int (nI i))]) (hc : cells ≤ 600000 ∧ slots ≤ 7302250)
    (next : ∀ (t2 : zMI) (H2 : Heap) (locs2 : List Loc), JJ t2 → va_P D vwCl (zW ad cA cS (zlf t2)) H2 → va_D (fun q : Nat => s.heap.size ≤ q) (zW ad cA cS (zlf t2)) → va_S (fun q : Nat => s.heap.size ≤ q) s.heap H2 locs2 → W p l e room_1 s m #[Value.ref b] below meth c H2 locs2 cells slots Q (F0 m 1013 ls [])) : W p l e room_1 s m #[Value.ref b] below meth c H locs cells slots Q (F0 m 384 ls []) := by
  obtain ⟨hx, hb, hr, hml, hown, hts, hX, hbl, hlocks, hgv⟩ := id C0
  have hA : ∀ q : Nat, s.heap.size ≤ q → (fun q : Nat => s.heap.size ≤ q) q := fun _ h => h
  have hbA : ¬ (fun q : Nat => s.heap.size ≤ q) b := Nat.not_le.mpr hbl
  have hin1 : vp_in (nI i + 1) L := by rw [show nI i + 1 = nI (i + 1) from nI_add i 1]; exact vp_in_nI (by omega) (by omega)
  obtain ⟨A1, r1, e1⟩ : ∃ A : Int, r32 A ∧ xs (nI i + 1).toNatClampNeg = zi A := ⟨_, zi_rng _, (zi_of _).symm⟩
  refine lv_aload_n hx hb dL_384 rfl (lv_at hl 1 rfl) ?_
  refine lv_aload_n hx hb dL_385 rfl (lv_at hl 0 rfl) ?_
  refine lv_iload_n hx hb dL_386 rfl (lv_at hl 3 rfl) ?_
  refine lv_iconst (v := 1) hx hb dL_387 (by decide) ?_
  refine lv_iadd hx hb dL_388 ?_
  refine va_sld hx hb hX hbl hbA hS hin1 dL_389 ?_
  rw [e1]
  refine law_call C0 hK hN hA hP hD hS hl.1 hc (mm := 72) (bb := 0) (index := 43) (k1 := 343) (k2 := 344) (k3 := 345) [.int (zi A1)] [] ⟨by decide +kernel, by decide +kernel, by decide +kernel, by decide, by decide, rfl, rfl⟩ (Nat.le_of_ble_eq_true rfl) (Nat.le_of_ble_eq_true rfl) dL_390 (j_count hJ r1) (fun v t1 H1 locs1 hZ hP hD hS => ?_)
  refine lv_aload_n hx hb dL_393 rfl (lv_at hl 2 rfl) ?_
  refine lv_aload_n hx hb dL_394 rfl (lv_at hl 0 rfl) ?_
  refine lv_iload_n hx hb dL_395 rfl (lv_at hl 3 rfl) ?_
  refine lv_iconst (v := 1) hx hb dL_396 (by decide) ?_
  refine lv_iadd hx hb dL_397 ?_
  refine va_sld hx hb hX hbl hbA hS hin1 dL_398 ?_
  rw [e1]
  refine law_call C0 hK hN hA hP hD hS hl.1 hc (mm := 136) (bb := 50) (index := 47) (k1 := 829) (k2 := 830) (k3 := 831) [.int (zi A1)] [.int (zi v)] ⟨by decide +kernel, by decide +kernel, by decide +kernel, by decide, by decide, rfl, rfl⟩ (Nat.le_of_ble_eq_true rfl) (Nat.le_of_ble_eq_true rfl) dL_399 hZ (fun w t2 H2 locs2 hw hP hD hS => ?_)
  obtain ⟨rfl, hJ2⟩ := hw
  exact lv_icmp_eq (tgt := 1013) hx hb dL_402 (by decide) (fun _ => next t2 H2 locs2 hJ2 hP hD hS) (fun h => absurd rfl h)
theorem law_c7 (hL : L ≤ 3072) (C0 : lw_At p s m meth c b L xs) (hK : va_K D vwCl (zTy cA cS) s) (hN : zNs s) {i : Nat} (hi : i + 6 ≤ L) {t : zMI} (hJ : JJ t) (hP : va_P D vwCl (zW ad cA cS (zlf t)) H) (hD : va_D (fun q : Nat => s.heap.size ≤ q) (zW ad cA cS (zlf t))) (hS : va_S (fun q : Nat => s.heap.size ≤ q) s.heap H locs) {ls : Array Slot} (hl : lv_has ls 4 [(0, .ref b), (1, .ref (ad 0)), (2, .ref (ad 50)), (3, .int (nI i))]) (hc : cells ≤ 600000 ∧ slots ≤ 7302250)
    (next : ∀ (t2 : zMI) (H2 : Heap) (locs2 : List Loc), JJ t2 → va_P D vwCl (zW ad cA cS (zlf t2)) H2 → va_D (fun q : Nat => s.heap.size ≤ q) (zW ad cA cS (zlf t2)) → va_S (fun q : Nat => s.heap.size ≤ q) s.heap H2 locs2 → W p l e room_1 s m #[Value.ref b] below meth c H2 locs2 cells slots Q (F0 m 1013 ls [])) : W p l e room_1 s m #[Value.ref b] below meth c H locs cells slots Q (F0 m 407 ls []) := by
  obtain ⟨hx, hb, hr, hml, hown, hts, hX, hbl, hlocks, hgv⟩ := id C0
  have hA : ∀ q : Nat, s.heap.size ≤ q → (fun q : Nat => s.heap.size ≤ q) q := fun _ h => h
  have hbA : ¬ (fun q : Nat => s.heap.size ≤ q) b := Nat.not_le.mpr hbl
  have hin1 : vp_in (nI i + 1) L := by rw [show nI i + 1 = nI (i + 1) from nI_add i 1]; exact vp_in_nI (by omega) (by omega)
  obtain ⟨A1, r1, e1⟩ : ∃ A : Int, r32 A ∧ xs (nI i + 1).toNatClampNeg = zi A := ⟨_, zi_rng _, (zi_of _).symm⟩
  have hin2 : vp_in (nI i + 2) L := by rw [show nI i + 2 = nI (i + 2) from nI_add i 2]; exact vp_in_nI (by omega) (by omega)
  obtain ⟨A2, r2, e2⟩ : ∃ A : Int, r32 A ∧ xs (nI i + 2).toNatClampNeg = zi A := ⟨_, zi_rng _, (zi_of _).symm⟩
  refine lv_aload_n hx hb dL_407 rfl (lv_at hl 1 rfl) ?_
  refine lv_aload_n hx hb dL_408 rfl (lv_at hl 0 rfl) ?_
  refine lv_iload_n hx hb dL_409 rfl (lv_at hl 3 rfl) ?_
  refine lv_iconst (v := 1) hx hb dL_410 (by decide) ?_
  refine lv_iadd hx hb dL_411 ?_
  refine va_sld hx hb hX hbl hbA hS hin1 dL_412 ?_
  rw [e1]
  refine lv_aload_n hx hb dL_413 rfl (lv_at hl 0 rfl) ?_
  refine lv_iload_n hx hb dL_414 rfl (lv_at hl 3 rfl) ?_
  refine lv_iconst (v := 2) hx hb dL_415 (by decide) ?_
  refine lv_iadd hx hb dL_416 ?_
  refine va_sld hx hb hX hbl hbA hS hin2 dL_417 ?_
  rw [e2]
  refine law_call C0 hK hN hA hP hD hS hl.1 hc (mm := 73) (bb := 0) (index := 48) (k1 := 374) (k2 := 375) (k3 := 376) [.int (zi A1), .int (zi A2)] [] ⟨by decide +kernel, by decide +kernel, by decide +kernel, by decide, by decide, rfl, rfl⟩ (Nat.le_of_ble_eq_true rfl) (Nat.le_of_ble_eq_true rfl) dL_418 (j_may hJ r1 r2) (fun v t1 H1 locs1 hZ hP hD hS => ?_)
  refine lv_aload_n hx hb dL_421 rfl (lv_at hl 2 rfl) ?_
  refine lv_aload_n hx hb dL_422 rfl (lv_at hl 0 rfl) ?_
  refine lv_iload_n hx hb dL_423 rfl (lv_at hl 3 rfl) ?_
  refine lv_iconst (v := 1) hx hb dL_424 (by decide) ?_
  refine lv_iadd hx hb dL_425 ?_
  refine va_sld hx hb hX hbl hbA hS hin1 dL_426 ?_
  rw [e1]
  refine lv_aload_n hx hb dL_427 rfl (lv_at hl 0 rfl) ?_
  refine lv_iload_n hx hb dL_428 rfl (lv_at hl 3 rfl) ?_
  refine lv_iconst (v := 2) hx hb dL_429 (by decide) ?_
  refine lv_iadd hx hb dL_430 ?_
  refine va_sld hx hb hX hbl hbA hS hin2 dL_431 ?_
  rw [e2]
  refine law_call C0 hK hN hA hP hD hS hl.1 hc (mm := 139) (bb := 50) (index := 51) (k1 := 837) (k2 := 838) (k3 := 839) [.int (zi A1), .int (zi A2)] [.int (zi v)] ⟨by decide +kernel, by decide +kernel, by decide +kernel, by decide, by decide, rfl, rfl⟩ (Nat.le_of_ble_eq_true rfl) (Nat.le_of_ble_eq_true rfl) dL_432 hZ (fun w t2 H2 locs2 hw hP hD hS => ?_)
  obtain ⟨rfl, hJ2⟩ := hw
  exact lv_icmp_eq (tgt := 1013) hx hb dL_435 (by decide) (fun _ => next t2 H2 locs2 hJ2 hP hD hS) (fun h => absurd rfl h)
theorem law_c8 (hL : L ≤ 3072) (C0 : lw_At p s m meth c b L xs) (hK : va_K D vwCl (zTy cA cS) s) (hN : zNs s) {i : Nat} (hi : i + 6 ≤ L) {t : zMI} (hJ : JJ t) (hP : va_P D vwCl (zW ad cA cS (zlf t)) H) (hD : va_D (fun q : Nat => s.heap.size ≤ q) (zW ad cA cS (zlf t))) (hS : va_S (fun q : Nat => s.heap.size ≤ q) s.heap H locs) {ls : Array Slot} (hl : lv_has ls 4 [(0, .ref b), (1, .ref (ad 0)), (2, .ref (ad 50)), (3, .int (nI i))]) (hc : cells ≤ 600000 ∧ slots ≤ 7302250)
    (next : ∀ (t2 : zMI) (H2 : Heap) (locs2 : List Loc), JJ t2 → va_P D vwCl (zW ad cA cS (zlf t2)) H2 → va_D (fun q : Nat => s.heap.size ≤ q) (zW ad cA cS (zlf t2)) → va_S (fun q : Nat => s.heap.size ≤ q) s.heap H2 locs2 → W p l e room_1 s m #[Value.ref b] below meth c H2 locs2 cells slots Q (F0 m 1013 ls [])) : W p l e room_1 s m #[Value.ref b] below meth c H locs cells slots Q (F0 m 440 ls []) := by
  obtain ⟨hx, hb, hr, hml, hown, hts, hX, hbl, hlocks, hgv⟩ := id C0
  have hA : ∀ q : Nat, s.heap.size ≤ q → (fun q : Nat => s.heap.size ≤ q) q := fun _ h => h
  have hbA : ¬ (fun q : Nat => s.heap.size ≤ q) b := Nat.not_le.mpr hbl
  have hin1 : vp_in (nI i + 1) L := by rw [show nI i + 1 = nI (i + 1) from nI_add i 1]; exact vp_in_nI (by omega) (by omega)
  obtain ⟨A1, r1, e1⟩ : ∃ A : Int, r32 A ∧ xs (nI i + 1).toNatClampNeg = zi A := ⟨_, zi_rng _, (zi_of _).symm⟩
  have hin2 : vp_in (nI i + 2) L := by rw [show nI i + 2 = nI (i + 2) from nI_add i 2]; exact vp_in_nI (by omega) (by omega)
  obtain ⟨A2, r2, e2⟩ : ∃ A : Int, r32 A ∧ xs (nI i + 2).toNatClampNeg = zi A := ⟨_, zi_rng _, (zi_of _).symm⟩
  refine lv_aload_n hx hb dL_440 rfl (lv_at hl 1 rfl) ?_
  refine lv_aload_n hx hb dL_441 rfl (lv_at hl 0 rfl) ?_
  refine lv_iload_n hx hb dL_442 rfl (lv_at hl 3 rfl) ?_
  refine lv_iconst (v := 1) hx hb dL_443 (by decide) ?_
  refine lv_iadd hx hb dL_444 ?_
  refine va_sld hx hb hX hbl hbA hS hin1 dL_445 ?_
  rw [e1]
  refine lv_aload_n hx hb dL_446 rfl (lv_at hl 0 rfl) ?_
  refine lv_iload_n hx hb dL_447 rfl (lv_at hl 3 rfl) ?_
  refine lv_iconst (v := 2) hx hb dL_448 (by decide) ?_
  refine lv_iadd hx hb dL_449 ?_
  refine va_sld hx hb hX hbl hbA hS hin2 dL_450 ?_
  rw [e2]
  refine law_call C0 hK hN hA hP hD hS hl.1 hc (mm := 74) (bb := 0) (index := 52) (k1 := 393) (k2 := 394) (k3 := 395) [.int (zi A1), .int (zi A2)] [] ⟨by decide +kernel, by decide +kernel, by decide +kernel, by decide, by decide, rfl, rfl⟩ (Nat.le_of_ble_eq_true rfl) (Nat.le_of_ble_eq_true rfl) dL_451 (j_lay hJ r1 r2) (fun v t1 H1 locs1 hZ hP hD hS => ?_)
  refine lv_aload_n hx hb dL_454 rfl (lv_at hl 2 rfl) ?_
  refine lv_aload_n hx hb dL_455 rfl (lv_at hl 0 rfl) ?_
  refine lv_iload_n hx hb dL_456 rfl (lv_at hl 3 rfl) ?_
  refine lv_iconst (v := 1) hx hb dL_457 (by decide) ?_
  refine lv_iadd hx hb dL_458 ?_
  refine va_sld hx hb hX hbl hbA hS hin1 dL_459 ?_
  rw [e1]
  refine lv_aload_n hx hb dL_460 rfl (lv_at hl 0 rfl) ?_
  refine lv_iload_n hx hb dL_461 rfl (lv_at hl 3 rfl) ?_
  refine lv_iconst (v := 2) hx hb dL_462 (by decide) ?_
  refine lv_iadd hx hb dL_463 ?_
  refine va_sld hx hb hX hbl hbA hS hin2 dL_464 ?_
  rw [e2]
  refine law_call C0 hK hN hA hP hD hS hl.1 hc (mm := 142) (bb := 50) (index := 55) (k1 := 848) (k2 := 849) (k3 := 850) [.int (zi A1), .int (zi A2)] [.int (zi v)] ⟨by decide +kernel, by decide +kernel, by decide +kernel, by decide, by decide, rfl, rfl⟩ (Nat.le_of_ble_eq_true rfl) (Nat.le_of_ble_eq_true rfl) dL_465 hZ (fun w t2 H2 locs2 hw hP hD hS => ?_)
  obtain ⟨rfl, hJ2⟩ := hw
  exact lv_icmp_eq (tgt := 1013) hx hb dL_468 (by decide) (fun _ => next t2 H2 locs2 hJ2 hP hD hS) (fun h => absurd rfl h)
theorem law_c9 (hL : L ≤ 3072) (C0 : lw_At p s m meth c b L xs) (hK : va_K D vwCl (zTy cA cS) s) (hN : zNs s) {i : Nat} (hi : i + 6 ≤ L) {t : zMI} (hJ : JJ t) (hP : va_P D vwCl (zW ad cA cS (zlf t)) H) (hD : va_D (fun q : Nat => s.heap.size ≤ q) (zW ad cA cS (zlf t))) (hS : va_S (fun q : Nat => s.heap.size ≤ q) s.heap H locs) {ls : Array Slot} (hl : lv_has ls 4 [(0, .ref b), (1, .ref (ad 0)), (2, .ref (ad 50)), (3, .int (nI i))]) (hc : cells ≤ 600000 ∧ slots ≤ 7302250)
    (next : ∀ (t2 : zMI) (H2 : Heap) (locs2 : List Loc), JJ t2 → va_P D vwCl (zW ad cA cS (zlf t2)) H2 → va_D (fun q : Nat => s.heap.size ≤ q) (zW ad cA cS (zlf t2)) → va_S (fun q : Nat => s.heap.size ≤ q) s.heap H2 locs2 → W p l e room_1 s m #[Value.ref b] below meth c H2 locs2 cells slots Q (F0 m 1013 ls [])) : W p l e room_1 s m #[Value.ref b] below meth c H locs cells slots Q (F0 m 473 ls []) := by
  obtain ⟨hx, hb, hr, hml, hown, hts, hX, hbl, hlocks, hgv⟩ := id C0
  have hA : ∀ q : Nat, s.heap.size ≤ q → (fun q : Nat => s.heap.size ≤ q) q := fun _ h => h
  have hbA : ¬ (fun q : Nat => s.heap.size ≤ q) b := Nat.not_le.mpr hbl
  have hin1 : vp_in (nI i + 1) L := by rw [show nI i + 1 = nI (i + 1) from nI_add i 1]; exact vp_in_nI (by omega) (by omega)
  obtain ⟨A1, r1, e1⟩ : ∃ A : Int, r32 A ∧ xs (nI i + 1).toNatClampNeg = zi A := ⟨_, zi_rng _, (zi_of _).symm⟩
  refine lv_aload_n hx hb dL_473 rfl (lv_at hl 1 rfl) ?_
  refine lv_aload_n hx hb dL_474 rfl (lv_at hl 0 rfl) ?_
  refine lv_iload_n hx hb dL_475 rfl (lv_at hl 3 rfl) ?_
  refine lv_iconst (v := 1) hx hb dL_476 (by decide) ?_
  refine lv_iadd hx hb dL_477 ?_
  refine va_sld hx hb hX hbl hbA hS hin1 dL_478 ?_
  rw [e1]
  refine law_call C0 hK hN hA hP hD hS hl.1 hc (mm := 75) (bb := 0) (index := 56) (k1 := 451) (k2 := 452) (k3 := 453) [.int (zi A1)] [] ⟨by decide +kernel, by decide +kernel, by decide +kernel, by decide, by decide, rfl, rfl⟩ (Nat.le_of_ble_eq_true rfl) (Nat.le_of_ble_eq_true rfl) dL_479 (j_take hJ r1) (fun v t1 H1 locs1 hZ hP hD hS => ?_)
  refine lv_aload_n hx hb dL_482 rfl (lv_at hl 2 rfl) ?_
  refine lv_aload_n hx hb dL_483 rfl (lv_at hl 0 rfl) ?_
  refine lv_iload_n hx hb dL_484 rfl (lv_at hl 3 rfl) ?_
  refine lv_iconst (v := 1) hx hb dL_485 (by decide) ?_
  refine lv_iadd hx hb dL_486 ?_
  refine va_sld hx hb hX hbl hbA hS hin1 dL_487 ?_
  rw [e1]
  refine law_call C0 hK hN hA hP hD hS hl.1 hc (mm := 143) (bb := 50) (index := 59) (k1 := 891) (k2 := 892) (k3 := 893) [.int (zi A1)] [.int (zi v)] ⟨by decide +kernel, by decide +kernel, by decide +kernel, by decide, by decide, rfl, rfl⟩ (Nat.le_of_ble_eq_true rfl) (Nat.le_of_ble_eq_true rfl) dL_488 hZ (fun w t2 H2 locs2 hw hP hD hS => ?_)
  obtain ⟨rfl, hJ2⟩ := hw
  exact lv_icmp_eq (tgt := 1013) hx hb dL_491 (by decide) (fun _ => next t2 H2 locs2 hJ2 hP hD hS) (fun h => absurd rfl h)
theorem law_c10 (hL : L ≤ 3072) (C0 : lw_At p s m meth c b L xs) (hK : va_K D vwCl (zTy cA cS) s) (hN : zNs s) {i : Nat} (hi : i + 6 ≤ L) {t : zMI} (hJ : JJ t) (hP : va_P D vwCl (zW ad cA cS (zlf t)) H) (hD : va_D (fun q : Nat => s.heap.size ≤ q) (zW ad cA cS (zlf t))) (hS : va_S (fun q : Nat => s.heap.size ≤ q) s.heap H locs) {ls : Array Slot} (hl : lv_has ls 4 [(0, .ref b), (1, .ref (ad 0)), (2, .ref (ad 50)), (3, .int (nI i))]) (hc : cells ≤ 600000 ∧ slots ≤ 7302250)
    (next : ∀ (t2 : zMI) (H2 : Heap) (locs2 : List Loc), JJ t2 → va_P D vwCl (zW ad cA cS (zlf t2)) H2 → va_D (fun q : Nat => s.heap.size ≤ q) (zW ad cA cS (zlf t2)) → va_S (fun q : Nat => s.heap.size ≤ q) s.heap H2 locs2 → W p l e room_1 s m #[Value.ref b] below meth c H2 locs2 cells slots Q (F0 m 1013 ls [])) : W p l e room_1 s m #[Value.ref b] below meth c H locs cells slots Q (F0 m 496 ls []) := by
  obtain ⟨hx, hb, hr, hml, hown, hts, hX, hbl, hlocks, hgv⟩ := id C0
  have hA : ∀ q : Nat, s.heap.size ≤ q → (fun q : Nat => s.heap.size ≤ q) q := fun _ h => h
  have hbA : ¬ (fun q : Nat => s.heap.size ≤ q) b := Nat.not_le.mpr hbl
  have hin1 : vp_in (nI i + 1) L := by rw [show nI i + 1 = nI (i + 1) from nI_add i 1]; exact vp_in_nI (by omega) (by omega)
  obtain ⟨A1, r1, e1⟩ : ∃ A : Int, r32 A ∧ xs (nI i + 1).toNatClampNeg = zi A := ⟨_, zi_rng _, (zi_of _).symm⟩
  refine lv_aload_n hx hb dL_496 rfl (lv_at hl 1 rfl) ?_
  refine lv_aload_n hx hb dL_497 rfl (lv_at hl 0 rfl) ?_
  refine lv_iload_n hx hb dL_498 rfl (lv_at hl 3 rfl) ?_
  refine lv_iconst (v := 1) hx hb dL_499 (by decide) ?_
  refine lv_iadd hx hb dL_500 ?_
  refine va_sld hx hb hX hbl hbA hS hin1 dL_501 ?_
  rw [e1]
  refine lv_if_eq (tgt := 509) hx hb dL_502 (by decide) (fun c1 => ?_) (fun c1 => ?_)
  · skip
    refine lv_iconst (v := 0) hx hb dL_509 (by decide) ?_
    refine law_call C0 hK hN hA hP hD hS hl.1 hc (mm := 76) (bb := 0) (index := 60) (k1 := 459) (k2 := 460) (k3 := 461) [.int (zi 0)] [] ⟨by decide +kernel, by decide +kernel, by decide +kernel, by decide, by decide, rfl, rfl⟩ (Nat.le_of_ble_eq_true rfl) (Nat.le_of_ble_eq_true rfl) dL_510 (j_shut hJ (by omega)) (fun v t1 H1 locs1 hZ hP hD hS => ?_)
    refine lv_aload_n hx hb dL_513 rfl (lv_at hl 2 rfl) ?_
    refine lv_aload_n hx hb dL_514 rfl (lv_at hl 0 rfl) ?_
    refine lv_iload_n hx hb dL_515 rfl (lv_at hl 3 rfl) ?_
    refine lv_iconst (v := 1) hx hb dL_516 (by decide) ?_
    refine lv_iadd hx hb dL_517 ?_
    refine va_sld hx hb hX hbl hbA hS hin1 dL_518 ?_
    rw [e1]
    refine lv_if_eq (tgt := 526) hx hb dL_519 (by decide) (fun _ => ?_) (fun c2 => absurd c1 c2)
    refine lv_iconst (v := 0) hx hb dL_526 (by decide) ?_
    refine law_call C0 hK hN hA hP hD hS hl.1 hc (mm := 144) (bb := 50) (index := 64) (k1 := 896) (k2 := 897) (k3 := 898) [.int (zi 0)] [.int (zi v)] ⟨by decide +kernel, by decide +kernel, by decide +kernel, by decide, by decide, rfl, rfl⟩ (Nat.le_of_ble_eq_true rfl) (Nat.le_of_ble_eq_true rfl) dL_527 hZ (fun w t2 H2 locs2 hw hP hD hS => ?_)
    obtain ⟨rfl, hJ2⟩ := hw
    exact lv_icmp_eq (tgt := 1013) hx hb dL_530 (by decide) (fun _ => next t2 H2 locs2 hJ2 hP hD hS) (fun h => absurd rfl h)
  · skip
    refine lv_iconst (v := 1) hx hb dL_505 (by decide) ?_
    refine lv_goto (tgt := 510) hx hb dL_506 (by decide) ?_
    refine law_call C0 hK hN hA hP hD hS hl.1 hc (mm := 76) (bb := 0) (index := 60) (k1 := 459) (k2 := 460) (k3 := 461) [.int (zi 1)] [] ⟨by decide +kernel, by decide +kernel, by decide +kernel, by decide, by decide, rfl, rfl⟩ (Nat.le_of_ble_eq_true rfl) (Nat.le_of_ble_eq_true rfl) dL_510 (j_shut hJ (by omega)) (fun v t1 H1 locs1 hZ hP hD hS => ?_)
    refine lv_aload_n hx hb dL_513 rfl (lv_at hl 2 rfl) ?_
    refine lv_aload_n hx hb dL_514 rfl (lv_at hl 0 rfl) ?_
    refine lv_iload_n hx hb dL_515 rfl (lv_at hl 3 rfl) ?_
    refine lv_iconst (v := 1) hx hb dL_516 (by decide) ?_
    refine lv_iadd hx hb dL_517 ?_
    refine va_sld hx hb hX hbl hbA hS hin1 dL_518 ?_
    rw [e1]
    refine lv_if_eq (tgt := 526) hx hb dL_519 (by decide) (fun c2 => absurd c2 c1) (fun _ => ?_)
    refine lv_iconst (v := 1) hx hb dL_522 (by decide) ?_
    refine lv_goto (tgt := 527) hx hb dL_523 (by decide) ?_
    refine law_call C0 hK hN hA hP hD hS hl.1 hc (mm := 144) (bb := 50) (index := 64) (k1 := 896) (k2 := 897) (k3 := 898) [.int (zi 1)] [.int (zi v)] ⟨by decide +kernel, by decide +kernel, by decide +kernel, by decide, by decide, rfl, rfl⟩ (Nat.le_of_ble_eq_true rfl) (Nat.le_of_ble_eq_true rfl) dL_527 hZ (fun w t2 H2 locs2 hw hP hD hS => ?_)
    obtain ⟨rfl, hJ2⟩ := hw
    exact lv_icmp_eq (tgt := 1013) hx hb dL_530 (by decide) (fun _ => next t2 H2 locs2 hJ2 hP hD hS) (fun h => absurd rfl h)
theorem law_c11 (hL : L ≤ 3072) (C0 : lw_At p s m meth c b L xs) (hK : va_K D vwCl (zTy cA cS) s) (hN : zNs s) {i : Nat} (hi : i + 6 ≤ L) {t : zMI} (hJ : JJ t) (hP : va_P D vwCl (zW ad cA cS (zlf t)) H) (hD : va_D (fun q : Nat => s.heap.size ≤ q) (zW ad cA cS (zlf t))) (hS : va_S (fun q : Nat => s.heap.size ≤ q) s.heap H locs) {ls : Array Slot} (hl : lv_has ls 4 [(0, .ref b), (1, .ref (ad 0)), (2, .ref (ad 50)), (3, .int (nI i))]) (hc : cells ≤ 600000 ∧ slots ≤ 7302250)
    (next : ∀ (t2 : zMI) (H2 : Heap) (locs2 : List Loc), JJ t2 → va_P D vwCl (zW ad cA cS (zlf t2)) H2 → va_D (fun q : Nat => s.heap.size ≤ q) (zW ad cA cS (zlf t2)) → va_S (fun q : Nat => s.heap.size ≤ q) s.heap H2 locs2 → W p l e room_1 s m #[Value.ref b] below meth c H2 locs2 cells slots Q (F0 m 1013 ls [])) : W p l e room_1 s m #[Value.ref b] below meth c H locs cells slots Q (F0 m 535 ls []) := by
  obtain ⟨hx, hb, hr, hml, hown, hts, hX, hbl, hlocks, hgv⟩ := id C0
  have hA : ∀ q : Nat, s.heap.size ≤ q → (fun q : Nat => s.heap.size ≤ q) q := fun _ h => h
  have hbA : ¬ (fun q : Nat => s.heap.size ≤ q) b := Nat.not_le.mpr hbl
  refine lv_aload_n hx hb dL_535 rfl (lv_at hl 1 rfl) ?_
  refine law_call C0 hK hN hA hP hD hS hl.1 hc (mm := 77) (bb := 0) (index := 65) (k1 := 471) (k2 := 472) (k3 := 473) [] [] ⟨by decide +kernel, by decide +kernel, by decide +kernel, by decide, by decide, rfl, rfl⟩ (Nat.le_of_ble_eq_true rfl) (Nat.le_of_ble_eq_true rfl) dL_536 (j_locked hJ) (fun v t1 H1 locs1 hZ hP hD hS => ?_)
  refine lv_aload_n hx hb dL_539 rfl (lv_at hl 2 rfl) ?_
  refine law_call C0 hK hN hA hP hD hS hl.1 hc (mm := 145) (bb := 50) (index := 68) (k1 := 900) (k2 := 901) (k3 := 902) [] [.int (zi v)] ⟨by decide +kernel, by decide +kernel, by decide +kernel, by decide, by decide, rfl, rfl⟩ (Nat.le_of_ble_eq_true rfl) (Nat.le_of_ble_eq_true rfl) dL_540 hZ (fun w t2 H2 locs2 hw hP hD hS => ?_)
  obtain ⟨rfl, hJ2⟩ := hw
  exact lv_icmp_eq (tgt := 1013) hx hb dL_543 (by decide) (fun _ => next t2 H2 locs2 hJ2 hP hD hS) (fun h => absurd rfl h)
theorem law_c12 (hL : L ≤ 3072) (C0 : lw_At p s m meth c b L xs) (hK : va_K D vwCl (zTy cA cS) s) (hN : zNs s) {i : Nat} (hi : i + 6 ≤ L) {t : zMI} (hJ : JJ t) (hP : va_P D vwCl (zW ad cA cS (zlf t)) H) (hD : va_D (fun q : Nat => s.heap.size ≤ q) (zW ad cA cS (zlf t))) (hS : va_S (fun q : Nat => s.heap.size ≤ q) s.heap H locs) {ls : Array Slot} (hl : lv_has ls 4 [(0, .ref b), (1, .ref (ad 0)), (2, .ref (ad 50)), (3, .int (nI i))]) (hc : cells ≤ 600000 ∧ slots ≤ 7302250)
    (next : ∀ (t2 : zMI) (H2 : Heap) (locs2 : List Loc), JJ t2 → va_P D vwCl (zW ad cA cS (zlf t2)) H2 → va_D (fun q : Nat => s.heap.size ≤ q) (zW ad cA cS (zlf t2)) → va_S (fun q : Nat => s.heap.size ≤ q) s.heap H2 locs2 → W p l e room_1 s m #[Value.ref b] below meth c H2 locs2 cells slots Q (F0 m 1013 ls [])) : W p l e room_1 s m #[Value.ref b] below meth c H locs cells slots Q (F0 m 548 ls []) := by
  obtain ⟨hx, hb, hr, hml, hown, hts, hX, hbl, hlocks, hgv⟩ := id C0
  have hA : ∀ q : Nat, s.heap.size ≤ q → (fun q : Nat => s.heap.size ≤ q) q := fun _ h => h
  have hbA : ¬ (fun q : Nat => s.heap.size ≤ q) b := Nat.not_le.mpr hbl
  have hin1 : vp_in (nI i + 1) L := by rw [show nI i + 1 = nI (i + 1) from nI_add i 1]; exact vp_in_nI (by omega) (by omega)
  obtain ⟨A1, r1, e1⟩ : ∃ A : Int, r32 A ∧ xs (nI i + 1).toNatClampNeg = zi A := ⟨_, zi_rng _, (zi_of _).symm⟩
  refine lv_aload_n hx hb dL_548 rfl (lv_at hl 1 rfl) ?_
  refine lv_aload_n hx hb dL_549 rfl (lv_at hl 0 rfl) ?_
  refine lv_iload_n hx hb dL_550 rfl (lv_at hl 3 rfl) ?_
  refine lv_iconst (v := 1) hx hb dL_551 (by decide) ?_
  refine lv_iadd hx hb dL_552 ?_
  refine va_sld hx hb hX hbl hbA hS hin1 dL_553 ?_
  rw [e1]
  refine law_call C0 hK hN hA hP hD hS hl.1 hc (mm := 78) (bb := 0) (index := 69) (k1 := 477) (k2 := 478) (k3 := 479) [.int (zi A1)] [] ⟨by decide +kernel, by decide +kernel, by decide +kernel, by decide, by decide, rfl, rfl⟩ (Nat.le_of_ble_eq_true rfl) (Nat.le_of_ble_eq_true rfl) dL_554 (j_crank hJ r1) (fun v t1 H1 locs1 hZ hP hD hS => ?_)
  refine lv_aload_n hx hb dL_557 rfl (lv_at hl 2 rfl) ?_
  refine lv_aload_n hx hb dL_558 rfl (lv_at hl 0 rfl) ?_
  refine lv_iload_n hx hb dL_559 rfl (lv_at hl 3 rfl) ?_
  refine lv_iconst (v := 1) hx hb dL_560 (by decide) ?_
  refine lv_iadd hx hb dL_561 ?_
  refine va_sld hx hb hX hbl hbA hS hin1 dL_562 ?_
  rw [e1]
  refine law_call C0 hK hN hA hP hD hS hl.1 hc (mm := 146) (bb := 50) (index := 72) (k1 := 904) (k2 := 905) (k3 := 906) [.int (zi A1)] [.int (zi v)] ⟨by decide +kernel, by decide +kernel, by decide +kernel, by decide, by decide, rfl, rfl⟩ (Nat.le_of_ble_eq_true rfl) (Nat.le_of_ble_eq_true rfl) dL_563 hZ (fun w t2 H2 locs2 hw hP hD hS => ?_)
  obtain ⟨rfl, hJ2⟩ := hw
  exact lv_icmp_eq (tgt := 1013) hx hb dL_566 (by decide) (fun _ => next t2 H2 locs2 hJ2 hP hD hS) (fun h => absurd rfl h)
theorem law_c13 (hL : L ≤ 3072) (C0 : lw_At p s m meth c b L xs) (hK : va_K D vwCl (zTy cA cS) s) (hN : zNs s) {i : Nat} (hi : i + 6 ≤ L) {t : zMI} (hJ : JJ t) (hP : va_P D vwCl (zW ad cA cS (zlf t)) H) (hD : va_D (fun q : Nat => s.heap.size ≤ q) (zW ad cA cS (zlf t))) (hS : va_S (fun q : Nat => s.heap.size ≤ q) s.heap H locs) {ls : Array Slot} (hl : lv_has ls 4 [(0, .ref b), (1, .ref (ad 0)), (2, .ref (ad 50)), (3, .int (nI i))]) (hc : cells ≤ 600000 ∧ slots ≤ 7302250)
    (next : ∀ (t2 : zMI) (H2 : Heap) (locs2 : List Loc), JJ t2 → va_P D vwCl (zW ad cA cS (zlf t2)) H2 → va_D (fun q : Nat => s.heap.size ≤ q) (zW ad cA cS (zlf t2)) → va_S (fun q : Nat => s.heap.size ≤ q) s.heap H2 locs2 → W p l e room_1 s m #[Value.ref b] below meth c H2 locs2 cells slots Q (F0 m 1013 ls [])) : W p l e room_1 s m #[Value.ref b] below meth c H locs cells slots Q (F0 m 571 ls []) := by
  obtain ⟨hx, hb, hr, hml, hown, hts, hX, hbl, hlocks, hgv⟩ := id C0
  have hA : ∀ q : Nat, s.heap.size ≤ q → (fun q : Nat => s.heap.size ≤ q) q := fun _ h => h
  have hbA : ¬ (fun q : Nat => s.heap.size ≤ q) b := Nat.not_le.mpr hbl
  refine lv_aload_n hx hb dL_571 rfl (lv_at hl 1 rfl) ?_
  refine law_call C0 hK hN hA hP hD hS hl.1 hc (mm := 79) (bb := 0) (index := 73) (k1 := 482) (k2 := 483) (k3 := 484) [] [] ⟨by decide +kernel, by decide +kernel, by decide +kernel, by decide, by decide, rfl, rfl⟩ (Nat.le_of_ble_eq_true rfl) (Nat.le_of_ble_eq_true rfl) dL_572 (j_around hJ) (fun v t1 H1 locs1 hZ hP hD hS => ?_)
  refine lv_aload_n hx hb dL_575 rfl (lv_at hl 2 rfl) ?_
  refine law_call C0 hK hN hA hP hD hS hl.1 hc (mm := 150) (bb := 50) (index := 76) (k1 := 910) (k2 := 911) (k3 := 912) [] [.int (zi v)] ⟨by decide +kernel, by decide +kernel, by decide +kernel, by decide, by decide, rfl, rfl⟩ (Nat.le_of_ble_eq_true rfl) (Nat.le_of_ble_eq_true rfl) dL_576 hZ (fun w t2 H2 locs2 hw hP hD hS => ?_)
  obtain ⟨rfl, hJ2⟩ := hw
  exact lv_icmp_eq (tgt := 1013) hx hb dL_579 (by decide) (fun _ => next t2 H2 locs2 hJ2 hP hD hS) (fun h => absurd rfl h)
theorem law_c14 (hL : L ≤ 3072) (C0 : lw_At p s m meth c b L xs) (hK : va_K D vwCl (zTy cA cS) s) (hN : zNs s) {i : Nat} (hi : i + 6 ≤ L) {t : zMI} (hJ : JJ t) (hP : va_P D vwCl (zW ad cA cS (zlf t)) H) (hD : va_D (fun q : Nat => s.heap.size ≤ q) (zW ad cA cS (zlf t))) (hS : va_S (fun q : Nat => s.heap.size ≤ q) s.heap H locs) {ls : Array Slot} (hl : lv_has ls 4 [(0, .ref b), (1, .ref (ad 0)), (2, .ref (ad 50)), (3, .int (nI i))]) (hc : cells ≤ 600000 ∧ slots ≤ 7302250)
    (next : ∀ (t2 : zMI) (H2 : Heap) (locs2 : List Loc), JJ t2 → va_P D vwCl (zW ad cA cS (zlf t2)) H2 → va_D (fun q : Nat => s.heap.size ≤ q) (zW ad cA cS (zlf t2)) → va_S (fun q : Nat => s.heap.size ≤ q) s.heap H2 locs2 → W p l e room_1 s m #[Value.ref b] below meth c H2 locs2 cells slots Q (F0 m 1013 ls [])) : W p l e room_1 s m #[Value.ref b] below meth c H locs cells slots Q (F0 m 584 ls []) := by
  obtain ⟨hx, hb, hr, hml, hown, hts, hX, hbl, hlocks, hgv⟩ := id C0
  have hA : ∀ q : Nat, s.heap.size ≤ q → (fun q : Nat => s.heap.size ≤ q) q := fun _ h => h
  have hbA : ¬ (fun q : Nat => s.heap.size ≤ q) b := Nat.not_le.mpr hbl
  refine lv_aload_n hx hb dL_584 rfl (lv_at hl 1 rfl) ?_
  refine law_call C0 hK hN hA hP hD hS hl.1 hc (mm := 80) (bb := 0) (index := 77) (k1 := 497) (k2 := 498) (k3 := 499) [] [] ⟨by decide +kernel, by decide +kernel, by decide +kernel, by decide, by decide, rfl, rfl⟩ (Nat.le_of_ble_eq_true rfl) (Nat.le_of_ble_eq_true rfl) dL_585 (j_up hJ) (fun v t1 H1 locs1 hZ hP hD hS => ?_)
  refine lv_aload_n hx hb dL_588 rfl (lv_at hl 2 rfl) ?_
  refine law_call C0 hK hN hA hP hD hS hl.1 hc (mm := 153) (bb := 50) (index := 80) (k1 := 925) (k2 := 926) (k3 := 927) [] [.int (zi v)] ⟨by decide +kernel, by decide +kernel, by decide +kernel, by decide, by decide, rfl, rfl⟩ (Nat.le_of_ble_eq_true rfl) (Nat.le_of_ble_eq_true rfl) dL_589 hZ (fun w t2 H2 locs2 hw hP hD hS => ?_)
  obtain ⟨rfl, hJ2⟩ := hw
  exact lv_icmp_eq (tgt := 1013) hx hb dL_592 (by decide) (fun _ => next t2 H2 locs2 hJ2 hP hD hS) (fun h => absurd rfl h)
theorem law_c15 (hL : L ≤ 3072) (C0 : lw_At p s m meth c b L xs) (hK : va_K D vwCl (zTy cA cS) s) (hN : zNs s) {i : Nat} (hi : i + 6 ≤ L) {t : zMI} (hJ : JJ t) (hP : va_P D vwCl (zW ad cA cS (zlf t)) H) (hD : va_D (fun q : Nat => s.heap.size ≤ q) (zW ad cA cS (zlf t))) (hS : va_S (fun q : Nat => s.heap.size ≤ q) s.heap H locs) {ls : Array Slot} (hl : lv_has ls 4 [(0, .ref b), (1, .ref (ad 0)), (2, .ref (ad 50)), (3, .int (nI i))]) (hc : cells ≤ 600000 ∧ slots ≤ 7302250)
    (next : ∀ (t2 : zMI) (H2 : Heap) (locs2 : List Loc), JJ t2 → va_P D vwCl (zW ad cA cS (zlf t2)) H2 → va_D (fun q : Nat => s.heap.size ≤ q) (zW ad cA cS (zlf t2)) → va_S (fun q : Nat => s.heap.size ≤ q) s.heap H2 locs2 → W p l e room_1 s m #[Value.ref b] below meth c H2 locs2 cells slots Q (F0 m 1013 ls [])) : W p l e room_1 s m #[Value.ref b] below meth c H locs cells slots Q (F0 m 597 ls []) := by
  obtain ⟨hx, hb, hr, hml, hown, hts, hX, hbl, hlocks, hgv⟩ := id C0
  have hA : ∀ q : Nat, s.heap.size ≤ q → (fun q : Nat => s.heap.size ≤ q) q := fun _ h => h
  have hbA : ¬ (fun q : Nat => s.heap.size ≤ q) b := Nat.not_le.mpr hbl
  have hin1 : vp_in (nI i + 1) L := by rw [show nI i + 1 = nI (i + 1) from nI_add i 1]; exact vp_in_nI (by omega) (by omega)
  obtain ⟨A1, r1, e1⟩ : ∃ A : Int, r32 A ∧ xs (nI i + 1).toNatClampNeg = zi A := ⟨_, zi_rng _, (zi_of _).symm⟩
  have hin2 : vp_in (nI i + 2) L := by rw [show nI i + 2 = nI (i + 2) from nI_add i 2]; exact vp_in_nI (by omega) (by omega)
  obtain ⟨A2, r2, e2⟩ : ∃ A : Int, r32 A ∧ xs (nI i + 2).toNatClampNeg = zi A := ⟨_, zi_rng _, (zi_of _).symm⟩
  refine lv_aload_n hx hb dL_597 rfl (lv_at hl 1 rfl) ?_
  refine lv_aload_n hx hb dL_598 rfl (lv_at hl 0 rfl) ?_
  refine lv_iload_n hx hb dL_599 rfl (lv_at hl 3 rfl) ?_
  refine lv_iconst (v := 1) hx hb dL_600 (by decide) ?_
  refine lv_iadd hx hb dL_601 ?_
  refine va_sld hx hb hX hbl hbA hS hin1 dL_602 ?_
  rw [e1]
  refine lv_aload_n hx hb dL_603 rfl (lv_at hl 0 rfl) ?_
  refine lv_iload_n hx hb dL_604 rfl (lv_at hl 3 rfl) ?_
  refine lv_iconst (v := 2) hx hb dL_605 (by decide) ?_
  refine lv_iadd hx hb dL_606 ?_
  refine va_sld hx hb hX hbl hbA hS hin2 dL_607 ?_
  rw [e2]
  refine law_call C0 hK hN hA hP hD hS hl.1 hc (mm := 81) (bb := 0) (index := 81) (k1 := 509) (k2 := 510) (k3 := 511) [.int (zi A1), .int (zi A2)] [] ⟨by decide +kernel, by decide +kernel, by decide +kernel, by decide, by decide, rfl, rfl⟩ (Nat.le_of_ble_eq_true rfl) (Nat.le_of_ble_eq_true rfl) dL_608 (j_best hJ r1 r2) (fun v t1 H1 locs1 hZ hP hD hS => ?_)
  refine lv_aload_n hx hb dL_611 rfl (lv_at hl 2 rfl) ?_
  refine lv_aload_n hx hb dL_612 rfl (lv_at hl 0 rfl) ?_
  refine lv_iload_n hx hb dL_613 rfl (lv_at hl 3 rfl) ?_
  refine lv_iconst (v := 1) hx hb dL_614 (by decide) ?_
  refine lv_iadd hx hb dL_615 ?_
  refine va_sld hx hb hX hbl hbA hS hin1 dL_616 ?_
  rw [e1]
  refine lv_aload_n hx hb dL_617 rfl (lv_at hl 0 rfl) ?_
  refine lv_iload_n hx hb dL_618 rfl (lv_at hl 3 rfl) ?_
  refine lv_iconst (v := 2) hx hb dL_619 (by decide) ?_
  refine lv_iadd hx hb dL_620 ?_
  refine va_sld hx hb hX hbl hbA hS hin2 dL_621 ?_
  rw [e2]
  refine law_call C0 hK hN hA hP hD hS hl.1 hc (mm := 158) (bb := 50) (index := 84) (k1 := 941) (k2 := 942) (k3 := 943) [.int (zi A1), .int (zi A2)] [.int (zi v)] ⟨by decide +kernel, by decide +kernel, by decide +kernel, by decide, by decide, rfl, rfl⟩ (Nat.le_of_ble_eq_true rfl) (Nat.le_of_ble_eq_true rfl) dL_622 hZ (fun w t2 H2 locs2 hw hP hD hS => ?_)
  obtain ⟨rfl, hJ2⟩ := hw
  exact lv_icmp_eq (tgt := 1013) hx hb dL_625 (by decide) (fun _ => next t2 H2 locs2 hJ2 hP hD hS) (fun h => absurd rfl h)
theorem law_c16 (hL : L ≤ 3072) (C0 : lw_At p s m meth c b L xs) (hK : va_K D vwCl (zTy cA cS) s) (hN : zNs s) {i : Nat} (hi : i + 6 ≤ L) {t : zMI} (hJ : JJ t) (hP : va_P D vwCl (zW ad cA cS (zlf t)) H) (hD : va_D (fun q : Nat => s.heap.size ≤ q) (zW ad cA cS (zlf t))) (hS : va_S (fun q : Nat => s.heap.size ≤ q) s.heap H locs) {ls : Array Slot} (hl : lv_has ls 4 [(0, .ref b), (1, .ref (ad 0)), (2, .ref (ad 50)), (3, .int (nI i))]) (hc : cells ≤ 600000 ∧ slots ≤ 7302250)
    (next : ∀ (t2 : zMI) (H2 : Heap) (locs2 : List Loc), JJ t2 → va_P D vwCl (zW ad cA cS (zlf t2)) H2 → va_D (fun q : Nat => s.heap.size ≤ q) (zW ad cA cS (zlf t2)) → va_S (fun q : Nat => s.heap.size ≤ q) s.heap H2 locs2 → W p l e room_1 s m #[Value.ref b] below meth c H2 locs2 cells slots Q (F0 m 1013 ls [])) : W p l e room_1 s m #[Value.ref b] below meth c H locs cells slots Q (F0 m 630 ls []) := by
  obtain ⟨hx, hb, hr, hml, hown, hts, hX, hbl, hlocks, hgv⟩ := id C0
  have hA : ∀ q : Nat, s.heap.size ≤ q → (fun q : Nat => s.heap.size ≤ q) q := fun _ h => h
  have hbA : ¬ (fun q : Nat => s.heap.size ≤ q) b := Nat.not_le.mpr hbl
  have hin1 : vp_in (nI i + 1) L := by rw [show nI i + 1 = nI (i + 1) from nI_add i 1]; exact vp_in_nI (by omega) (by omega)
  obtain ⟨A1, r1, e1⟩ : ∃ A : Int, r32 A ∧ xs (nI i + 1).toNatClampNeg = zi A := ⟨_, zi_rng _, (zi_of _).symm⟩
  have hin2 : vp_in (nI i + 2) L := by rw [show nI i + 2 = nI (i + 2) from nI_add i 2]; exact vp_in_nI (by omega) (by omega)
  obtain ⟨A2, r2, e2⟩ : ∃ A : Int, r32 A ∧ xs (nI i + 2).toNatClampNeg = zi A := ⟨_, zi_rng _, (zi_of _).symm⟩
  refine lv_aload_n hx hb dL_630 rfl (lv_at hl 1 rfl) ?_
  refine lv_aload_n hx hb dL_631 rfl (lv_at hl 0 rfl) ?_
  refine lv_iload_n hx hb dL_632 rfl (lv_at hl 3 rfl) ?_
  refine lv_iconst (v := 1) hx hb dL_633 (by decide) ?_
  refine lv_iadd hx hb dL_634 ?_
  refine va_sld hx hb hX hbl hbA hS hin1 dL_635 ?_
  rw [e1]
  refine lv_aload_n hx hb dL_636 rfl (lv_at hl 0 rfl) ?_
  refine lv_iload_n hx hb dL_637 rfl (lv_at hl 3 rfl) ?_
  refine lv_iconst (v := 2) hx hb dL_638 (by decide) ?_
  refine lv_iadd hx hb dL_639 ?_
  refine va_sld hx hb hX hbl hbA hS hin2 dL_640 ?_
  rw [e2]
  refine law_call C0 hK hN hA hP hD hS hl.1 hc (mm := 82) (bb := 0) (index := 85) (k1 := 527) (k2 := 528) (k3 := 529) [.int (zi A1), .int (zi A2)] [] ⟨by decide +kernel, by decide +kernel, by decide +kernel, by decide, by decide, rfl, rfl⟩ (Nat.le_of_ble_eq_true rfl) (Nat.le_of_ble_eq_true rfl) dL_641 (j_point hJ r1 r2) (fun v t1 H1 locs1 hZ hP hD hS => ?_)
  refine lv_aload_n hx hb dL_644 rfl (lv_at hl 2 rfl) ?_
  refine lv_aload_n hx hb dL_645 rfl (lv_at hl 0 rfl) ?_
  refine lv_iload_n hx hb dL_646 rfl (lv_at hl 3 rfl) ?_
  refine lv_iconst (v := 1) hx hb dL_647 (by decide) ?_
  refine lv_iadd hx hb dL_648 ?_
  refine va_sld hx hb hX hbl hbA hS hin1 dL_649 ?_
  rw [e1]
  refine lv_aload_n hx hb dL_650 rfl (lv_at hl 0 rfl) ?_
  refine lv_iload_n hx hb dL_651 rfl (lv_at hl 3 rfl) ?_
  refine lv_iconst (v := 2) hx hb dL_652 (by decide) ?_
  refine lv_iadd hx hb dL_653 ?_
  refine va_sld hx hb hX hbl hbA hS hin2 dL_654 ?_
  rw [e2]
  refine law_call C0 hK hN hA hP hD hS hl.1 hc (mm := 154) (bb := 50) (index := 88) (k1 := 937) (k2 := 938) (k3 := 939) [.int (zi A1), .int (zi A2)] [.int (zi v)] ⟨by decide +kernel, by decide +kernel, by decide +kernel, by decide, by decide, rfl, rfl⟩ (Nat.le_of_ble_eq_true rfl) (Nat.le_of_ble_eq_true rfl) dL_655 hZ (fun w t2 H2 locs2 hw hP hD hS => ?_)
  obtain ⟨rfl, hJ2⟩ := hw
  exact lv_icmp_eq (tgt := 1013) hx hb dL_658 (by decide) (fun _ => next t2 H2 locs2 hJ2 hP hD hS) (fun h => absurd rfl h)
theorem law_c17 (hL : L ≤ 3072) (C0 : lw_At p s m meth c b L xs) (hK : va_K D vwCl (zTy cA cS) s) (hN : zNs s) {i : Nat} (hi : i + 6 ≤ L) {t : zMI} (hJ : JJ t) (hP : va_P D vwCl (zW ad cA cS (zlf t)) H) (hD : va_D (fun q : Nat => s.heap.size ≤ q) (zW ad cA cS (zlf t))) (hS : va_S (fun q : Nat => s.heap.size ≤ q) s.heap H locs) {ls : Array Slot} (hl : lv_has ls 4 [(0, .ref b), (1, .ref (ad 0)), (2, .ref (ad 50)), (3, .int (nI i))]) (hc : cells ≤ 600000 ∧ slots ≤ 7302250)
    (next : ∀ (t2 : zMI) (H2 : Heap) (locs2 : List Loc), JJ t2 → va_P D vwCl (zW ad cA cS (zlf t2)) H2 → va_D (fun q : Nat => s.heap.size ≤ q) (zW ad cA cS (zlf t2)) → va_S (fun q : Nat => s.heap.size ≤ q) s.heap H2 locs2 → W p l e room_1 s m #[Value.ref b] below meth c H2 locs2 cells slots Q (F0 m 1013 ls [])) : W p l e room_1 s m #[Value.ref b] below meth c H locs cells slots Q (F0 m 663 ls []) := by
  obtain ⟨hx, hb, hr, hml, hown, hts, hX, hbl, hlocks, hgv⟩ := id C0
  have hA : ∀ q : Nat, s.heap.size ≤ q → (fun q : Nat => s.heap.size ≤ q) q := fun _ h => h
  have hbA : ¬ (fun q : Nat => s.heap.size ≤ q) b := Nat.not_le.mpr hbl
  have hin1 : vp_in (nI i + 1) L := by rw [show nI i + 1 = nI (i + 1) from nI_add i 1]; exact vp_in_nI (by omega) (by omega)
  obtain ⟨A1, r1, e1⟩ : ∃ A : Int, r32 A ∧ xs (nI i + 1).toNatClampNeg = zi A := ⟨_, zi_rng _, (zi_of _).symm⟩
  refine lv_aload_n hx hb dL_663 rfl (lv_at hl 1 rfl) ?_
  refine lv_aload_n hx hb dL_664 rfl (lv_at hl 0 rfl) ?_
  refine lv_iload_n hx hb dL_665 rfl (lv_at hl 3 rfl) ?_
  refine lv_iconst (v := 1) hx hb dL_666 (by decide) ?_
  refine lv_iadd hx hb dL_667 ?_
  refine va_sld hx hb hX hbl hbA hS hin1 dL_668 ?_
  rw [e1]
  refine law_call C0 hK hN hA hP hD hS hl.1 hc (mm := 83) (bb := 0) (index := 89) (k1 := 536) (k2 := 537) (k3 := 538) [.int (zi A1)] [] ⟨by decide +kernel, by decide +kernel, by decide +kernel, by decide, by decide, rfl, rfl⟩ (Nat.le_of_ble_eq_true rfl) (Nat.le_of_ble_eq_true rfl) dL_669 (j_match hJ r1) (fun v t1 H1 locs1 hZ hP hD hS => ?_)
  refine lv_aload_n hx hb dL_672 rfl (lv_at hl 2 rfl) ?_
  refine lv_aload_n hx hb dL_673 rfl (lv_at hl 0 rfl) ?_
  refine lv_iload_n hx hb dL_674 rfl (lv_at hl 3 rfl) ?_
  refine lv_iconst (v := 1) hx hb dL_675 (by decide) ?_
  refine lv_iadd hx hb dL_676 ?_
  refine va_sld hx hb hX hbl hbA hS hin1 dL_677 ?_
  rw [e1]
  refine law_call C0 hK hN hA hP hD hS hl.1 hc (mm := 160) (bb := 50) (index := 92) (k1 := 958) (k2 := 959) (k3 := 960) [.int (zi A1)] [.int (zi v)] ⟨by decide +kernel, by decide +kernel, by decide +kernel, by decide, by decide, rfl, rfl⟩ (Nat.le_of_ble_eq_true rfl) (Nat.le_of_ble_eq_true rfl) dL_678 hZ (fun w t2 H2 locs2 hw hP hD hS => ?_)
  obtain ⟨rfl, hJ2⟩ := hw
  exact lv_icmp_eq (tgt := 1013) hx hb dL_681 (by decide) (fun _ => next t2 H2 locs2 hJ2 hP hD hS) (fun h => absurd rfl h)
theorem law_c18 (hL : L ≤ 3072) (C0 : lw_At p s m meth c b L xs) (hK : va_K D vwCl (zTy cA cS) s) (hN : zNs s) {i : Nat} (hi : i + 6 ≤ L) {t : zMI} (hJ : JJ t) (hP : va_P D vwCl (zW ad cA cS (zlf t)) H) (hD : va_D (fun q : Nat => s.heap.size ≤ q) (zW ad cA cS (zlf t))) (hS : va_S (fun q : Nat => s.heap.size ≤ q) s.heap H locs) {ls : Array Slot} (hl : lv_has ls 4 [(0, .ref b), (1, .ref (ad 0)), (2, .ref (ad 50)), (3, .int (nI i))]) (hc : cells ≤ 600000 ∧ slots ≤ 7302250)
    (next : ∀ (t2 : zMI) (H2 : Heap) (locs2 : List Loc), JJ t2 → va_P D vwCl (zW ad cA cS (zlf t2)) H2 → va_D (fun q : Nat => s.heap.size ≤ q) (zW ad cA cS (zlf t2)) → va_S (fun q : Nat => s.heap.size ≤ q) s.heap H2 locs2 → W p l e room_1 s m #[Value.ref b] below meth c H2 locs2 cells slots Q (F0 m 1013 ls [])) : W p l e room_1 s m #[Value.ref b] below meth c H locs cells slots Q (F0 m 686 ls []) := by
  obtain ⟨hx, hb, hr, hml, hown, hts, hX, hbl, hlocks, hgv⟩ := id C0
  have hA : ∀ q : Nat, s.heap.size ≤ q → (fun q : Nat => s.heap.size ≤ q) q := fun _ h => h
  have hbA : ¬ (fun q : Nat => s.heap.size ≤ q) b := Nat.not_le.mpr hbl
  have hin1 : vp_in (nI i + 1) L := by rw [show nI i + 1 = nI (i + 1) from nI_add i 1]; exact vp_in_nI (by omega) (by omega)
  obtain ⟨A1, r1, e1⟩ : ∃ A : Int, r32 A ∧ xs (nI i + 1).toNatClampNeg = zi A := ⟨_, zi_rng _, (zi_of _).symm⟩
  refine lv_aload_n hx hb dL_686 rfl (lv_at hl 1 rfl) ?_
  refine lv_aload_n hx hb dL_687 rfl (lv_at hl 0 rfl) ?_
  refine lv_iload_n hx hb dL_688 rfl (lv_at hl 3 rfl) ?_
  refine lv_iconst (v := 1) hx hb dL_689 (by decide) ?_
  refine lv_iadd hx hb dL_690 ?_
  refine va_sld hx hb hX hbl hbA hS hin1 dL_691 ?_
  rw [e1]
  refine law_call C0 hK hN hA hP hD hS hl.1 hc (mm := 84) (bb := 0) (index := 93) (k1 := 553) (k2 := 554) (k3 := 555) [.int (zi A1)] [] ⟨by decide +kernel, by decide +kernel, by decide +kernel, by decide, by decide, rfl, rfl⟩ (Nat.le_of_ble_eq_true rfl) (Nat.le_of_ble_eq_true rfl) dL_692 (j_seed hJ r1) (fun v t1 H1 locs1 hZ hP hD hS => ?_)
  refine lv_aload_n hx hb dL_695 rfl (lv_at hl 2 rfl) ?_
  refine lv_aload_n hx hb dL_696 rfl (lv_at hl 0 rfl) ?_
  refine lv_iload_n hx hb dL_697 rfl (lv_at hl 3 rfl) ?_
  refine lv_iconst (v := 1) hx hb dL_698 (by decide) ?_
  refine lv_iadd hx hb dL_699 ?_
  refine va_sld hx hb hX hbl hbA hS hin1 dL_700 ?_
  rw [e1]
  refine law_call C0 hK hN hA hP hD hS hl.1 hc (mm := 161) (bb := 50) (index := 96) (k1 := 971) (k2 := 972) (k3 := 973) [.int (zi A1)] [.int (zi v)] ⟨by decide +kernel, by decide +kernel, by decide +kernel, by decide, by decide, rfl, rfl⟩ (Nat.le_of_ble_eq_true rfl) (Nat.le_of_ble_eq_true rfl) dL_701 hZ (fun w t2 H2 locs2 hw hP hD hS => ?_)
  obtain ⟨rfl, hJ2⟩ := hw
  exact lv_icmp_eq (tgt := 1013) hx hb dL_704 (by decide) (fun _ => next t2 H2 locs2 hJ2 hP hD hS) (fun h => absurd rfl h)
theorem law_c19 (hL : L ≤ 3072) (C0 : lw_At p s m meth c b L xs) (hK : va_K D vwCl (zTy cA cS) s) (hN : zNs s) {i : Nat} (hi : i + 6 ≤ L) {t : zMI} (hJ : JJ t) (hP : va_P D vwCl (zW ad cA cS (zlf t)) H) (hD : va_D (fun q : Nat => s.heap.size ≤ q) (zW ad cA cS (zlf t))) (hS : va_S (fun q : Nat => s.heap.size ≤ q) s.heap H locs) {ls : Array Slot} (hl : lv_has ls 4 [(0, .ref b), (1, .ref (ad 0)), (2, .ref (ad 50)), (3, .int (nI i))]) (hc : cells ≤ 600000 ∧ slots ≤ 7302250)
    (next : ∀ (t2 : zMI) (H2 : Heap) (locs2 : List Loc), JJ t2 → va_P D vwCl (zW ad cA cS (zlf t2)) H2 → va_D (fun q : Nat => s.heap.size ≤ q) (zW ad cA cS (zlf t2)) → va_S (fun q : Nat => s.heap.size ≤ q) s.heap H2 locs2 → W p l e room_1 s m #[Value.ref b] below meth c H2 locs2 cells slots Q (F0 m 1013 ls [])) : W p l e room_1 s m #[Value.ref b] below meth c H locs cells slots Q (F0 m 709 ls []) := by
  obtain ⟨hx, hb, hr, hml, hown, hts, hX, hbl, hlocks, hgv⟩ := id C0
  have hA : ∀ q : Nat, s.heap.size ≤ q → (fun q : Nat => s.heap.size ≤ q) q := fun _ h => h
  have hbA : ¬ (fun q : Nat => s.heap.size ≤ q) b := Nat.not_le.mpr hbl
  refine lv_aload_n hx hb dL_709 rfl (lv_at hl 1 rfl) ?_
  refine law_call C0 hK hN hA hP hD hS hl.1 hc (mm := 85) (bb := 0) (index := 97) (k1 := 565) (k2 := 566) (k3 := 567) [] [] ⟨by decide +kernel, by decide +kernel, by decide +kernel, by decide, by decide, rfl, rfl⟩ (Nat.le_of_ble_eq_true rfl) (Nat.le_of_ble_eq_true rfl) dL_710 (j_image hJ) (fun v t1 H1 locs1 hZ hP hD hS => ?_)
  refine lv_aload_n hx hb dL_713 rfl (lv_at hl 2 rfl) ?_
  refine law_call C0 hK hN hA hP hD hS hl.1 hc (mm := 162) (bb := 50) (index := 100) (k1 := 975) (k2 := 976) (k3 := 977) [] [.int (zi v)] ⟨by decide +kernel, by decide +kernel, by decide +kernel, by decide, by decide, rfl, rfl⟩ (Nat.le_of_ble_eq_true rfl) (Nat.le_of_ble_eq_true rfl) dL_714 hZ (fun w t2 H2 locs2 hw hP hD hS => ?_)
  obtain ⟨rfl, hJ2⟩ := hw
  exact lv_icmp_eq (tgt := 1013) hx hb dL_717 (by decide) (fun _ => next t2 H2 locs2 hJ2 hP hD hS) (fun h => absurd rfl h)
theorem law_c20 (hL : L ≤ 3072) (C0 : lw_At p s m meth c b L xs) (hK : va_K D vwCl (zTy cA cS) s) (hN : zNs s) {i : Nat} (hi : i + 6 ≤ L) {t : zMI} (hJ : JJ t) (hP : va_P D vwCl (zW ad cA cS (zlf t)) H) (hD : va_D (fun q : Nat => s.heap.size ≤ q) (zW ad cA cS (zlf t))) (hS : va_S (fun q : Nat => s.heap.size ≤ q) s.heap H locs) {ls : Array Slot} (hl : lv_has ls 4 [(0, .ref b), (1, .ref (ad 0)), (2, .ref (ad 50)), (3, .int (nI i))]) (hc : cells ≤ 600000 ∧ slots ≤ 7302250)
    (next : ∀ (t2 : zMI) (H2 : Heap) (locs2 : List Loc), JJ t2 → va_P D vwCl (zW ad cA cS (zlf t2)) H2 → va_D (fun q : Nat => s.heap.size ≤ q) (zW ad cA cS (zlf t2)) → va_S (fun q : Nat => s.heap.size ≤ q) s.heap H2 locs2 → W p l e room_1 s m #[Value.ref b] below meth c H2 locs2 cells slots Q (F0 m 1013 ls [])) : W p l e room_1 s m #[Value.ref b] below meth c H locs cells slots Q (F0 m 722 ls []) := by
  obtain ⟨hx, hb, hr, hml, hown, hts, hX, hbl, hlocks, hgv⟩ := id C0
  have hA : ∀ q : Nat, s.heap.size ≤ q → (fun q : Nat => s.heap.size ≤ q) q := fun _ h => h
  have hbA : ¬ (fun q : Nat => s.heap.size ≤ q) b := Nat.not_le.mpr hbl
  refine lv_aload_n hx hb dL_722 rfl (lv_at hl 1 rfl) ?_
  refine law_call C0 hK hN hA hP hD hS hl.1 hc (mm := 86) (bb := 0) (index := 101) (k1 := 569) (k2 := 570) (k3 := 571) [] [] ⟨by decide +kernel, by decide +kernel, by decide +kernel, by decide, by decide, rfl, rfl⟩ (Nat.le_of_ble_eq_true rfl) (Nat.le_of_ble_eq_true rfl) dL_723 (j_restore hJ) (fun v t1 H1 locs1 hZ hP hD hS => ?_)
  refine lv_aload_n hx hb dL_726 rfl (lv_at hl 2 rfl) ?_
  refine law_call C0 hK hN hA hP hD hS hl.1 hc (mm := 163) (bb := 50) (index := 104) (k1 := 979) (k2 := 980) (k3 := 981) [] [.int (zi v)] ⟨by decide +kernel, by decide +kernel, by decide +kernel, by decide, by decide, rfl, rfl⟩ (Nat.le_of_ble_eq_true rfl) (Nat.le_of_ble_eq_true rfl) dL_727 hZ (fun w t2 H2 locs2 hw hP hD hS => ?_)
  obtain ⟨rfl, hJ2⟩ := hw
  exact lv_icmp_eq (tgt := 1013) hx hb dL_730 (by decide) (fun _ => next t2 H2 locs2 hJ2 hP hD hS) (fun h => absurd rfl h)
theorem law_c21 (hL : L ≤ 3072) (C0 : lw_At p s m meth c b L xs) (hK : va_K D vwCl (zTy cA cS) s) (hN : zNs s) {i : Nat} (hi : i + 6 ≤ L) {t : zMI} (hJ : JJ t) (hP : va_P D vwCl (zW ad cA cS (zlf t)) H) (hD : va_D (fun q : Nat => s.heap.size ≤ q) (zW ad cA cS (zlf t))) (hS : va_S (fun q : Nat => s.heap.size ≤ q) s.heap H locs) {ls : Array Slot} (hl : lv_has ls 4 [(0, .ref b), (1, .ref (ad 0)), (2, .ref (ad 50)), (3, .int (nI i))]) (hc : cells ≤ 600000 ∧ slots ≤ 7302250)
    (next : ∀ (t2 : zMI) (H2 : Heap) (locs2 : List Loc), JJ t2 → va_P D vwCl (zW ad cA cS (zlf t2)) H2 → va_D (fun q : Nat => s.heap.size ≤ q) (zW ad cA cS (zlf t2)) → va_S (fun q : Nat => s.heap.size ≤ q) s.heap H2 locs2 → W p l e room_1 s m #[Value.ref b] below meth c H2 locs2 cells slots Q (F0 m 1013 ls [])) : W p l e room_1 s m #[Value.ref b] below meth c H locs cells slots Q (F0 m 735 ls []) := by
  obtain ⟨hx, hb, hr, hml, hown, hts, hX, hbl, hlocks, hgv⟩ := id C0
  have hA : ∀ q : Nat, s.heap.size ≤ q → (fun q : Nat => s.heap.size ≤ q) q := fun _ h => h
  have hbA : ¬ (fun q : Nat => s.heap.size ≤ q) b := Nat.not_le.mpr hbl
  have hin1 : vp_in (nI i + 1) L := by rw [show nI i + 1 = nI (i + 1) from nI_add i 1]; exact vp_in_nI (by omega) (by omega)
  obtain ⟨A1, r1, e1⟩ : ∃ A : Int, r32 A ∧ xs (nI i + 1).toNatClampNeg = zi A := ⟨_, zi_rng _, (zi_of _).symm⟩
  have hin2 : vp_in (nI i + 2) L := by rw [show nI i + 2 = nI (i + 2) from nI_add i 2]; exact vp_in_nI (by omega) (by omega)
  obtain ⟨A2, r2, e2⟩ : ∃ A : Int, r32 A ∧ xs (nI i + 2).toNatClampNeg = zi A := ⟨_, zi_rng _, (zi_of _).symm⟩
  have hin3 : vp_in (nI i + 3) L := by rw [show nI i + 3 = nI (i + 3) from nI_add i 3]; exact vp_in_nI (by omega) (by omega)
  obtain ⟨A3, r3, e3⟩ : ∃ A : Int, r32 A ∧ xs (nI i + 3).toNatClampNeg = zi A := ⟨_, zi_rng _, (zi_of _).symm⟩
  have hin4 : vp_in (nI i + 4) L := by rw [show nI i + 4 = nI (i + 4) from nI_add i 4]; exact vp_in_nI (by omega) (by omega)
  obtain ⟨A4, r4, e4⟩ : ∃ A : Int, r32 A ∧ xs (nI i + 4).toNatClampNeg = zi A := ⟨_, zi_rng _, (zi_of _).symm⟩
  refine lv_aload_n hx hb dL_735 rfl (lv_at hl 1 rfl) ?_
  refine lv_aload_n hx hb dL_736 rfl (lv_at hl 0 rfl) ?_
  refine lv_iload_n hx hb dL_737 rfl (lv_at hl 3 rfl) ?_
  refine lv_iconst (v := 1) hx hb dL_738 (by decide) ?_
  refine lv_iadd hx hb dL_739 ?_
  refine va_sld hx hb hX hbl hbA hS hin1 dL_740 ?_
  rw [e1]
  refine lv_aload_n hx hb dL_741 rfl (lv_at hl 0 rfl) ?_
  refine lv_iload_n hx hb dL_742 rfl (lv_at hl 3 rfl) ?_
  refine lv_iconst (v := 2) hx hb dL_743 (by decide) ?_
  refine lv_iadd hx hb dL_744 ?_
  refine va_sld hx hb hX hbl hbA hS hin2 dL_745 ?_
  rw [e2]
  refine lv_aload_n hx hb dL_746 rfl (lv_at hl 0 rfl) ?_
  refine lv_iload_n hx hb dL_747 rfl (lv_at hl 3 rfl) ?_
  refine lv_iconst (v := 3) hx hb dL_748 (by decide) ?_
  refine lv_iadd hx hb dL_749 ?_
  refine va_sld hx hb hX hbl hbA hS hin3 dL_750 ?_
  rw [e3]
  refine lv_aload_n hx hb dL_751 rfl (lv_at hl 0 rfl) ?_
  refine lv_iload_n hx hb dL_752 rfl (lv_at hl 3 rfl) ?_
  refine lv_iconst (v := 4) hx hb dL_753 (by decide) ?_
  refine lv_iadd hx hb dL_754 ?_
  refine va_sld hx hb hX hbl hbA hS hin4 dL_755 ?_
  rw [e4]
  refine law_call C0 hK hN hA hP hD hS hl.1 hc (mm := 87) (bb := 0) (index := 105) (k1 := 573) (k2 := 574) (k3 := 575) [.int (zi A1), .int (zi A2), .int (zi A3), .int (zi A4)] [] ⟨by decide +kernel, by decide +kernel, by decide +kernel, by decide, by decide, rfl, rfl⟩ (Nat.le_of_ble_eq_true rfl) (Nat.le_of_ble_eq_true rfl) dL_756 (j_judged hJ r1 r2 r3 r4) (fun v t1 H1 locs1 hZ hP hD hS => ?_)
  refine lv_aload_n hx hb dL_759 rfl (lv_at hl 2 rfl) ?_
  refine lv_aload_n hx hb dL_760 rfl (lv_at hl 0 rfl) ?_
  refine lv_iload_n hx hb dL_761 rfl (lv_at hl 3 rfl) ?_
  refine lv_iconst (v := 1) hx hb dL_762 (by decide) ?_
  refine lv_iadd hx hb dL_763 ?_
  refine va_sld hx hb hX hbl hbA hS hin1 dL_764 ?_
  rw [e1]
  refine lv_aload_n hx hb dL_765 rfl (lv_at hl 0 rfl) ?_
  refine lv_iload_n hx hb dL_766 rfl (lv_at hl 3 rfl) ?_
  refine lv_iconst (v := 2) hx hb dL_767 (by decide) ?_
  refine lv_iadd hx hb dL_768 ?_
  refine va_sld hx hb hX hbl hbA hS hin2 dL_769 ?_
  rw [e2]
  refine lv_aload_n hx hb dL_770 rfl (lv_at hl 0 rfl) ?_
  refine lv_iload_n hx hb dL_771 rfl (lv_at hl 3 rfl) ?_
  refine lv_iconst (v := 3) hx hb dL_772 (by decide) ?_
  refine lv_iadd hx hb dL_773 ?_
  refine va_sld hx hb hX hbl hbA hS hin3 dL_774 ?_
  rw [e3]
  refine lv_aload_n hx hb dL_775 rfl (lv_at hl 0 rfl) ?_
  refine lv_iload_n hx hb dL_776 rfl (lv_at hl 3 rfl) ?_
  refine lv_iconst (v := 4) hx hb dL_777 (by decide) ?_
  refine lv_iadd hx hb dL_778 ?_
  refine va_sld hx hb hX hbl hbA hS hin4 dL_779 ?_
  rw [e4]
  refine law_call C0 hK hN hA hP hD hS hl.1 hc (mm := 169) (bb := 50) (index := 109) (k1 := 1002) (k2 := 1003) (k3 := 1004) [.int (zi A1), .int (zi A2), .int (zi A3), .int (zi A4)] [.int (zi v)] ⟨by decide +kernel, by decide +kernel, by decide +kernel, by decide, by decide, rfl, rfl⟩ (Nat.le_of_ble_eq_true rfl) (Nat.le_of_ble_eq_true rfl) dL_780 hZ (fun w t2 H2 locs2 hw hP hD hS => ?_)
  obtain ⟨rfl, hJ2⟩ := hw
  exact lv_icmp_eq (tgt := 1013) hx hb dL_783 (by decide) (fun _ => next t2 H2 locs2 hJ2 hP hD hS) (fun h => absurd rfl h)
theorem law_c22 (hL : L ≤ 3072) (C0 : lw_At p s m meth c b L xs) (hK : va_K D vwCl (zTy cA cS) s) (hN : zNs s) {i : Nat} (hi : i + 6 ≤ L) {t : zMI} (hJ : JJ t) (hP : va_P D vwCl (zW ad cA cS (zlf t)) H) (hD : va_D (fun q : Nat => s.heap.size ≤ q) (zW ad cA cS (zlf t))) (hS : va_S (fun q : Nat => s.heap.size ≤ q) s.heap H locs) {ls : Array Slot} (hl : lv_has ls 4 [(0, .ref b), (1, .ref (ad 0)), (2, .ref (ad 50)), (3, .int (nI i))]) (hc : cells ≤ 600000 ∧ slots ≤ 7302250)
    (next : ∀ (t2 : zMI) (H2 : Heap) (locs2 : List Loc), JJ t2 → va_P D vwCl (zW ad cA cS (zlf t2)) H2 → va_D (fun q : Nat => s.heap.size ≤ q) (zW ad cA cS (zlf t2)) → va_S (fun q : Nat => s.heap.size ≤ q) s.heap H2 locs2 → W p l e room_1 s m #[Value.ref b] below meth c H2 locs2 cells slots Q (F0 m 1013 ls [])) : W p l e room_1 s m #[Value.ref b] below meth c H locs cells slots Q (F0 m 788 ls []) := by
  obtain ⟨hx, hb, hr, hml, hown, hts, hX, hbl, hlocks, hgv⟩ := id C0
  have hA : ∀ q : Nat, s.heap.size ≤ q → (fun q : Nat => s.heap.size ≤ q) q := fun _ h => h
  have hbA : ¬ (fun q : Nat => s.heap.size ≤ q) b := Nat.not_le.mpr hbl
  have hin1 : vp_in (nI i + 1) L := by rw [show nI i + 1 = nI (i + 1) from nI_add i 1]; exact vp_in_nI (by omega) (by omega)
  obtain ⟨A1, r1, e1⟩ : ∃ A : Int, r32 A ∧ xs (nI i + 1).toNatClampNeg = zi A := ⟨_, zi_rng _, (zi_of _).symm⟩
  have hin2 : vp_in (nI i + 2) L := by rw [show nI i + 2 = nI (i + 2) from nI_add i 2]; exact vp_in_nI (by omega) (by omega)
  obtain ⟨A2, r2, e2⟩ : ∃ A : Int, r32 A ∧ xs (nI i + 2).toNatClampNeg = zi A := ⟨_, zi_rng _, (zi_of _).symm⟩
  have hin3 : vp_in (nI i + 3) L := by rw [show nI i + 3 = nI (i + 3) from nI_add i 3]; exact vp_in_nI (by omega) (by omega)
  obtain ⟨A3, r3, e3⟩ : ∃ A : Int, r32 A ∧ xs (nI i + 3).toNatClampNeg = zi A := ⟨_, zi_rng _, (zi_of _).symm⟩
  have hin4 : vp_in (nI i + 4) L := by rw [show nI i + 4 = nI (i + 4) from nI_add i 4]; exact vp_in_nI (by omega) (by omega)
  obtain ⟨A4, r4, e4⟩ : ∃ A : Int, r32 A ∧ xs (nI i + 4).toNatClampNeg = zi A := ⟨_, zi_rng _, (zi_of _).symm⟩
  have hin5 : vp_in (nI i + 5) L := by rw [show nI i + 5 = nI (i + 5) from nI_add i 5]; exact vp_in_nI (by omega) (by omega)
  obtain ⟨A5, r5, e5⟩ : ∃ A : Int, r32 A ∧ xs (nI i + 5).toNatClampNeg = zi A := ⟨_, zi_rng _, (zi_of _).symm⟩
  refine lv_aload_n hx hb dL_788 rfl (lv_at hl 1 rfl) ?_
  refine lv_aload_n hx hb dL_789 rfl (lv_at hl 0 rfl) ?_
  refine lv_iload_n hx hb dL_790 rfl (lv_at hl 3 rfl) ?_
  refine lv_iconst (v := 1) hx hb dL_791 (by decide) ?_
  refine lv_iadd hx hb dL_792 ?_
  refine va_sld hx hb hX hbl hbA hS hin1 dL_793 ?_
  rw [e1]
  refine lv_aload_n hx hb dL_794 rfl (lv_at hl 0 rfl) ?_
  refine lv_iload_n hx hb dL_795 rfl (lv_at hl 3 rfl) ?_
  refine lv_iconst (v := 2) hx hb dL_796 (by decide) ?_
  refine lv_iadd hx hb dL_797 ?_
  refine va_sld hx hb hX hbl hbA hS hin2 dL_798 ?_
  rw [e2]
  refine lv_aload_n hx hb dL_799 rfl (lv_at hl 0 rfl) ?_
  refine lv_iload_n hx hb dL_800 rfl (lv_at hl 3 rfl) ?_
  refine lv_iconst (v := 3) hx hb dL_801 (by decide) ?_
  refine lv_iadd hx hb dL_802 ?_
  refine va_sld hx hb hX hbl hbA hS hin3 dL_803 ?_
  rw [e3]
  refine lv_aload_n hx hb dL_804 rfl (lv_at hl 0 rfl) ?_
  refine lv_iload_n hx hb dL_805 rfl (lv_at hl 3 rfl) ?_
  refine lv_iconst (v := 4) hx hb dL_806 (by decide) ?_
  refine lv_iadd hx hb dL_807 ?_
  refine va_sld hx hb hX hbl hbA hS hin4 dL_808 ?_
  rw [e4]
  refine lv_aload_n hx hb dL_809 rfl (lv_at hl 0 rfl) ?_
  refine lv_iload_n hx hb dL_810 rfl (lv_at hl 3 rfl) ?_
  refine lv_iconst (v := 5) hx hb dL_811 (by decide) ?_
  refine lv_iadd hx hb dL_812 ?_
  refine va_sld hx hb hX hbl hbA hS hin5 dL_813 ?_
  rw [e5]
  refine law_call C0 hK hN hA hP hD hS hl.1 hc (mm := 88) (bb := 0) (index := 110) (k1 := 597) (k2 := 598) (k3 := 599) [.int (zi A1), .int (zi A2), .int (zi A3), .int (zi A4), .int (zi A5)] [] ⟨by decide +kernel, by decide +kernel, by decide +kernel, by decide, by decide, rfl, rfl⟩ (Nat.le_of_ble_eq_true rfl) (Nat.le_of_ble_eq_true rfl) dL_814 (j_orders hJ r1 r2 r3 r4 r5) (fun v t1 H1 locs1 hZ hP hD hS => ?_)
  refine lv_aload_n hx hb dL_817 rfl (lv_at hl 2 rfl) ?_
  refine lv_aload_n hx hb dL_818 rfl (lv_at hl 0 rfl) ?_
  refine lv_iload_n hx hb dL_819 rfl (lv_at hl 3 rfl) ?_
  refine lv_iconst (v := 1) hx hb dL_820 (by decide) ?_
  refine lv_iadd hx hb dL_821 ?_
  refine va_sld hx hb hX hbl hbA hS hin1 dL_822 ?_
  rw [e1]
  refine lv_aload_n hx hb dL_823 rfl (lv_at hl 0 rfl) ?_
  refine lv_iload_n hx hb dL_824 rfl (lv_at hl 3 rfl) ?_
  refine lv_iconst (v := 2) hx hb dL_825 (by decide) ?_
  refine lv_iadd hx hb dL_826 ?_
  refine va_sld hx hb hX hbl hbA hS hin2 dL_827 ?_
  rw [e2]
  refine lv_aload_n hx hb dL_828 rfl (lv_at hl 0 rfl) ?_
  refine lv_iload_n hx hb dL_829 rfl (lv_at hl 3 rfl) ?_
  refine lv_iconst (v := 3) hx hb dL_830 (by decide) ?_
  refine lv_iadd hx hb dL_831 ?_
  refine va_sld hx hb hX hbl hbA hS hin3 dL_832 ?_
  rw [e3]
  refine lv_aload_n hx hb dL_833 rfl (lv_at hl 0 rfl) ?_
  refine lv_iload_n hx hb dL_834 rfl (lv_at hl 3 rfl) ?_
  refine lv_iconst (v := 4) hx hb dL_835 (by decide) ?_
  refine lv_iadd hx hb dL_836 ?_
  refine va_sld hx hb hX hbl hbA hS hin4 dL_837 ?_
  rw [e4]
  refine lv_aload_n hx hb dL_838 rfl (lv_at hl 0 rfl) ?_
  refine lv_iload_n hx hb dL_839 rfl (lv_at hl 3 rfl) ?_
  refine lv_iconst (v := 5) hx hb dL_840 (by decide) ?_
  refine lv_iadd hx hb dL_841 ?_
  refine va_sld hx hb hX hbl hbA hS hin5 dL_842 ?_
  rw [e5]
  refine law_call C0 hK hN hA hP hD hS hl.1 hc (mm := 173) (bb := 50) (index := 114) (k1 := 1006) (k2 := 1007) (k3 := 1008) [.int (zi A1), .int (zi A2), .int (zi A3), .int (zi A4), .int (zi A5)] [.int (zi v)] ⟨by decide +kernel, by decide +kernel, by decide +kernel, by decide, by decide, rfl, rfl⟩ (Nat.le_of_ble_eq_true rfl) (Nat.le_of_ble_eq_true rfl) dL_843 hZ (fun w t2 H2 locs2 hw hP hD hS => ?_)
  obtain ⟨rfl, hJ2⟩ := hw
  exact lv_icmp_eq (tgt := 1013) hx hb dL_846 (by decide) (fun _ => next t2 H2 locs2 hJ2 hP hD hS) (fun h => absurd rfl h)
theorem law_c23 (hL : L ≤ 3072) (C0 : lw_At p s m meth c b L xs) (hK : va_K D vwCl (zTy cA cS) s) (hN : zNs s) {i : Nat} (hi : i + 6 ≤ L) {t : zMI} (hJ : JJ t) (hP : va_P D vwCl (zW ad cA cS (zlf t)) H) (hD : va_D (fun q : Nat => s.heap.size ≤ q) (zW ad cA cS (zlf t))) (hS : va_S (fun q : Nat => s.heap.size ≤ q) s.heap H locs) {ls : Array Slot} (hl : lv_has ls 4 [(0, .ref b), (1, .ref (ad 0)), (2, .ref (ad 50)), (3, .int (nI i))]) (hc : cells ≤ 600000 ∧ slots ≤ 7302250)
    (next : ∀ (t2 : zMI) (H2 : Heap) (locs2 : List Loc), JJ t2 → va_P D vwCl (zW ad cA cS (zlf t2)) H2 → va_D (fun q : Nat => s.heap.size ≤ q) (zW ad cA cS (zlf t2)) → va_S (fun q : Nat => s.heap.size ≤ q) s.heap H2 locs2 → W p l e room_1 s m #[Value.ref b] below meth c H2 locs2 cells slots Q (F0 m 1013 ls [])) : W p l e room_1 s m #[Value.ref b] below meth c H locs cells slots Q (F0 m 851 ls []) := by
  obtain ⟨hx, hb, hr, hml, hown, hts, hX, hbl, hlocks, hgv⟩ := id C0
  have hA : ∀ q : Nat, s.heap.size ≤ q → (fun q : Nat => s.heap.size ≤ q) q := fun _ h => h
  have hbA : ¬ (fun q : Nat => s.heap.size ≤ q) b := Nat.not_le.mpr hbl
  have hin1 : vp_in (nI i + 1) L := by rw [show nI i + 1 = nI (i + 1) from nI_add i 1]; exact vp_in_nI (by omega) (by omega)
  obtain ⟨A1, r1, e1⟩ : ∃ A : Int, r32 A ∧ xs (nI i + 1).toNatClampNeg = zi A := ⟨_, zi_rng _, (zi_of _).symm⟩
  have hin2 : vp_in (nI i + 2) L := by rw [show nI i + 2 = nI (i + 2) from nI_add i 2]; exact vp_in_nI (by omega) (by omega)
  obtain ⟨A2, r2, e2⟩ : ∃ A : Int, r32 A ∧ xs (nI i + 2).toNatClampNeg = zi A := ⟨_, zi_rng _, (zi_of _).symm⟩
  have hin3 : vp_in (nI i + 3) L := by rw [show nI i + 3 = nI (i + 3) from nI_add i 3]; exact vp_in_nI (by omega) (by omega)
  obtain ⟨A3, r3, e3⟩ : ∃ A : Int, r32 A ∧ xs (nI i + 3).toNatClampNeg = zi A := ⟨_, zi_rng _, (zi_of _).symm⟩
  refine lv_aload_n hx hb dL_851 rfl (lv_at hl 1 rfl) ?_
  refine lv_aload_n hx hb dL_852 rfl (lv_at hl 0 rfl) ?_
  refine lv_iload_n hx hb dL_853 rfl (lv_at hl 3 rfl) ?_
  refine lv_iconst (v := 1) hx hb dL_854 (by decide) ?_
  refine lv_iadd hx hb dL_855 ?_
  refine va_sld hx hb hX hbl hbA hS hin1 dL_856 ?_
  rw [e1]
  refine lv_aload_n hx hb dL_857 rfl (lv_at hl 0 rfl) ?_
  refine lv_iload_n hx hb dL_858 rfl (lv_at hl 3 rfl) ?_
  refine lv_iconst (v := 2) hx hb dL_859 (by decide) ?_
  refine lv_iadd hx hb dL_860 ?_
  refine va_sld hx hb hX hbl hbA hS hin2 dL_861 ?_
  rw [e2]
  refine lv_aload_n hx hb dL_862 rfl (lv_at hl 0 rfl) ?_
  refine lv_iload_n hx hb dL_863 rfl (lv_at hl 3 rfl) ?_
  refine lv_iconst (v := 3) hx hb dL_864 (by decide) ?_
  refine lv_iadd hx hb dL_865 ?_
  refine va_sld hx hb hX hbl hbA hS hin3 dL_866 ?_
  rw [e3]
  refine law_call C0 hK hN hA hP hD hS hl.1 hc (mm := 89) (bb := 0) (index := 115) (k1 := 637) (k2 := 638) (k3 := 639) [.int (zi A1), .int (zi A2), .int (zi A3)] [] ⟨by decide +kernel, by decide +kernel, by decide +kernel, by decide, by decide, rfl, rfl⟩ (Nat.le_of_ble_eq_true rfl) (Nat.le_of_ble_eq_true rfl) dL_867 (j_sheet hJ r1 r2 r3) (fun v t1 H1 locs1 hZ hP hD hS => ?_)
  refine lv_aload_n hx hb dL_870 rfl (lv_at hl 2 rfl) ?_
  refine lv_aload_n hx hb dL_871 rfl (lv_at hl 0 rfl) ?_
  refine lv_iload_n hx hb dL_872 rfl (lv_at hl 3 rfl) ?_
  refine lv_iconst (v := 1) hx hb dL_873 (by decide) ?_
  refine lv_iadd hx hb dL_874 ?_
  refine va_sld hx hb hX hbl hbA hS hin1 dL_875 ?_
  rw [e1]
  refine lv_aload_n hx hb dL_876 rfl (lv_at hl 0 rfl) ?_
  refine lv_iload_n hx hb dL_877 rfl (lv_at hl 3 rfl) ?_
  refine lv_iconst (v := 2) hx hb dL_878 (by decide) ?_
  refine lv_iadd hx hb dL_879 ?_
  refine va_sld hx hb hX hbl hbA hS hin2 dL_880 ?_
  rw [e2]
  refine lv_aload_n hx hb dL_881 rfl (lv_at hl 0 rfl) ?_
  refine lv_iload_n hx hb dL_882 rfl (lv_at hl 3 rfl) ?_
  refine lv_iconst (v := 3) hx hb dL_883 (by decide) ?_
  refine lv_iadd hx hb dL_884 ?_
  refine va_sld hx hb hX hbl hbA hS hin3 dL_885 ?_
  rw [e3]
  refine law_call C0 hK hN hA hP hD hS hl.1 hc (mm := 165) (bb := 50) (index := 118) (k1 := 983) (k2 := 984) (k3 := 985) [.int (zi A1), .int (zi A2), .int (zi A3)] [.int (zi v)] ⟨by decide +kernel, by decide +kernel, by decide +kernel, by decide, by decide, rfl, rfl⟩ (Nat.le_of_ble_eq_true rfl) (Nat.le_of_ble_eq_true rfl) dL_886 hZ (fun w t2 H2 locs2 hw hP hD hS => ?_)
  obtain ⟨rfl, hJ2⟩ := hw
  exact lv_icmp_eq (tgt := 1013) hx hb dL_889 (by decide) (fun _ => next t2 H2 locs2 hJ2 hP hD hS) (fun h => absurd rfl h)
theorem law_c24 (hL : L ≤ 3072) (C0 : lw_At p s m meth c b L xs) (hK : va_K D vwCl (zTy cA cS) s) (hN : zNs s) {i : Nat} (hi : i + 6 ≤ L) {t : zMI} (hJ : JJ t) (hP : va_P D vwCl (zW ad cA cS (zlf t)) H) (hD : va_D (fun q : Nat => s.heap.size ≤ q) (zW ad cA cS (zlf t))) (hS : va_S (fun q : Nat => s.heap.size ≤ q) s.heap H locs) {ls : Array Slot} (hl : lv_has ls 4 [(0, .ref b), (1, .ref (ad 0)), (2, .ref (ad 50)), (3, .int (nI i))]) (hc : cells ≤ 600000 ∧ slots ≤ 7302250)
    (next : ∀ (t2 : zMI) (H2 : Heap) (locs2 : List Loc), JJ t2 → va_P D vwCl (zW ad cA cS (zlf t2)) H2 → va_D (fun q : Nat => s.heap.size ≤ q) (zW ad cA cS (zlf t2)) → va_S (fun q : Nat => s.heap.size ≤ q) s.heap H2 locs2 → W p l e room_1 s m #[Value.ref b] below meth c H2 locs2 cells slots Q (F0 m 1013 ls [])) : W p l e room_1 s m #[Value.ref b] below meth c H locs cells slots Q (F0 m 894 ls []) := by
  obtain ⟨hx, hb, hr, hml, hown, hts, hX, hbl, hlocks, hgv⟩ := id C0
  have hA : ∀ q : Nat, s.heap.size ≤ q → (fun q : Nat => s.heap.size ≤ q) q := fun _ h => h
  have hbA : ¬ (fun q : Nat => s.heap.size ≤ q) b := Nat.not_le.mpr hbl
  have hin1 : vp_in (nI i + 1) L := by rw [show nI i + 1 = nI (i + 1) from nI_add i 1]; exact vp_in_nI (by omega) (by omega)
  obtain ⟨A1, r1, e1⟩ : ∃ A : Int, r32 A ∧ xs (nI i + 1).toNatClampNeg = zi A := ⟨_, zi_rng _, (zi_of _).symm⟩
  refine lv_aload_n hx hb dL_894 rfl (lv_at hl 1 rfl) ?_
  refine lv_aload_n hx hb dL_895 rfl (lv_at hl 0 rfl) ?_
  refine lv_iload_n hx hb dL_896 rfl (lv_at hl 3 rfl) ?_
  refine lv_iconst (v := 1) hx hb dL_897 (by decide) ?_
  refine lv_iadd hx hb dL_898 ?_
  refine va_sld hx hb hX hbl hbA hS hin1 dL_899 ?_
  rw [e1]
  refine law_call C0 hK hN hA hP hD hS hl.1 hc (mm := 90) (bb := 0) (index := 119) (k1 := 646) (k2 := 647) (k3 := 648) [.int (zi A1)] [] ⟨by decide +kernel, by decide +kernel, by decide +kernel, by decide, by decide, rfl, rfl⟩ (Nat.le_of_ble_eq_true rfl) (Nat.le_of_ble_eq_true rfl) dL_900 (j_drop hJ r1) (fun v t1 H1 locs1 hZ hP hD hS => ?_)
  refine lv_aload_n hx hb dL_903 rfl (lv_at hl 2 rfl) ?_
  refine lv_aload_n hx hb dL_904 rfl (lv_at hl 0 rfl) ?_
  refine lv_iload_n hx hb dL_905 rfl (lv_at hl 3 rfl) ?_
  refine lv_iconst (v := 1) hx hb dL_906 (by decide) ?_
  refine lv_iadd hx hb dL_907 ?_
  refine va_sld hx hb hX hbl hbA hS hin1 dL_908 ?_
  rw [e1]
  refine law_call C0 hK hN hA hP hD hS hl.1 hc (mm := 166) (bb := 50) (index := 122) (k1 := 990) (k2 := 991) (k3 := 992) [.int (zi A1)] [.int (zi v)] ⟨by decide +kernel, by decide +kernel, by decide +kernel, by decide, by decide, rfl, rfl⟩ (Nat.le_of_ble_eq_true rfl) (Nat.le_of_ble_eq_true rfl) dL_909 hZ (fun w t2 H2 locs2 hw hP hD hS => ?_)
  obtain ⟨rfl, hJ2⟩ := hw
  exact lv_icmp_eq (tgt := 1013) hx hb dL_912 (by decide) (fun _ => next t2 H2 locs2 hJ2 hP hD hS) (fun h => absurd rfl h)
theorem law_c25 (hL : L ≤ 3072) (C0 : lw_At p s m meth c b L xs) (hK : va_K D vwCl (zTy cA cS) s) (hN : zNs s) {i : Nat} (hi : i + 6 ≤ L) {t : zMI} (hJ : JJ t) (hP : va_P D vwCl (zW ad cA cS (zlf t)) H) (hD : va_D (fun q : Nat => s.heap.size ≤ q) (zW ad cA cS (zlf t))) (hS : va_S (fun q : Nat => s.heap.size ≤ q) s.heap H locs) {ls : Array Slot} (hl : lv_has ls 4 [(0, .ref b), (1, .ref (ad 0)), (2, .ref (ad 50)), (3, .int (nI i))]) (hc : cells ≤ 600000 ∧ slots ≤ 7302250)
    (next : ∀ (t2 : zMI) (H2 : Heap) (locs2 : List Loc), JJ t2 → va_P D vwCl (zW ad cA cS (zlf t2)) H2 → va_D (fun q : Nat => s.heap.size ≤ q) (zW ad cA cS (zlf t2)) → va_S (fun q : Nat => s.heap.size ≤ q) s.heap H2 locs2 → W p l e room_1 s m #[Value.ref b] below meth c H2 locs2 cells slots Q (F0 m 1013 ls [])) : W p l e room_1 s m #[Value.ref b] below meth c H locs cells slots Q (F0 m 917 ls []) := by
  obtain ⟨hx, hb, hr, hml, hown, hts, hX, hbl, hlocks, hgv⟩ := id C0
  have hA : ∀ q : Nat, s.heap.size ≤ q → (fun q : Nat => s.heap.size ≤ q) q := fun _ h => h
  have hbA : ¬ (fun q : Nat => s.heap.size ≤ q) b := Nat.not_le.mpr hbl
  have hin1 : vp_in (nI i + 1) L := by rw [show nI i + 1 = nI (i + 1) from nI_add i 1]; exact vp_in_nI (by omega) (by omega)
  obtain ⟨A1, r1, e1⟩ : ∃ A : Int, r32 A ∧ xs (nI i + 1).toNatClampNeg = zi A := ⟨_, zi_rng _, (zi_of _).symm⟩
  have hin2 : vp_in (nI i + 2) L := by rw [show nI i + 2 = nI (i + 2) from nI_add i 2]; exact vp_in_nI (by omega) (by omega)
  obtain ⟨A2, r2, e2⟩ : ∃ A : Int, r32 A ∧ xs (nI i + 2).toNatClampNeg = zi A := ⟨_, zi_rng _, (zi_of _).symm⟩
  have hin3 : vp_in (nI i + 3) L := by rw [show nI i + 3 = nI (i + 3) from nI_add i 3]; exact vp_in_nI (by omega) (by omega)
  obtain ⟨A3, r3, e3⟩ : ∃ A : Int, r32 A ∧ xs (nI i + 3).toNatClampNeg = zi A := ⟨_, zi_rng _, (zi_of _).symm⟩
  have hin4 : vp_in (nI i + 4) L := by rw [show nI i + 4 = nI (i + 4) from nI_add i 4]; exact vp_in_nI (by omega) (by omega)
  obtain ⟨A4, r4, e4⟩ : ∃ A : Int, r32 A ∧ xs (nI i + 4).toNatClampNeg = zi A := ⟨_, zi_rng _, (zi_of _).symm⟩
  refine lv_aload_n hx hb dL_917 rfl (lv_at hl 1 rfl) ?_
  refine lv_aload_n hx hb dL_918 rfl (lv_at hl 0 rfl) ?_
  refine lv_iload_n hx hb dL_919 rfl (lv_at hl 3 rfl) ?_
  refine lv_iconst (v := 1) hx hb dL_920 (by decide) ?_
  refine lv_iadd hx hb dL_921 ?_
  refine va_sld hx hb hX hbl hbA hS hin1 dL_922 ?_
  rw [e1]
  refine lv_aload_n hx hb dL_923 rfl (lv_at hl 0 rfl) ?_
  refine lv_iload_n hx hb dL_924 rfl (lv_at hl 3 rfl) ?_
  refine lv_iconst (v := 2) hx hb dL_925 (by decide) ?_
  refine lv_iadd hx hb dL_926 ?_
  refine va_sld hx hb hX hbl hbA hS hin2 dL_927 ?_
  rw [e2]
  refine lv_aload_n hx hb dL_928 rfl (lv_at hl 0 rfl) ?_
  refine lv_iload_n hx hb dL_929 rfl (lv_at hl 3 rfl) ?_
  refine lv_iconst (v := 3) hx hb dL_930 (by decide) ?_
  refine lv_iadd hx hb dL_931 ?_
  refine va_sld hx hb hX hbl hbA hS hin3 dL_932 ?_
  rw [e3]
  refine lv_aload_n hx hb dL_933 rfl (lv_at hl 0 rfl) ?_
  refine lv_iload_n hx hb dL_934 rfl (lv_at hl 3 rfl) ?_
  refine lv_iconst (v := 4) hx hb dL_935 (by decide) ?_
  refine lv_iadd hx hb dL_936 ?_
  refine va_sld hx hb hX hbl hbA hS hin4 dL_937 ?_
  rw [e4]
  refine law_call C0 hK hN hA hP hD hS hl.1 hc (mm := 91) (bb := 0) (index := 123) (k1 := 658) (k2 := 659) (k3 := 660) [.int (zi A1), .int (zi A2), .int (zi A3), .int (zi A4)] [] ⟨by decide +kernel, by decide +kernel, by decide +kernel, by decide, by decide, rfl, rfl⟩ (Nat.le_of_ble_eq_true rfl) (Nat.le_of_ble_eq_true rfl) dL_938 (j_item hJ r1 r2 r3 r4) (fun v t1 H1 locs1 hZ hP hD hS => ?_)
  refine lv_aload_n hx hb dL_941 rfl (lv_at hl 2 rfl) ?_
  refine lv_aload_n hx hb dL_942 rfl (lv_at hl 0 rfl) ?_
  refine lv_iload_n hx hb dL_943 rfl (lv_at hl 3 rfl) ?_
  refine lv_iconst (v := 1) hx hb dL_944 (by decide) ?_
  refine lv_iadd hx hb dL_945 ?_
  refine va_sld hx hb hX hbl hbA hS hin1 dL_946 ?_
  rw [e1]
  refine lv_aload_n hx hb dL_947 rfl (lv_at hl 0 rfl) ?_
  refine lv_iload_n hx hb dL_948 rfl (lv_at hl 3 rfl) ?_
  refine lv_iconst (v := 2) hx hb dL_949 (by decide) ?_
  refine lv_iadd hx hb dL_950 ?_
  refine va_sld hx hb hX hbl hbA hS hin2 dL_951 ?_
  rw [e2]
  refine lv_aload_n hx hb dL_952 rfl (lv_at hl 0 rfl) ?_
  refine lv_iload_n hx hb dL_953 rfl (lv_at hl 3 rfl) ?_
  refine lv_iconst (v := 3) hx hb dL_954 (by decide) ?_
  refine lv_iadd hx hb dL_955 ?_
  refine va_sld hx hb hX hbl hbA hS hin3 dL_956 ?_
  rw [e3]
  refine lv_aload_n hx hb dL_957 rfl (lv_at hl 0 rfl) ?_
  refine lv_iload_n hx hb dL_958 rfl (lv_at hl 3 rfl) ?_
  refine lv_iconst (v := 4) hx hb dL_959 (by decide) ?_
  refine lv_iadd hx hb dL_960 ?_
  refine va_sld hx hb hX hbl hbA hS hin4 dL_961 ?_
  rw [e4]
  refine law_call C0 hK hN hA hP hD hS hl.1 hc (mm := 168) (bb := 50) (index := 126) (k1 := 994) (k2 := 995) (k3 := 996) [.int (zi A1), .int (zi A2), .int (zi A3), .int (zi A4)] [.int (zi v)] ⟨by decide +kernel, by decide +kernel, by decide +kernel, by decide, by decide, rfl, rfl⟩ (Nat.le_of_ble_eq_true rfl) (Nat.le_of_ble_eq_true rfl) dL_962 hZ (fun w t2 H2 locs2 hw hP hD hS => ?_)
  obtain ⟨rfl, hJ2⟩ := hw
  exact lv_icmp_eq (tgt := 1013) hx hb dL_965 (by decide) (fun _ => next t2 H2 locs2 hJ2 hP hD hS) (fun h => absurd rfl h)
theorem law_c26 (hL : L ≤ 3072) (C0 : lw_At p s m meth c b L xs) (hK : va_K D vwCl (zTy cA cS) s) (hN : zNs s) {i : Nat} (hi : i + 6 ≤ L) {t : zMI} (hJ : JJ t) (hP : va_P D vwCl (zW ad cA cS (zlf t)) H) (hD : va_D (fun q : Nat => s.heap.size ≤ q) (zW ad cA cS (zlf t))) (hS : va_S (fun q : Nat => s.heap.size ≤ q) s.heap H locs) {ls : Array Slot} (hl : lv_has ls 4 [(0, .ref b), (1, .ref (ad 0)), (2, .ref (ad 50)), (3, .int (nI i))]) (hc : cells ≤ 600000 ∧ slots ≤ 7302250)
    (next : ∀ (t2 : zMI) (H2 : Heap) (locs2 : List Loc), JJ t2 → va_P D vwCl (zW ad cA cS (zlf t2)) H2 → va_D (fun q : Nat => s.heap.size ≤ q) (zW ad cA cS (zlf t2)) → va_S (fun q : Nat => s.heap.size ≤ q) s.heap H2 locs2 → W p l e room_1 s m #[Value.ref b] below meth c H2 locs2 cells slots Q (F0 m 1013 ls [])) : W p l e room_1 s m #[Value.ref b] below meth c H locs cells slots Q (F0 m 970 ls []) := by
  obtain ⟨hx, hb, hr, hml, hown, hts, hX, hbl, hlocks, hgv⟩ := id C0
  have hA : ∀ q : Nat, s.heap.size ≤ q → (fun q : Nat => s.heap.size ≤ q) q := fun _ h => h
  have hbA : ¬ (fun q : Nat => s.heap.size ≤ q) b := Nat.not_le.mpr hbl
  have hin1 : vp_in (nI i + 1) L := by rw [show nI i + 1 = nI (i + 1) from nI_add i 1]; exact vp_in_nI (by omega) (by omega)
  obtain ⟨A1, r1, e1⟩ : ∃ A : Int, r32 A ∧ xs (nI i + 1).toNatClampNeg = zi A := ⟨_, zi_rng _, (zi_of _).symm⟩
  have hin2 : vp_in (nI i + 2) L := by rw [show nI i + 2 = nI (i + 2) from nI_add i 2]; exact vp_in_nI (by omega) (by omega)
  obtain ⟨A2, r2, e2⟩ : ∃ A : Int, r32 A ∧ xs (nI i + 2).toNatClampNeg = zi A := ⟨_, zi_rng _, (zi_of _).symm⟩
  have hin3 : vp_in (nI i + 3) L := by rw [show nI i + 3 = nI (i + 3) from nI_add i 3]; exact vp_in_nI (by omega) (by omega)
  obtain ⟨A3, r3, e3⟩ : ∃ A : Int, r32 A ∧ xs (nI i + 3).toNatClampNeg = zi A := ⟨_, zi_rng _, (zi_of _).symm⟩
  refine lv_aload_n hx hb dL_970 rfl (lv_at hl 1 rfl) ?_
  refine lv_aload_n hx hb dL_971 rfl (lv_at hl 0 rfl) ?_
  refine lv_iload_n hx hb dL_972 rfl (lv_at hl 3 rfl) ?_
  refine lv_iconst (v := 1) hx hb dL_973 (by decide) ?_
  refine lv_iadd hx hb dL_974 ?_
  refine va_sld hx hb hX hbl hbA hS hin1 dL_975 ?_
  rw [e1]
  refine lv_aload_n hx hb dL_976 rfl (lv_at hl 0 rfl) ?_
  refine lv_iload_n hx hb dL_977 rfl (lv_at hl 3 rfl) ?_
  refine lv_iconst (v := 2) hx hb dL_978 (by decide) ?_
  refine lv_iadd hx hb dL_979 ?_
  refine va_sld hx hb hX hbl hbA hS hin2 dL_980 ?_
  rw [e2]
  refine lv_aload_n hx hb dL_981 rfl (lv_at hl 0 rfl) ?_
  refine lv_iload_n hx hb dL_982 rfl (lv_at hl 3 rfl) ?_
  refine lv_iconst (v := 3) hx hb dL_983 (by decide) ?_
  refine lv_iadd hx hb dL_984 ?_
  refine va_sld hx hb hX hbl hbA hS hin3 dL_985 ?_
  rw [e3]
  refine law_call C0 hK hN hA hP hD hS hl.1 hc (mm := 92) (bb := 0) (index := 127) (k1 := 666) (k2 := 667) (k3 := 668) [.int (zi A1), .int (zi A2), .int (zi A3)] [] ⟨by decide +kernel, by decide +kernel, by decide +kernel, by decide, by decide, rfl, rfl⟩ (Nat.le_of_ble_eq_true rfl) (Nat.le_of_ble_eq_true rfl) dL_986 (j_film hJ r1 r2 r3) (fun v t1 H1 locs1 hZ hP hD hS => ?_)
  refine lv_aload_n hx hb dL_989 rfl (lv_at hl 2 rfl) ?_
  refine lv_aload_n hx hb dL_990 rfl (lv_at hl 0 rfl) ?_
  refine lv_iload_n hx hb dL_991 rfl (lv_at hl 3 rfl) ?_
  refine lv_iconst (v := 1) hx hb dL_992 (by decide) ?_
  refine lv_iadd hx hb dL_993 ?_
  refine va_sld hx hb hX hbl hbA hS hin1 dL_994 ?_
  rw [e1]
  refine lv_aload_n hx hb dL_995 rfl (lv_at hl 0 rfl) ?_
  refine lv_iload_n hx hb dL_996 rfl (lv_at hl 3 rfl) ?_
  refine lv_iconst (v := 2) hx hb dL_997 (by decide) ?_
  refine lv_iadd hx hb dL_998 ?_
  refine va_sld hx hb hX hbl hbA hS hin2 dL_999 ?_
  rw [e2]
  refine lv_aload_n hx hb dL_1000 rfl (lv_at hl 0 rfl) ?_
  refine lv_iload_n hx hb dL_1001 rfl (lv_at hl 3 rfl) ?_
  refine lv_iconst (v := 3) hx hb dL_1002 (by decide) ?_
  refine lv_iadd hx hb dL_1003 ?_
  refine va_sld hx hb hX hbl hbA hS hin3 dL_1004 ?_
  rw [e3]
  refine law_call C0 hK hN hA hP hD hS hl.1 hc (mm := 174) (bb := 50) (index := 130) (k1 := 1022) (k2 := 1023) (k3 := 1024) [.int (zi A1), .int (zi A2), .int (zi A3)] [.int (zi v)] ⟨by decide +kernel, by decide +kernel, by decide +kernel, by decide, by decide, rfl, rfl⟩ (Nat.le_of_ble_eq_true rfl) (Nat.le_of_ble_eq_true rfl) dL_1005 hZ (fun w t2 H2 locs2 hw hP hD hS => ?_)
  obtain ⟨rfl, hJ2⟩ := hw
  exact lv_icmp_eq (tgt := 1013) hx hb dL_1008 (by decide) (fun _ => next t2 H2 locs2 hJ2 hP hD hS) (fun h => absurd rfl h)
end
