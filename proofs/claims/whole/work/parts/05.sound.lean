/-! the small machine is sound: what it runs, the machine runs -/
def zTb : List Jvm.Cond := lw_tbl.filter goodWord
theorem zin {k : Nat} {w : Jvm.Cond} (h : zw k = some w) (hg : goodWord w = true) : w ∈ zTb := List.mem_filter.mpr ⟨List.mem_of_getElem? h, hg⟩
theorem zTb_good : GoodIn zTb zTb := fun _ hw => ⟨hw, good_of_word (List.mem_filter.mp hw).2⟩
def zv (ad : Nat → Nat) : Value → Value
  | .ref r => .ref (ad r)
  | v => v
theorem zv_cat (ad : Nat → Nat) (v : Value) : (zv ad v).category = v.category := by cases v <;> rfl
def zce (ad : Nat → Nat) (cA cS : ClassId) (σ : zM) (k : Nat) (e : zE) : va_E := match e with
  | .inl n => .inl (cA, n, .inl (σ k))
  | .inr (.inl (ci, fl)) => .inr (ci, fl.mapIdx (fun j o => match o with | some r => Value.ref (ad r) | none => .int (σ k j)))
  | .inr (.inr rs) => .inl (cS, rs.length, .inr (.inr (.inr (.inr (fun i => (rs[i]?).map ad)))))
def zW (ad : Nat → Nat) (cA cS : ClassId) (σ : zM) : va_W := zLy.mapIdx (fun k e => (ad k, zce ad cA cS σ k e))
abbrev zTy (cA cS : ClassId) : List (ClassId × FieldType) := [(cA, .int), (cS, .object RX0)]
def zNs (U : State) : Prop := ∀ a i x h, Jvm.Cond.methodLinkNest a i x h ∈ lw_tbl → va_Nw (.methodLinkNest a i x h) U
def zOk (p : Program) (R : Room) (s : State) (mm : MethodId) (args : Array Value) (meth : Method) (c : Code) (D : va_G) (cA cS : ClassId) (d m : Nat) : Prop :=
  p.tables.exec = Jvm.exec ∧ c.code = zb m ∧ meth.sig.returnType = zr m ∧ c.maxLocals = zl m ∧ s.vm.findClass (zo m) = some mm.cls ∧ (∀ w ∈ zTb, w.before args s = true) ∧ meth.locks = false ∧ (d ≤ R.frames ∧ 32 * d ≤ R.locals) ∧ va_K D vwCl (zTy cA cS) s ∧ zNs s
def zPo (D : va_G) (ad : Nat → Nat) (cA cS : ClassId) (Q : Option Value → zM → Prop) (A : Nat → Prop) : Array Value → State → Outcome → State → Prop := fun _ st oc t =>
  (∃ (r : Option Value) (σ' : zM), oc = .returned (r.map (zv ad)) ∧ Q r σ' ∧ va_P D vwCl (zW ad cA cS σ') t.heap ∧ va_K D vwCl (zTy cA cS) t ∧ zNs t ∧ va_D A (zW ad cA cS σ')) ∧ va_F A st t
def zlm (ad : Nat → Nat) (lv : List (Nat × Value)) : List (Nat × Value) := lv.map (fun q => (q.1, zv ad q.2))
def zSem (l : Launch) (D : va_G) (ad : Nat → Nat) (cA cS : ClassId) : zT := fun d m i lv st σ Q =>
  ∀ (p : Program) (e : Env) (R : Room) (s : State) (mm : MethodId) (args : Array Value) (below : List Frame) (meth : Method) (c : Code) (A : Nat → Prop) (H : Heap) (locs : List Loc) (ls : Array Slot),
    zOk p R s mm args meth c D cA cS d m → (∀ q, s.heap.size ≤ q → A q) → va_P D vwCl (zW ad cA cS σ) H → va_D A (zW ad cA cS σ) → va_S A s.heap H locs → lv_has ls (zl m) (zlm ad lv) →
    W p l e R s mm args below meth c H locs 0 0 (MQ below (zPo D ad cA cS Q A) args s 0 0 A) (F0 mm (zpc m i) ls (st.map (zv ad)))
theorem zW_get {ad : Nat → Nat} {cA cS : ClassId} {σ : zM} {k : Nat} {e : zE} (h : zLy[k]? = some e) : (zW ad cA cS σ)[k]? = some (ad k, zce ad cA cS σ k e) := by
  simp [zW, List.getElem?_mapIdx, h]
theorem zce_congr {ad : Nat → Nat} {cA cS : ClassId} {σ σ' : zM} {k : Nat} (h : σ' k = σ k) (e : zE) : zce ad cA cS σ' k e = zce ad cA cS σ k e := by
  unfold zce
  rw [h]
theorem zW_set {ad : Nat → Nat} {cA cS : ClassId} {σ σ' : zM} {b : Nat} {e : zE} (hb : zLy[b]? = some e) (ho : ∀ k, k ≠ b → σ' k = σ k) : (zW ad cA cS σ).set b (ad b, zce ad cA cS σ' b e) = zW ad cA cS σ' := by
  refine List.ext_getElem? fun k => ?_
  have hlt : b < zLy.length := (List.getElem?_eq_some_iff.mp hb).1
  rw [List.getElem?_set]
  by_cases hk : b = k
  · subst hk
    rw [if_pos rfl, if_pos (by simpa [zW] using hlt), zW_get hb]
  · rw [if_neg hk]
    simp only [zW, List.getElem?_mapIdx]
    cases zLy[k]? with
    | none => rfl
    | some e' =>
      simp only [Option.map_some]
      rw [zce_congr (ho k (Ne.symm hk))]
theorem zu_ne {σ : zM} {b j : Nat} {x : Int32} {k : Nat} (h : k ≠ b) : zu σ b j x k = σ k := by
  funext q
  unfold zu
  rw [if_neg h]
theorem zu_eq {σ : zM} {b j : Nat} {x : Int32} : zu σ b j x b = upd (σ b) j x := by
  funext q
  unfold zu
  rw [if_pos rfl]
theorem zcp_ne {σ : zM} {a b sp dp n : Nat} {k : Nat} (h : k ≠ b) : zcp σ a b sp dp n k = σ k := by
  funext q
  unfold zcp
  rw [if_neg h]
theorem zcp_eq {σ : zM} {a b sp dp n : Nat} : zcp σ a b sp dp n b = va_cpy (σ a) (σ b) sp dp n := by
  funext q
  unfold zcp
  rw [if_pos rfl]
theorem zg_mem : ∀ {lv : List (Nat × Value)} {k : Nat} {v : Value}, zg lv k = some v → (k, v) ∈ lv
  | [], _, _, h => by cases h
  | q :: r, k, v, h => by
    unfold zg at h
    cases hq : Nat.beq q.1 k with
    | true =>
      rw [hq] at h
      have e1 : q.1 = k := Nat.eq_of_beq_eq_true hq
      have e2 : q.2 = v := Option.some.inj h
      rw [← e1, ← e2]
      exact List.mem_cons_self
    | false =>
      rw [hq] at h
      exact List.mem_cons_of_mem _ (zg_mem h)
theorem zlv {ad : Nat → Nat} {lv : List (Nat × Value)} {k n : Nat} {v : Value} {ls : Array Slot} (hg : zg lv k = some v) (h : lv_has ls n (zlm ad lv)) : ls[k]? = some (.val (zv ad v)) :=
  h.2.2 (k, zv ad v) (List.mem_map.mpr ⟨(k, v), zg_mem hg, rfl⟩)
theorem zs_map (ad : Nat → Nat) (lv : List (Nat × Value)) (k : Nat) (v : Value) : (k, zv ad v) :: (zlm ad lv).filter (fun q => !(q.1 == k) && !(q.1 + 1 == k && q.2.category == 2)) = zlm ad (zs lv k v) := by
  unfold zs zlm
  rw [List.map_cons, List.filter_map]
  congr 2
  refine List.filter_congr fun q _ => ?_
  simp [zv_cat]
theorem zcat_map (ad : Nat → Nat) (l : List Value) : ((l.map (zv ad)).map fun v => v.category).sum = zcat l := by
  unfold zcat
  rw [List.map_map]
  congr 1
  exact List.map_congr_left fun v _ => zv_cat ad v
theorem zsl_map (ad : Nat → Nat) (l : List Value) : (lg_sl (l.map (zv ad))).length = (lg_sl l).length := by
  unfold lg_sl
  induction l with
  | nil => rfl
  | cons v r ih =>
    simp only [List.map_cons, List.flatMap_cons, List.length_append, ih, zv_cat]
    cases v <;> rfl
theorem zargs_map (ad : Nat → Nat) : ∀ (l : List Value) (k : Nat), lv_args k (l.map (zv ad)) = zlm ad (lv_args k l)
  | [], _ => rfl
  | v :: r, k => by
    simp only [List.map_cons, lv_args, zlm, zv_cat, zargs_map ad r]
theorem zrow {m i : Nat} {q : zR} (h : (zP m)[i]? = some q) : m < 180 ∧ zok m i q = true := by
  have hm : m < 180 := by
    rcases Nat.lt_or_ge m 180 with h1 | h1
    · exact h1
    · have h2 : zP m = [] := by
        unfold zP
        rw [List.getD_eq_getElem?_getD, List.getElem?_eq_none (show zPl.length ≤ m from h1)]
        rfl
      rw [h2] at h
      cases h
  refine ⟨hm, ?_⟩
  have h1 := zokM_all m hm
  unfold zokM at h1
  have h2 := List.all_eq_true.mp h1 i (List.mem_range.mpr (List.getElem?_eq_some_iff.mp h).1)
  rw [h] at h2
  exact h2
theorem zokN_sp {m : Nat} (hm : m < 180) : Jvm.Cond.code (zy m) (zb m) (zl m) (zr m) ∈ zTb ∧ Jvm.Cond.initialized (zo m) ∈ zTb ∧ plainFor (zy m) = true ∧ ((zo m) ≠ "java/lang/invoke/MethodHandle" ∧ (zo m) ≠ "java/lang/invoke/VarHandle" ∧ (parseMethodDescriptor (zy m).desc).map (fun d => d.parameters.length) = some (znp m)) ∧ zl m ≤ 13 ∧ (zci m < 5 → (vwCl[zci m]?).map (fun q => q.1) = some (zo m)) := by
  have h := zokN_all m hm
  unfold zokN at h
  simp only [Bool.and_eq_true, Bool.or_eq_true, decide_eq_true_eq, beq_iff_eq] at h
  obtain ⟨⟨⟨⟨⟨h1, h2⟩, h3⟩, h4⟩, h5⟩, h6⟩ := h
  refine ⟨zin h1 rfl, zin h2 rfl, h3, h4, h5, fun hc => ?_⟩
  rcases h6 with h6 | h6
  · omega
  · exact h6
theorem zcl_sp : ∀ (ci : Nat) (q : vw_C), vwCl[ci]? = some q → (∀ w ∈ u_ws q.1 q.2.1 q.2.2, w ∈ zTb) ∧ (∃ ty : Nat → FieldType, ∀ k, k < q.2.2 → parseFieldDescriptor (q.2.1 k).2.2.1 = some (ty k)) ∧ (∀ a, a < q.2.2 → ∀ b, b < q.2.2 → a ≠ b → (q.2.1 a).2.1 ≠ (q.2.1 b).2.1)
  | 0, q, h => by cases h; exact ⟨by decide +kernel, ⟨tyX0, tyX0_ok⟩, nmX0⟩
  | 1, q, h => by cases h; exact ⟨by decide +kernel, ⟨tyX1, tyX1_ok⟩, nmX1⟩
  | 2, q, h => by cases h; exact ⟨by decide +kernel, ⟨tyX2, tyX2_ok⟩, nmX2⟩
  | 3, q, h => by cases h; exact ⟨by decide +kernel, ⟨tyX3, tyX3_ok⟩, nmX3⟩
  | 4, q, h => by cases h; exact ⟨by decide +kernel, ⟨tyX4, tyX4_ok⟩, nmX4⟩
  | n + 5, q, h => by simp [vwCl] at h
theorem zpc0 : ∀ m, m < 180 → zpc m 0 = 0 := by decide +kernel
/-- a method's contract out of what the small machine says of its body -/
theorem zofW {l : Launch} {y : MethodName} {ws ws' : List Jvm.Cond} {rm : Room} {Pc : Array Value → State → Prop} {Qc : Array Value → State → Outcome → State → Prop} {mc ms : Nat} {free : Addr → Prop} {cc : ByteArray} {maxL : Nat} {ret : Option FieldType}
    (hy : plainFor y = true) (hw : ws = Jvm.Cond.code y cc maxL ret :: ws')
    (body : ∀ p e s m args below meth c s₁, BodyLoose p l y (headSpec ws rm) cc maxL ret e s m args below meth c s₁ → c.maxLocals = maxL → Pc args s →
      W p l e (headSpec ws rm).room s m args below meth c s.heap [] 0 0 (MQ below Qc args s mc ms free) (entryFrame m args maxL)) : Met l y ws rm Pc Qc mc ms free := by
  refine MetFree.of_bodySF (code := cc) (maxLocals := maxL) (ret := ret) hy ?_ ?_
  · intro args s m h hn
    obtain ⟨meth, c, h1, h2, h3, h4, h5, h6, -, -⟩ := Cond.code_spec hn (atoms_spec (ws := ws) h _ (by rw [hw]; exact List.mem_cons_self))
    exact ⟨meth, c, h1, h2, h3, h4, h5, h6⟩
  · intro p e s m args below meth c s₁ B hml hP _
    have hh0 : s₁.heap = s.heap := by rw [B.state]; rfl
    obtain ⟨t, a1, o, b1, b2, b3⟩ := body p e s m args below meth c s₁ B hml hP s₁ hh0 (Stand.of_body B)
    exact ⟨t, o, a1, b1, b2, ⟨b3.1, b3.2⟩⟩
def zws (m : Nat) : List Jvm.Cond := Jvm.Cond.code (zy m) (zb m) (zl m) (zr m) :: zTb
def zrm (d : Nat) : Room := { frames := d, cells := 0, slots := 0, locals := 32 * d }
def zPr (D : va_G) (ad : Nat → Nat) (cA cS : ClassId) (σ : zM) (sz : Nat) (U : State) : Prop := U.heap.size = sz ∧ va_P D vwCl (zW ad cA cS σ) U.heap ∧ va_K D vwCl (zTy cA cS) U ∧ zNs U ∧ va_D (fun _ => True) (zW ad cA cS σ)
theorem zMet {l : Launch} {D : va_G} {ad : Nat → Nat} {cA cS : ClassId} {d m : Nat} {av : List Value} {σ : zM} {Q : Option Value → zM → Prop} (hm : m < 180) (hav : (lg_sl av).length ≤ zl m) (h : zSem l D ad cA cS d m 0 (lv_args 0 av) [] σ Q) (sz : Nat) :
    Met l (zy m) (zws m) (zrm d) (va_Pc (av.map (zv ad)) (zPr D ad cA cS σ sz)) (zPo D ad cA cS Q (va_A (zW ad cA cS σ) sz)) 0 0 (va_A (zW ad cA cS σ) sz) := by
  obtain ⟨n1, n2, n3, n4, n5, n6⟩ := zokN_sp hm
  refine zofW (cc := zb m) (maxL := zl m) (ret := zr m) n3 rfl ?_
  intro p e s mm args below meth c s₁ B hml hv
  obtain ⟨rfl, hsz, hP, hK, hN, hD0⟩ := hv
  have hts : ∀ w ∈ zTb, w.before (av.map (zv ad)).toArray s = true := fun w hw => atoms_spec (ws := zws m) B.pre w (List.mem_cons_of_mem _ hw)
  subst hsz
  have hl := lv_entry (av.map (zv ad)) (n := zl m) (by rw [zsl_map]; exact hav)
  rw [lg_entry_eq]
  rw [zargs_map] at hl
  have k := h p e (zrm d) s mm (av.map (zv ad)).toArray below meth c (va_A (zW ad cA cS σ) s.heap.size) s.heap [] _ ⟨B.exec, B.bytes, B.returns, hml, findClass_of_methodNamed B.named, hts, B.notSynchronized, ⟨Nat.le_refl _, Nat.le_refl _⟩, hK, hN⟩ (fun q hq => Or.inr hq) hP hD0.self va_S.rf hl
  rw [zpc0 m hm] at k
  exact k
/-- behind a call -/
theorem zgo {p : Program} {l : Launch} {e : Env} {R : Room} {s : State} {m : MethodId} {args : Array Value} {below : List Frame} {meth : Method} {c : Code} {H : Heap} {locs : List Loc} {Q : State → Prop} {D : va_G} {ad : Nat → Nat} {cA cS : ClassId} {Q' : Option Value → zM → Prop} {A A1 : Nat → Prop} {pc : Nat} {ls : Array Slot} {st0 rest : List Value} {a : Array Value} {H0 : Heap}
    (hr : va_Run p l e R s m args below meth c H locs 0 0 0 0 (F0 m pc ls st0) rest (zPo D ad cA cS Q' A1 a) A1) (hS : va_S A H0 H locs) (hA : ∀ q, A1 q → A q)
    (kk : ∀ (r : Option Value) (σ' : zM) (H1 : Heap) (locs1 : List Loc), Q' r σ' → va_P D vwCl (zW ad cA cS σ') H1 → va_D A (zW ad cA cS σ') → va_S A H0 H1 locs1 → W p l e R s m args below meth c H1 locs1 0 0 Q (F0 m (pc + 3) ls ((r.map (zv ad)).toList ++ rest))) : W p l e R s m args below meth c H locs 0 0 Q (F0 m pc ls st0) := by
  intro T hT X
  obtain ⟨v, st₀, t, T', L, h0, X', hL, e1, e2, ⟨⟨r, σ', hv, hq, hP1, hK1, hN1, hD1⟩, hz, hk⟩, st⟩ := hr T hT X
  have hv' : v = r.map (zv ad) := by cases hv; rfl
  subst hv'
  rw [h0] at hz hk
  obtain ⟨t2, a1, b1⟩ := kk r σ' T'.heap (locs ++ L) hq (by rw [e1]; exact hP1) (hD1.weaken (fun _ q _ h => hA q.1 h))
    ⟨Nat.le_trans hS.1 (by rw [e1]; exact hz), fun q h1 h2 => by rw [e1, hk q (Nat.lt_of_lt_of_le h1 hS.1) (fun z => h2 (hA q z))]; exact hS.2.1 q h1 h2, fun q hq => by
      rcases List.mem_append.mp hq with h | h
      · exact hS.2.2 q h
      · exact hA _ (hL q h)⟩ T' rfl X'
  exact ⟨t2, st t2 a1, b1⟩
theorem zblind {D : va_G} {ad : Nat → Nat} {cA cS : ClassId} {σ : zM} {sz : Nat} {av : List Value} : FrameBlind (va_Pc av (zPr D ad cA cS σ sz)) := fun a U g mk q => by
  obtain ⟨q0, q1, qP, qK, qN, qD⟩ := q
  exact ⟨q0, q1, qP, va_K.moved (u := U) (U := U.calling g mk a) (Vm.Alike.refl U.vm) qK, fun a i x h hh => va_Nw.same (U := U.calling g mk _) rfl rfl (qN a i x h hh), qD⟩
theorem zfree {D : va_G} {ad : Nat → Nat} {cA cS : ClassId} {σ : zM} {A : Nat → Prop} {H0 H : Heap} {locs : List Loc} (hD : va_D A (zW ad cA cS σ)) (hS : va_S A H0 H locs) (hA : ∀ q, H0.size ≤ q → A q) : ∀ q, va_A (zW ad cA cS σ) H.size q → A q := by
  intro q h
  rcases h with ⟨k, e, h⟩ | h
  · exact hD.2 k (q, e) h
  · exact hA q (Nat.le_trans hS.1 h)
theorem zpre {D : va_G} {ad : Nat → Nat} {cA cS : ClassId} {σ : zM} {s U : State} {H : Heap} {A : Nat → Prop} {av : List Value} (hP : va_P D vwCl (zW ad cA cS σ) H) (hD : va_D A (zW ad cA cS σ)) (hK : va_K D vwCl (zTy cA cS) s) (hN : zNs s) (hU : U.heap = H) (hW : s.WarmedH U.vm) : va_Pc av (zPr D ad cA cS σ H.size) av.toArray U :=
  ⟨rfl, by rw [hU], by rw [hU]; exact hP, va_K.moved hW.alike hK, fun a i x h hh => va_Nw.warmM hW (hN a i x h hh), hD.weaken (fun _ _ _ _ => trivial)⟩
set_option maxHeartbeats 8000000 in
set_option maxRecDepth 100000 in
theorem zSound (l : Launch) (D : va_G) (ad : Nat → Nat) (cA cS : ClassId) : zCl (zSem l D ad cA cS) := by
  intro d m i lv st σ Q h
  unfold zst at h
  split at h
  rotate_left
  · exact h.elim
  rename_i pc I L hrow
  intro p e R s mm args below meth c A H locs ls hO hA hP hD hS hlv
  obtain ⟨hm180, hok⟩ := zrow hrow
  simp only [zok, Bool.and_eq_true, Bool.or_eq_true, Bool.not_eq_true', decide_eq_true_eq] at hok
  obtain ⟨⟨hd, hn⟩, hl⟩ := hok
  have hpc : zpc m i = pc := by simp [zpc, hrow]
  rw [hpc]
  obtain ⟨hx, hb, hr, hml, hown, hts, hlocks, ⟨hRf0, hRl0⟩, hK, hNs⟩ := id hO
  cases I with
  | iconst n =>
    have nx : zpc m (i + 1) = pc + 1 := by simpa [zfall, zn] using hn
    exact lv_iconst hx hb hd rfl (by have k := h p e R s mm args below meth c A H locs ls hO hA hP hD hS hlv; rw [nx] at k; exact k)
  | bipush n =>
    have nx : zpc m (i + 1) = pc + 2 := by simpa [zfall, zn] using hn
    exact lv_bipush hx hb hd rfl (by have k := h p e R s mm args below meth c A H locs ls hO hA hP hD hS hlv; rw [nx] at k; exact k)
  | sipush n =>
    have nx : zpc m (i + 1) = pc + 3 := by simpa [zfall, zn] using hn
    exact lv_sipush hx hb hd rfl (by have k := h p e R s mm args below meth c A H locs ls hO hA hP hD hS hlv; rw [nx] at k; exact k)
  | lconst n =>
    have nx : zpc m (i + 1) = pc + 1 := by simpa [zfall, zn] using hn
    exact lv_lconst hx hb hd rfl (by have k := h p e R s mm args below meth c A H locs ls hO hA hP hD hS hlv; rw [nx] at k; exact k)
  | ldc k =>
    have nx : zpc m (i + 1) = pc + 2 := by simpa [zfall, zn] using hn
    exact lv_ldc hx hb hown (hts _ (zin (by simpa [zlk] using hl) rfl)) hd (by have k := h p e R s mm args below meth c A H locs ls hO hA hP hD hS hlv; rw [nx] at k; exact k)
  | ldc_w k =>
    have nx : zpc m (i + 1) = pc + 3 := by simpa [zfall, zn] using hn
    exact lv_ldcw hx hb hown (hts _ (zin (by simpa [zlk] using hl) rfl)) hd (by have k := h p e R s mm args below meth c A H locs ls hO hA hP hD hS hlv; rw [nx] at k; exact k)
  | ldc2_w k =>
    have nx : zpc m (i + 1) = pc + 3 := by simpa [zfall, zn] using hn
    exact lv_ldc2 hx hb hown (hts _ (zin (by simpa [zlk] using hl) rfl)) hd (by have k := h p e R s mm args below meth c A H locs ls hO hA hP hD hS hlv; rw [nx] at k; exact k)
  | aconst_null =>
    have nx : zpc m (i + 1) = pc + 1 := by simpa [zfall, zn] using hn
    exact lv_null hx hb hd (by have k := h p e R s mm args below meth c A H locs ls hO hA hP hD hS hlv; rw [nx] at k; exact k)
  | iload k =>
    have nx : zpc m (i + 1) = pc + 2 := by simpa [zfall, zn] using hn
    obtain ⟨x, hg, h⟩ := h
    exact lv_iload hx hb hd (zlv hg hlv) (by have k := h p e R s mm args below meth c A H locs ls hO hA hP hD hS hlv; rw [nx] at k; exact k)
  | iload_n k =>
    have nx : zpc m (i + 1) = pc + 1 := by simpa [zfall, zn] using hn
    obtain ⟨x, hg, h⟩ := h
    exact lv_iload_n hx hb hd rfl (zlv hg hlv) (by have k := h p e R s mm args below meth c A H locs ls hO hA hP hD hS hlv; rw [nx] at k; exact k)
  | lload k =>
    have nx : zpc m (i + 1) = pc + 2 := by simpa [zfall, zn] using hn
    obtain ⟨x, hg, h⟩ := h
    exact lv_lload hx hb hd (zlv hg hlv) (by have k := h p e R s mm args below meth c A H locs ls hO hA hP hD hS hlv; rw [nx] at k; exact k)
  | lload_n k =>
    have nx : zpc m (i + 1) = pc + 1 := by simpa [zfall, zn] using hn
    obtain ⟨x, hg, h⟩ := h
    exact lv_lload_n hx hb hd rfl (zlv hg hlv) (by have k := h p e R s mm args below meth c A H locs ls hO hA hP hD hS hlv; rw [nx] at k; exact k)
  | aload k =>
    have nx : zpc m (i + 1) = pc + 2 := by simpa [zfall, zn] using hn
    obtain ⟨v, hg, hv, h⟩ := h
    rcases hv with rfl | ⟨b, rfl⟩
    · exact lv_aloadN hx hb hd (zlv hg hlv) (by have k := h p e R s mm args below meth c A H locs ls hO hA hP hD hS hlv; rw [nx] at k; exact k)
    · exact lv_aload hx hb hd (zlv hg hlv) (by have k := h p e R s mm args below meth c A H locs ls hO hA hP hD hS hlv; rw [nx] at k; exact k)
  | aload_n k =>
    have nx : zpc m (i + 1) = pc + 1 := by simpa [zfall, zn] using hn
    obtain ⟨v, hg, hv, h⟩ := h
    rcases hv with rfl | ⟨b, rfl⟩
    · exact lv_aload_nN hx hb hd rfl (zlv hg hlv) (by have k := h p e R s mm args below meth c A H locs ls hO hA hP hD hS hlv; rw [nx] at k; exact k)
    · exact lv_aload_n hx hb hd rfl (zlv hg hlv) (by have k := h p e R s mm args below meth c A H locs ls hO hA hP hD hS hlv; rw [nx] at k; exact k)
  | istore k =>
    have nx : zpc m (i + 1) = pc + 2 := by simpa [zfall, zn] using hn
    obtain ⟨x, r, rfl, h⟩ := zk1_e h
    exact lv_istore hx hb hd hlv (by simpa [zlk] using hl) (zs_map ad lv _ (.int x)) (fun ls' hl' => by have k := h p e R s mm args below meth c A H locs ls' hO hA hP hD hS hl'; rw [nx] at k; exact k)
  | istore_n k =>
    have nx : zpc m (i + 1) = pc + 1 := by simpa [zfall, zn] using hn
    obtain ⟨x, r, rfl, h⟩ := zk1_e h
    exact lv_istore_n hx hb hd rfl hlv (by simpa [zlk] using hl) (zs_map ad lv _ (.int x)) (fun ls' hl' => by have k := h p e R s mm args below meth c A H locs ls' hO hA hP hD hS hl'; rw [nx] at k; exact k)
  | astore k =>
    have nx : zpc m (i + 1) = pc + 2 := by simpa [zfall, zn] using hn
    obtain ⟨v, r, rfl, hv, h⟩ := zkv_e h
    rcases hv with rfl | ⟨b, rfl⟩
    · exact lv_astoreN hx hb hd hlv (by simpa [zlk] using hl) (zs_map ad lv _ .null) (fun ls' hl' => by have k := h p e R s mm args below meth c A H locs ls' hO hA hP hD hS hl'; rw [nx] at k; exact k)
    · exact lv_astore hx hb hd hlv (by simpa [zlk] using hl) (zs_map ad lv _ (.ref b)) (fun ls' hl' => by have k := h p e R s mm args below meth c A H locs ls' hO hA hP hD hS hl'; rw [nx] at k; exact k)
  | astore_n k =>
    have nx : zpc m (i + 1) = pc + 1 := by simpa [zfall, zn] using hn
    obtain ⟨v, r, rfl, hv, h⟩ := zkv_e h
    rcases hv with rfl | ⟨b, rfl⟩
    · exact lv_astore_nN hx hb hd rfl hlv (by simpa [zlk] using hl) (zs_map ad lv _ .null) (fun ls' hl' => by have k := h p e R s mm args below meth c A H locs ls' hO hA hP hD hS hl'; rw [nx] at k; exact k)
    · exact lv_astore_n hx hb hd rfl hlv (by simpa [zlk] using hl) (zs_map ad lv _ (.ref b)) (fun ls' hl' => by have k := h p e R s mm args below meth c A H locs ls' hO hA hP hD hS hl'; rw [nx] at k; exact k)
  | iinc k n =>
    have nx : zpc m (i + 1) = pc + 3 := by simpa [zfall, zn] using hn
    obtain ⟨x, hg, h⟩ := h
    obtain ⟨q, hq⟩ := List.getElem?_of_mem (List.mem_map.mpr ⟨(k, .int x), zg_mem hg, rfl⟩ : (k, zv ad (.int x)) ∈ zlm ad lv)
    exact lv_iinc (k := q) (v := x + Int32.ofInt n) hx hb hd hlv hq rfl (by simpa [zlk] using hl) (zs_map ad lv _ (.int (x + Int32.ofInt n))) (fun ls' hl' => by have k := h p e R s mm args below meth c A H locs ls' hO hA hP hD hS hl'; rw [nx] at k; exact k)
  | iadd =>
    have nx : zpc m (i + 1) = pc + 1 := by simpa [zfall, zn] using hn
    obtain ⟨x, y, r, rfl, h⟩ := zk2_e h
    exact lv_iadd hx hb hd (by have k := h p e R s mm args below meth c A H locs ls hO hA hP hD hS hlv; rw [nx] at k; exact k)
  | isub =>
    have nx : zpc m (i + 1) = pc + 1 := by simpa [zfall, zn] using hn
    obtain ⟨x, y, r, rfl, h⟩ := zk2_e h
    exact lv_isub hx hb hd (by have k := h p e R s mm args below meth c A H locs ls hO hA hP hD hS hlv; rw [nx] at k; exact k)
  | imul =>
    have nx : zpc m (i + 1) = pc + 1 := by simpa [zfall, zn] using hn
    obtain ⟨x, y, r, rfl, h⟩ := zk2_e h
    exact lv_imul hx hb hd (by have k := h p e R s mm args below meth c A H locs ls hO hA hP hD hS hlv; rw [nx] at k; exact k)
  | iand =>
    have nx : zpc m (i + 1) = pc + 1 := by simpa [zfall, zn] using hn
    obtain ⟨x, y, r, rfl, h⟩ := zk2_e h
    exact lv_iand hx hb hd (by have k := h p e R s mm args below meth c A H locs ls hO hA hP hD hS hlv; rw [nx] at k; exact k)
  | ior =>
    have nx : zpc m (i + 1) = pc + 1 := by simpa [zfall, zn] using hn
    obtain ⟨x, y, r, rfl, h⟩ := zk2_e h
    exact lv_ior hx hb hd (by have k := h p e R s mm args below meth c A H locs ls hO hA hP hD hS hlv; rw [nx] at k; exact k)
  | ixor =>
    have nx : zpc m (i + 1) = pc + 1 := by simpa [zfall, zn] using hn
    obtain ⟨x, y, r, rfl, h⟩ := zk2_e h
    exact lv_ixor hx hb hd (by have k := h p e R s mm args below meth c A H locs ls hO hA hP hD hS hlv; rw [nx] at k; exact k)
  | ishl =>
    have nx : zpc m (i + 1) = pc + 1 := by simpa [zfall, zn] using hn
    obtain ⟨x, y, r, rfl, h⟩ := zk2_e h
    exact lv_ishl hx hb hd (by have k := h p e R s mm args below meth c A H locs ls hO hA hP hD hS hlv; rw [nx] at k; exact k)
  | ishr =>
    have nx : zpc m (i + 1) = pc + 1 := by simpa [zfall, zn] using hn
    obtain ⟨x, y, r, rfl, h⟩ := zk2_e h
    exact lv_ishr hx hb hd (by have k := h p e R s mm args below meth c A H locs ls hO hA hP hD hS hlv; rw [nx] at k; exact k)
  | idiv =>
    have nx : zpc m (i + 1) = pc + 1 := by simpa [zfall, zn] using hn
    obtain ⟨x, y, r, rfl, h0, h⟩ := zk2_e h
    exact lv_idiv hx hb hd h0 (by have k := h p e R s mm args below meth c A H locs ls hO hA hP hD hS hlv; rw [nx] at k; exact k)
  | irem =>
    have nx : zpc m (i + 1) = pc + 1 := by simpa [zfall, zn] using hn
    obtain ⟨x, y, r, rfl, h0, h⟩ := zk2_e h
    exact lv_irem hx hb hd h0 (by have k := h p e R s mm args below meth c A H locs ls hO hA hP hD hS hlv; rw [nx] at k; exact k)
  | iushr =>
    have nx : zpc m (i + 1) = pc + 1 := by simpa [zfall, zn] using hn
    obtain ⟨x, y, r, rfl, h⟩ := zk2_e h
    exact lv_iushr hx hb hd rfl (by have k := h p e R s mm args below meth c A H locs ls hO hA hP hD hS hlv; rw [nx] at k; exact k)
  | ineg =>
    have nx : zpc m (i + 1) = pc + 1 := by simpa [zfall, zn] using hn
    obtain ⟨x, r, rfl, h⟩ := zk1_e h
    exact lv_ineg hx hb hd (by have k := h p e R s mm args below meth c A H locs ls hO hA hP hD hS hlv; rw [nx] at k; exact k)
  | i2l =>
    have nx : zpc m (i + 1) = pc + 1 := by simpa [zfall, zn] using hn
    obtain ⟨x, r, rfl, h⟩ := zk1_e h
    exact lv_i2l hx hb hd rfl (by have k := h p e R s mm args below meth c A H locs ls hO hA hP hD hS hlv; rw [nx] at k; exact k)
  | i2b =>
    have nx : zpc m (i + 1) = pc + 1 := by simpa [zfall, zn] using hn
    obtain ⟨x, r, rfl, h⟩ := zk1_e h
    exact lv_i2b hx hb hd rfl (by have k := h p e R s mm args below meth c A H locs ls hO hA hP hD hS hlv; rw [nx] at k; exact k)
  | i2s =>
    have nx : zpc m (i + 1) = pc + 1 := by simpa [zfall, zn] using hn
    obtain ⟨x, r, rfl, h⟩ := zk1_e h
    exact lv_i2s hx hb hd rfl (by have k := h p e R s mm args below meth c A H locs ls hO hA hP hD hS hlv; rw [nx] at k; exact k)
  | l2i =>
    have nx : zpc m (i + 1) = pc + 1 := by simpa [zfall, zn] using hn
    obtain ⟨x, r, rfl, h⟩ := zk1l_e h
    exact lv_l2i hx hb hd rfl (by have k := h p e R s mm args below meth c A H locs ls hO hA hP hD hS hlv; rw [nx] at k; exact k)
  | ladd =>
    have nx : zpc m (i + 1) = pc + 1 := by simpa [zfall, zn] using hn
    obtain ⟨x, y, r, rfl, h⟩ := zk2l_e h
    exact lv_ladd hx hb hd (by have k := h p e R s mm args below meth c A H locs ls hO hA hP hD hS hlv; rw [nx] at k; exact k)
  | lmul =>
    have nx : zpc m (i + 1) = pc + 1 := by simpa [zfall, zn] using hn
    obtain ⟨x, y, r, rfl, h⟩ := zk2l_e h
    exact lv_lmul hx hb hd (by have k := h p e R s mm args below meth c A H locs ls hO hA hP hD hS hlv; rw [nx] at k; exact k)
  | land =>
    have nx : zpc m (i + 1) = pc + 1 := by simpa [zfall, zn] using hn
    obtain ⟨x, y, r, rfl, h⟩ := zk2l_e h
    exact lv_land hx hb hd (by have k := h p e R s mm args below meth c A H locs ls hO hA hP hD hS hlv; rw [nx] at k; exact k)
  | lor =>
    have nx : zpc m (i + 1) = pc + 1 := by simpa [zfall, zn] using hn
    obtain ⟨x, y, r, rfl, h⟩ := zk2l_e h
    exact lv_lor hx hb hd (by have k := h p e R s mm args below meth c A H locs ls hO hA hP hD hS hlv; rw [nx] at k; exact k)
  | lcmp =>
    have nx : zpc m (i + 1) = pc + 1 := by simpa [zfall, zn] using hn
    obtain ⟨x, y, r, rfl, h⟩ := zk2l_e h
    exact W.lcmp hx hb hd (by have k := h p e R s mm args below meth c A H locs ls hO hA hP hD hS hlv; rw [nx] at k; exact k)
  | lshl =>
    have nx : zpc m (i + 1) = pc + 1 := by simpa [zfall, zn] using hn
    obtain ⟨x, y, r, rfl, h⟩ := zkil_e h
    exact lv_lshl hx hb hd rfl (by have k := h p e R s mm args below meth c A H locs ls hO hA hP hD hS hlv; rw [nx] at k; exact k)
  | lshr =>
    have nx : zpc m (i + 1) = pc + 1 := by simpa [zfall, zn] using hn
    obtain ⟨x, y, r, rfl, h⟩ := zkil_e h
    exact lv_lshr hx hb hd rfl (by have k := h p e R s mm args below meth c A H locs ls hO hA hP hD hS hlv; rw [nx] at k; exact k)
  | lushr =>
    have nx : zpc m (i + 1) = pc + 1 := by simpa [zfall, zn] using hn
    obtain ⟨x, y, r, rfl, h⟩ := zkil_e h
    exact lv_lushr hx hb hd rfl (by have k := h p e R s mm args below meth c A H locs ls hO hA hP hD hS hlv; rw [nx] at k; exact k)
  | dup =>
    have nx : zpc m (i + 1) = pc + 1 := by simpa [zfall, zn] using hn
    obtain ⟨v, r, rfl, hc, h⟩ := zkv_e h
    exact lv_dup hx hb hd (by rw [zv_cat]; exact hc) (by have k := h p e R s mm args below meth c A H locs ls hO hA hP hD hS hlv; rw [nx] at k; exact k)
  | dup2 =>
    have nx : zpc m (i + 1) = pc + 1 := by simpa [zfall, zn] using hn
    obtain ⟨v, r, rfl, h⟩ := zkv_e h
    obtain ⟨w, q, rfl, hc, hc2, h⟩ := zkv_e h
    exact lv_dup2_11 hx hb hd (by rw [zv_cat]; exact hc) (by rw [zv_cat]; exact hc2) (by have k := h p e R s mm args below meth c A H locs ls hO hA hP hD hS hlv; rw [nx] at k; exact k)
  | pop =>
    have nx : zpc m (i + 1) = pc + 1 := by simpa [zfall, zn] using hn
    obtain ⟨v, r, rfl, hc, h⟩ := zkv_e h
    exact lv_pop hx hb hd (by rw [zv_cat]; exact hc) (by have k := h p e R s mm args below meth c A H locs ls hO hA hP hD hS hlv; rw [nx] at k; exact k)
  | goto off =>
    have ht : (pc : Int) + off = (zpc m (zL L 0) : Int) := by simpa [zlk] using hl
    exact lv_goto hx hb hd ht (h p e R s mm args below meth c A H locs ls hO hA hP hD hS hlv)
  | ifCond cd off =>
    have nx : zpc m (i + 1) = pc + 3 := by simpa [zfall, zn] using hn
    have ht : (pc : Int) + off = (zpc m (zL L 0) : Int) := by simpa [zlk] using hl
    obtain ⟨x, r, rfl, h⟩ := zk1_e h
    cases cd with
    | eq => exact lv_if_eq hx hb hd ht (fun hc => h.1 hc p e R s mm args below meth c A H locs ls hO hA hP hD hS hlv) (fun hc => by have k := h.2 hc p e R s mm args below meth c A H locs ls hO hA hP hD hS hlv; rw [nx] at k; exact k)
    | ne => exact lv_if_ne hx hb hd ht (fun hc => h.1 hc p e R s mm args below meth c A H locs ls hO hA hP hD hS hlv) (fun hc => by have k := h.2 (fun q => q hc) p e R s mm args below meth c A H locs ls hO hA hP hD hS hlv; rw [nx] at k; exact k)
    | lt => exact lv_if_lt hx hb hd ht (fun hc => h.1 hc p e R s mm args below meth c A H locs ls hO hA hP hD hS hlv) (fun hc => by have k := h.2 hc p e R s mm args below meth c A H locs ls hO hA hP hD hS hlv; rw [nx] at k; exact k)
    | ge => exact lv_if_ge hx hb hd ht (fun hc => h.1 hc p e R s mm args below meth c A H locs ls hO hA hP hD hS hlv) (fun hc => by have k := h.2 hc p e R s mm args below meth c A H locs ls hO hA hP hD hS hlv; rw [nx] at k; exact k)
    | gt => exact lv_if_gt hx hb hd ht (fun hc => h.1 hc p e R s mm args below meth c A H locs ls hO hA hP hD hS hlv) (fun hc => by have k := h.2 hc p e R s mm args below meth c A H locs ls hO hA hP hD hS hlv; rw [nx] at k; exact k)
    | le => exact lv_if_le hx hb hd ht (fun hc => h.1 hc p e R s mm args below meth c A H locs ls hO hA hP hD hS hlv) (fun hc => by have k := h.2 hc p e R s mm args below meth c A H locs ls hO hA hP hD hS hlv; rw [nx] at k; exact k)
  | if_icmp cd off =>
    have nx : zpc m (i + 1) = pc + 3 := by simpa [zfall, zn] using hn
    have ht : (pc : Int) + off = (zpc m (zL L 0) : Int) := by simpa [zlk] using hl
    obtain ⟨x, y, r, rfl, h⟩ := zk2_e h
    cases cd with
    | eq => exact lv_icmp_eq hx hb hd ht (fun hc => h.1 hc p e R s mm args below meth c A H locs ls hO hA hP hD hS hlv) (fun hc => by have k := h.2 hc p e R s mm args below meth c A H locs ls hO hA hP hD hS hlv; rw [nx] at k; exact k)
    | ne => exact lv_icmp_ne hx hb hd ht (fun hc => h.1 hc p e R s mm args below meth c A H locs ls hO hA hP hD hS hlv) (fun hc => by have k := h.2 (fun q => q hc) p e R s mm args below meth c A H locs ls hO hA hP hD hS hlv; rw [nx] at k; exact k)
    | lt => exact lv_icmp_lt hx hb hd ht (fun hc => h.1 hc p e R s mm args below meth c A H locs ls hO hA hP hD hS hlv) (fun hc => by have k := h.2 hc p e R s mm args below meth c A H locs ls hO hA hP hD hS hlv; rw [nx] at k; exact k)
    | ge => exact lv_icmp_ge hx hb hd ht (fun hc => h.1 hc p e R s mm args below meth c A H locs ls hO hA hP hD hS hlv) (fun hc => by have k := h.2 hc p e R s mm args below meth c A H locs ls hO hA hP hD hS hlv; rw [nx] at k; exact k)
    | gt => exact lv_icmp_gt hx hb hd ht (fun hc => h.1 hc p e R s mm args below meth c A H locs ls hO hA hP hD hS hlv) (fun hc => by have k := h.2 hc p e R s mm args below meth c A H locs ls hO hA hP hD hS hlv; rw [nx] at k; exact k)
    | le => exact lv_icmp_le hx hb hd ht (fun hc => h.1 hc p e R s mm args below meth c A H locs ls hO hA hP hD hS hlv) (fun hc => by have k := h.2 hc p e R s mm args below meth c A H locs ls hO hA hP hD hS hlv; rw [nx] at k; exact k)
  | ifnull off =>
    have nx : zpc m (i + 1) = pc + 3 := by simpa [zfall, zn] using hn
    have ht : (pc : Int) + off = (zpc m (zL L 0) : Int) := by simpa [zlk] using hl
    obtain ⟨v, r, rfl, h1, h2, hv⟩ := zkv_e h
    rcases hv with rfl | ⟨b, rfl⟩
    · exact lv_ifnullN hx hb hd ht (h1 rfl p e R s mm args below meth c A H locs ls hO hA hP hD hS hlv)
    · exact lv_ifnull hx hb hd (by have k := h2 b rfl p e R s mm args below meth c A H locs ls hO hA hP hD hS hlv; rw [nx] at k; exact k)
  | ifnonnull off =>
    have nx : zpc m (i + 1) = pc + 3 := by simpa [zfall, zn] using hn
    have ht : (pc : Int) + off = (zpc m (zL L 0) : Int) := by simpa [zlk] using hl
    obtain ⟨v, r, rfl, h1, h2, hv⟩ := zkv_e h
    rcases hv with rfl | ⟨b, rfl⟩
    · exact lv_ifnonnullN hx hb hd (by have k := h1 rfl p e R s mm args below meth c A H locs ls hO hA hP hD hS hlv; rw [nx] at k; exact k)
    · exact lv_ifnonnull hx hb hd ht (h2 b rfl p e R s mm args below meth c A H locs ls hO hA hP hD hS hlv)
  | tableswitch dflt lo hi offs =>
    obtain ⟨x, r, rfl, h1, h2⟩ := zk1_e h
    simp only [zlk, Bool.and_eq_true, decide_eq_true_eq] at hl
    obtain ⟨hl1, hl2⟩ := hl
    by_cases hin : x.toInt < lo ∨ hi < x.toInt
    · exact lv_tableOut hx hb hd hin hl1 (h1 hin p e R s mm args below meth c A H locs ls hO hA hP hD hS hlv)
    · have a1 : ¬ x.toInt < lo := fun q => hin (Or.inl q)
      have a2 : ¬ hi < x.toInt := fun q => hin (Or.inr q)
      have h3 := List.all_eq_true.mp hl2 (x.toInt - lo).toNat (List.mem_range.mpr (by omega))
      cases ho : offs[(x.toInt - lo).toNat]? with
      | none => rw [ho] at h3; cases h3
      | some off =>
        rw [ho] at h3
        exact lv_tableIn hx hb hd a1 a2 ho (by simpa using h3) (h2 a1 a2 p e R s mm args below meth c A H locs ls hO hA hP hD hS hlv)
  | getfield k =>
    have nx : zpc m (i + 1) = pc + 3 := by simpa [zfall, zn] using hn
    obtain ⟨b, r, rfl, v, hf, h⟩ := zkr_e h
    simp only [zlk, Bool.and_eq_true, decide_eq_true_eq] at hl
    obtain ⟨hl1, hl2⟩ := hl
    unfold zf at hf
    split at hf
    · rename_i ci fl hly
      split at hf
      · rename_i hci
        subst hci
        cases hfl : fl[zL L 1]? with
        | none => rw [hfl] at hf; cases hf
        | some o =>
          rw [hfl] at hf
          unfold zfl at hl1 hl2
          cases hcl : vwCl[zL L 0]? with
          | none => rw [hcl] at hl1; exact absurd rfl hl1
          | some q =>
            simp only [hcl] at hl1 hl2
            split at hl1
            · rename_i hk
              rw [if_pos hk] at hl2
              obtain ⟨hin, -, -⟩ := zcl_sp _ q hcl
              refine va_get (C := q.1) (T := q.2.1) (N := q.2.2) hx hb hts hin hown hK hP b (zW_get hly) hcl (zL L 1) hk (hts _ (zin hl2 rfl)) (fun _ h => h) (v := zv ad v) ?_ hd (by have k := h p e R s mm args below meth c A H locs ls hO hA hP hD hS hlv; rw [nx] at k; exact k)
              rw [List.getElem?_mapIdx, hfl]
              cases o with
              | none => cases hf; rfl
              | some w => cases hf; rfl
            · exact absurd rfl hl1
      · cases hf
    · cases hf
  | putfield k =>
    have nx : zpc m (i + 1) = pc + 3 := by simpa [zfall, zn] using hn
    obtain ⟨x, b, r, rfl, hf, hty, h⟩ := zkir_e h
    simp only [zlk, Bool.and_eq_true, decide_eq_true_eq, Bool.not_eq_true'] at hl
    obtain ⟨⟨hl1, hl2⟩, hl3⟩ := hl
    unfold zfi at hf
    split at hf
    · rename_i ci fl hly
      simp only [Bool.and_eq_true, beq_iff_eq] at hf
      obtain ⟨hci, hfl⟩ := hf
      subst hci
      unfold zfl at hl1 hl2
      unfold zfd at hty
      unfold zfin at hl3
      cases hcl : vwCl[zL L 0]? with
      | none => rw [hcl] at hl1; exact absurd rfl hl1
      | some q =>
        simp only [hcl] at hl1 hl2 hl3 hty
        split at hl1
        · rename_i hk
          rw [if_pos hk] at hl2
          obtain ⟨hin, ⟨ty, hty2⟩, hnm⟩ := zcl_sp _ q hcl
          have hfn : narrow (ty (zL L 1)) (.int x) = .int x ∧ fits (ty (zL L 1)) (.int x) = true := by
            have hp := hty2 _ hk
            rcases hty with hz | ⟨hz, hx01⟩
            · rw [hz] at hp
              have e1 : ty (zL L 1) = .int := (Option.some.inj ((by decide +kernel : parseFieldDescriptor "I" = some .int).symm.trans hp)).symm
              rw [e1]
              exact ⟨rfl, rfl⟩
            · rw [hz] at hp
              have e1 : ty (zL L 1) = .boolean := (Option.some.inj ((by decide +kernel : parseFieldDescriptor "Z" = some .boolean).symm.trans hp)).symm
              rw [e1]
              rcases hx01 with rfl | rfl <;> exact ⟨by decide +kernel, by decide +kernel⟩
          have hlen : zL L 1 < (fl.mapIdx (fun j o => match o with | some r => Value.ref (ad r) | none => .int (σ b j))).length := by
            rw [List.length_mapIdx]
            exact (List.getElem?_eq_some_iff.mp hfl).1
          refine va_put (v := .int x) (C := q.1) (T := q.2.1) (N := q.2.2) hx hb hts hin ty hty2 hnm hown hK hP hD hS b (zW_get hly) hcl (zL L 1) hk (hts _ (zin hl2 rfl)) (fun _ h => h) hl3 (hty2 _ hk) hfn.1 hfn.2 hlen hd (fun H1 locs1 hP1 hD1 hS1 => ?_)
          have hset : (zW ad cA cS σ).set b (ad b, .inr (zL L 0, (fl.mapIdx (fun j o => match o with | some r => Value.ref (ad r) | none => .int (σ b j))).set (zL L 1) (.int x))) = zW ad cA cS (zu σ b (zL L 1) x) := by
            refine Eq.trans ?_ (zW_set hly (fun k hk => zu_ne hk))
            congr 2
            unfold zce
            congr 2
            refine List.ext_getElem? fun j => ?_
            rw [List.getElem?_set, List.getElem?_mapIdx, List.getElem?_mapIdx]
            by_cases hj : zL L 1 = j
            · subst hj
              rw [if_pos rfl, if_pos hlen, hfl]
              show _ = some (Value.int (zu σ b (zL L 1) x b (zL L 1)))
              rw [zu_eq]
              simp [upd]
            · rw [if_neg hj]
              cases fl[j]? with
              | none => rfl
              | some o =>
                cases o with
                | some w => rfl
                | none =>
                  show some (Value.int (σ b j)) = some (Value.int (zu σ b (zL L 1) x b j))
                  rw [zu_eq]
                  simp [upd, Ne.symm hj]
          rw [hset] at hP1 hD1
          have k := h p e R s mm args below meth c A H1 locs1 ls hO hA hP1 hD1 hS1 hlv
          rw [nx] at k
          exact k
        · exact absurd rfl hl1
    · cases hf
  | iaload =>
    have nx : zpc m (i + 1) = pc + 1 := by simpa [zfall, zn] using hn
    obtain ⟨x, b, r, rfl, n, hly, hin, h⟩ := zkir_e h
    exact va_iald hx hb hK hP b 0 (zW_get hly) rfl hin hd (by have k := h p e R s mm args below meth c A H locs ls hO hA hP hD hS hlv; rw [nx] at k; exact k)
  | iastore =>
    have nx : zpc m (i + 1) = pc + 1 := by simpa [zfall, zn] using hn
    obtain ⟨x, j, b, r, rfl, n, hly, hin, h⟩ := zkiir_e h
    refine va_iast hx hb hK hP hD hS b 0 (zW_get hly) rfl hin hd (fun H1 locs1 hP1 hD1 hS1 => ?_)
    have hset : (zW ad cA cS σ).set b (ad b, .inl (cA, n, .inl (upd (σ b) j.toNatClampNeg x))) = zW ad cA cS (zu σ b j.toNatClampNeg x) := by
      refine Eq.trans ?_ (zW_set hly (fun k hk => zu_ne hk))
      unfold zce
      rw [zu_eq]
    rw [hset] at hP1 hD1
    have k := h p e R s mm args below meth c A H1 locs1 ls hO hA hP1 hD1 hS1 hlv
    rw [nx] at k
    exact k
  | aaload =>
    have nx : zpc m (i + 1) = pc + 1 := by simpa [zfall, zn] using hn
    obtain ⟨x, b, r, rfl, rs, q, hly, hin, hq, h⟩ := zkir_e h
    refine va_aldq hx hb hK hP b 1 (zW_get hly) rfl hin hd ?_
    rw [hq]
    exact (by have k := h p e R s mm args below meth c A H locs ls hO hA hP hD hS hlv; rw [nx] at k; exact k)
  | arraylength =>
    have nx : zpc m (i + 1) = pc + 1 := by simpa [zfall, zn] using hn
    obtain ⟨b, r, rfl, n, hly, h⟩ := zkr_e h
    rcases hly with hly | ⟨rs, hly, rfl⟩
    · exact va_alen hx hb hK hP b 0 (zW_get hly) rfl rfl hd (by have k := h p e R s mm args below meth c A H locs ls hO hA hP hD hS hlv; rw [nx] at k; exact k)
    · exact va_alen hx hb hK hP b 1 (zW_get hly) rfl rfl hd (by have k := h p e R s mm args below meth c A H locs ls hO hA hP hD hS hlv; rw [nx] at k; exact k)
  | ireturn =>
    obtain ⟨x, r, rfl, rfl, hty, h⟩ := zk1_e h
    have post : ∀ t : State, t.heap = H → s.WarmedH t.vm → zPo D ad cA cS Q A args s (.returned (some (.int x))) t := fun t ht hW => ⟨⟨some (.int x), σ, rfl, h, by rw [ht]; exact hP, va_K.moved hW.alike hK, fun a i x h hh => va_Nw.warmM hW (hNs a i x h hh), hD⟩, hS.F ht⟩
    rcases hty with hty | ⟨hty, hx01⟩
    · exact W.iret hx hb (hr.trans hty) post hS.2.2 hd
    · exact W.zret hx hb (hr.trans hty) (by rcases hx01 with rfl | rfl <;> decide +kernel) post hS.2.2 hd
  | areturn =>
    obtain ⟨v, r, rfl, rfl, hv, hty, h⟩ := zkv_e h
    have post : ∀ t : State, t.heap = H → s.WarmedH t.vm → zPo D ad cA cS Q A args s (.returned (some (zv ad v))) t := fun t ht hW => ⟨⟨some v, σ, rfl, h, by rw [ht]; exact hP, va_K.moved hW.alike hK, fun a i x h hh => va_Nw.warmM hW (hNs a i x h hh), hD⟩, hS.F ht⟩
    exact W.aret hx hb (hr.trans hty) (Or.inl ⟨_, rfl⟩) (by rcases hv with rfl | ⟨b, rfl⟩; exact Or.inl rfl; exact Or.inr ⟨_, rfl⟩) post hS.2.2 hd
  | return_ =>
    obtain ⟨rfl, hty, h⟩ := h
    have post : ∀ t : State, t.heap = H → s.WarmedH t.vm → zPo D ad cA cS Q A args s (.returned none) t := fun t ht hW => ⟨⟨none, σ, rfl, h, by rw [ht]; exact hP, va_K.moved hW.alike hK, fun a i x h hh => va_Nw.warmM hW (hNs a i x h hh), hD⟩, hS.F ht⟩
    exact W.vret hx hb (hr.trans hty) post hS.2.2 hd
  | invokevirtual k =>
    have nx : zpc m (i + 1) = pc + 3 := by simpa [zfall, zn] using hn
    obtain ⟨b, as, rest, rfl, hlen, hfit, hcls, hcat, d', rfl, Q', h1, h2⟩ := h
    simp only [zlk, Bool.and_eq_true, decide_eq_true_eq] at hl
    obtain ⟨⟨⟨⟨l1, l2⟩, l3⟩, l4⟩, l5⟩ := hl
    obtain ⟨n1, n2, n3, n4, n5, n6⟩ := zokN_sp l4
    have hM := zMet l4 hfit h1 H.size
    have hcl : ∃ q fl, vwCl[zci (zL L 0)]? = some q ∧ q.1 = zo (zL L 0) ∧ zLy[b]? = some (.inr (.inl (zci (zL L 0), fl))) := by
      have h6 := n6 l5
      cases hq : vwCl[zci (zL L 0)]? with
      | none => rw [hq] at h6; cases h6
      | some q =>
        rw [hq] at h6
        unfold zcls at hcls
        split at hcls
        · rename_i ci fl hly
          subst hcls
          exact ⟨q, fl, rfl, Option.some.inj h6, hly⟩
        · omega
    obtain ⟨q, fl, hq1, hq2, hq3⟩ := hcl
    have hrv := va_recv hK hP hq1 (zW_get hq3)
    rw [hq2] at hrv
    refine zgo (rest := rest.map (zv ad)) (va_runV (As := as.map (zv ad)) (b := ad b) (C := zo (zL L 0)) (index := k) (bytes := zb (zL L 0)) (maxL := zl (zL L 0)) (ret := zr (zL L 0)) (n := znp (zL L 0)) (cc := zb m) (nL := zl m) (own := zo m) ⟨hx, hb, hml, hown, hts⟩ hM ⟨callB_of _ hts (fun w hw => ?_) rfl rfl rfl (hts _ n2) (hts _ (zin l1 rfl)) n4 ⟨by show d' + 1 ≤ _; exact hRf0, by show 8 + (zl (zL L 0) + 11) + 32 * d' ≤ _; omega⟩, hts _ (zin l2 rfl), hts _ (zin l3 rfl)⟩ ⟨zblind, hrv, fun U hU hW => zpre hP hD hK hNs hU hW⟩ rfl (by rw [List.length_map]; exact hlen) hlv.1 (by simp [zv]) (lv_room (by rw [zcat_map]; exact hcat)) hd ⟨Nat.zero_le _, Nat.zero_le _⟩) hS (zfree (D := D) hD hS hA) (fun r σ' H1 locs1 hq hP1 hD1 hS1 => ?_)
    · rcases List.mem_cons.mp hw with rfl | hw
      · exact zTb_good _ n1
      · exact zTb_good _ hw
    · have kk := h2 r σ' hq p e R s mm args below meth c A H1 locs1 ls hO hA hP1 hD1 hS1 hlv
      rw [nx] at kk
      cases r <;> simpa using kk
  | invokestatic k =>
    have nx : zpc m (i + 1) = pc + 3 := by simpa [zfall, zn] using hn
    by_cases h9 : zL L 0 = 999
    · simp only [zI, if_pos h9] at h
      simp only [zlk, if_pos h9, Bool.and_eq_true, decide_eq_true_eq] at hl
      obtain ⟨⟨⟨l1, l2⟩, l3⟩, l4⟩ := hl
      obtain ⟨n, dp, b, sp, a, r, rfl, n0, n1, hy0, hy1, g1, g2, g3, g4, g5, g6, g7, h⟩ := zkcp_e h
      refine va_copyi hx hb (hml.trans hlv.1.symm) hown (hts _ (zin l1 rfl)) (hts _ (zin l2 rfl)) (hts _ (zin l3 rfl)) (hts _ (zin l4 rfl)) hK hP hD hS a b 0 0 (zW_get hy0) (zW_get hy1) rfl rfl rfl g1 g2 g3 g4 g5 (fun _ _ => rfl) (by omega) ?_ hd (fun H1 locs1 hP1 hD1 hS1 => ?_)
      · rw [zcat_map]
        have : nativeFrameWords "java/lang/System" "arraycopy" 5 ≤ 13 := by decide +kernel
        omega
      · have hset : (zW ad cA cS σ).set b (ad b, .inl (cA, n1, .inl (va_cpy (σ a) (σ b) sp.toNatClampNeg dp.toNatClampNeg n.toNatClampNeg))) = zW ad cA cS (zcp σ a b sp.toNatClampNeg dp.toNatClampNeg n.toNatClampNeg) := by
          refine Eq.trans ?_ (zW_set hy1 (fun k hk => zcp_ne hk))
          unfold zce
          rw [zcp_eq]
        rw [hset] at hP1 hD1
        have k := h p e R s mm args below meth c A H1 locs1 ls hO hA hP1 hD1 hS1 hlv
        rw [nx] at k
        exact k
    · simp only [zI, if_neg h9] at h
      simp only [zlk, if_neg h9, Bool.and_eq_true, decide_eq_true_eq] at hl
      obtain ⟨⟨l1, l2⟩, l4⟩ := hl
      obtain ⟨as, rest, rfl, hlen, hfit, hcat, d', rfl, Q', h1, h2⟩ := h
      obtain ⟨n1, n2, n3, n4, n5, n6⟩ := zokN_sp l4
      have hM := zMet l4 hfit h1 H.size
      have hG : GoodIn zTb (zws (zL L 0)) := fun w hw => by
        rcases List.mem_cons.mp hw with rfl | hw
        · exact zTb_good _ n1
        · exact zTb_good _ hw
      have hRun : va_Run p l e R s mm args below meth c H locs 0 0 0 0 (F0 mm pc ls ((as.reverse ++ rest).map (zv ad))) (rest.map (zv ad)) (zPo D ad cA cS Q' (va_A (zW ad cA cS σ) H.size) (as.map (zv ad)).toArray) (va_A (zW ad cA cS σ) H.size) := by
        rcases l1 with l1 | l1
        · exact va_runS (As := as.map (zv ad)) (index := k) (bytes := zb (zL L 0)) (maxL := zl (zL L 0)) (ret := zr (zL L 0)) (n := znp (zL L 0)) (cc := zb m) (nL := zl m) (own := zo m) ⟨hx, hb, hml, hown, hts⟩ hM ⟨callB_of _ hts hG rfl rfl rfl (hts _ n2) (hts _ (zin l1 rfl)) n4 ⟨by show d' + 1 ≤ _; exact hRf0, by show 8 + (zl (zL L 0) + 11) + 32 * d' ≤ _; omega⟩, hts _ (zin l2 rfl)⟩ ⟨zblind, fun U hU hW => zpre hP hD hK hNs hU hW⟩ rfl (by rw [List.length_map]; exact hlen) hlv.1 (by simp) (lv_room (by rw [zcat_map]; exact hcat)) hd ⟨Nat.zero_le _, Nat.zero_le _⟩
        · exact va_runSN (As := as.map (zv ad)) (index := k) (bytes := zb (zL L 0)) (maxL := zl (zL L 0)) (ret := zr (zL L 0)) (n := znp (zL L 0)) (cc := zb m) (nL := zl m) (own := zo m) (host := "ToothStones") ⟨hx, hb, hml, hown, hts⟩ hM ⟨va_cnB _ hts hG rfl rfl rfl (hNs _ _ _ _ (List.mem_of_getElem? l1)) (hts _ n2) n4 ⟨by show d' + 1 ≤ _; exact hRf0, by show 8 + (zl (zL L 0) + 11) + 32 * d' ≤ _; omega⟩, hts _ (zin l2 rfl), trivial⟩ ⟨zblind, fun U hU hW => zpre hP hD hK hNs hU hW⟩ rfl (by rw [List.length_map]; exact hlen) hlv.1 (by simp) (lv_room (by rw [zcat_map]; exact hcat)) hd ⟨Nat.zero_le _, Nat.zero_le _⟩
      refine zgo (rest := rest.map (zv ad)) hRun hS (zfree (D := D) hD hS hA) (fun r σ' H1 locs1 hq hP1 hD1 hS1 => ?_)
      have kk := h2 r σ' hq p e R s mm args below meth c A H1 locs1 ls hO hA hP1 hD1 hS1 hlv
      rw [nx] at kk
      cases r <;> simpa using kk
  | _ => exact h.elim
