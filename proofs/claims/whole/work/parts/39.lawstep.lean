/-! from the small machine to the law: a call -/
theorem zSemWk (l : Launch) (D : va_G) (ad : Nat → Nat) (cA cS : ClassId) : zWk (zSem l D ad cA cS) := by
  intro d m i lv lv' st σ Q hsub h p e R s mm args below meth c A H locs ls hO hA hP hD hS hlv
  refine h p e R s mm args below meth c A H locs ls hO hA hP hD hS ⟨hlv.1, hlv.2.1, fun q hq => ?_⟩
  obtain ⟨q', hq', rfl⟩ := List.mem_map.mp hq
  exact hlv.2.2 _ (List.mem_map.mpr ⟨q', hsub q' hq', rfl⟩)
/-- behind a call, with room used -/
theorem zgoC {p : Program} {l : Launch} {e : Env} {R : Room} {s : State} {m : MethodId} {args : Array Value} {below : List Frame} {meth : Method} {c : Code} {H : Heap} {locs : List Loc} {cells slots : Nat} {Q : State → Prop} {D : va_G} {ad : Nat → Nat} {cA cS : ClassId} {Q' : Option Value → zM → Prop} {A A1 : Nat → Prop} {pc : Nat} {ls : Array Slot} {st0 rest : List Value} {a : Array Value} {H0 : Heap}
    (hr : va_Run p l e R s m args below meth c H locs cells slots 0 0 (F0 m pc ls st0) rest (zPo D ad cA cS Q' A1 a) A1) (hS : va_S A H0 H locs) (hA : ∀ q, A1 q → A q)
    (kk : ∀ (r : Option Value) (σ' : zM) (H1 : Heap) (locs1 : List Loc), Q' r σ' → va_P D vwCl (zW ad cA cS σ') H1 → va_D A (zW ad cA cS σ') → va_S A H0 H1 locs1 → W p l e R s m args below meth c H1 locs1 cells slots Q (F0 m (pc + 3) ls ((r.map (zv ad)).toList ++ rest))) : W p l e R s m args below meth c H locs cells slots Q (F0 m pc ls st0) := by
  intro T hT X
  obtain ⟨v, st₀, t, T', L, h0, X', hL, e1, e2, ⟨⟨r, σ', hv, hq, hP1, hK1, hN1, hD1⟩, hz, hk⟩, st⟩ := hr T hT X
  have hv' : v = r.map (zv ad) := by cases hv; rfl
  subst hv'
  rw [h0] at hz hk
  obtain ⟨t2, a1, b1⟩ := kk r σ' T'.heap (locs ++ L) hq (by rw [e1]; exact hP1) (hD1.weaken (fun _ q _ h => hA q.1 h))
    ⟨Nat.le_trans hS.1 (by rw [e1]; exact hz), fun q h1 h2 => by rw [e1, hk q (Nat.lt_of_lt_of_le h1 hS.1) (fun z => h2 (hA q z))]; exact hS.2.1 q h1 h2, fun q hq => by
      rcases List.mem_append.mp hq with h | h
      · exact hS.2.2 q h
      · exact hA _ (hL q h)⟩ T' rfl X'
  exact ⟨t2, st t2 a1, b1⟩
/-- what a call of the law's wants: the method, its object's place, the words -/
def zLk (mm bb index k1 k2 k3 n : Nat) : Prop := zw k1 = some (.methodLink R_law index (zy mm)) ∧ zw k2 = some (.instanceMethod (zy mm)) ∧ zw k3 = some (.selects (zo mm) (zy mm) (zy mm)) ∧ mm < 180 ∧ zci mm < 5 ∧ zcls bb = zci mm ∧ n = znp mm
section
variable {p : Program} {l : Launch} {e : Env} {s : State} {m : MethodId} {below : List Frame} {meth : Method} {c : Code} {b L : Nat} {xs : Nat → Int32} {D : va_G} {ad : Nat → Nat} {cA cS : ClassId} {H : Heap} {locs : List Loc} {cells slots : Nat} {Q : State → Prop}
theorem law_call (C0 : lw_At p s m meth c b L xs) (hK : va_K D vwCl (zTy cA cS) s) (hN : zNs s) {A : Nat → Prop} (hA : ∀ q, s.heap.size ≤ q → A q) {t : zMI} (hP : va_P D vwCl (zW ad cA cS (zlf t)) H) (hD : va_D A (zW ad cA cS (zlf t))) (hS : va_S A s.heap H locs) {ls : Array Slot} (hls : ls.size = 4) (hcl : cells ≤ 600000 ∧ slots ≤ 7302250)
    {mm bb index k1 k2 k3 pc : Nat} (As rest : List Value) (hk : zLk mm bb index k1 k2 k3 As.length) (hfit : (lg_sl (.ref bb :: As)).length ≤ zl mm) (hcat : zcat rest ≤ 8) (hdg : decode code pc = .ok (.invokevirtual index, 3)) {K : Int → zMI → Prop} (hZ : ZX 9 mm 0 (lv_args 0 (.ref bb :: As)) [] t (zKi K))
    (kk : ∀ (v : Int) (t1 : zMI) (H1 : Heap) (locs1 : List Loc), K v t1 → va_P D vwCl (zW ad cA cS (zlf t1)) H1 → va_D A (zW ad cA cS (zlf t1)) → va_S A s.heap H1 locs1 → W p l e room_1 s m #[Value.ref b] below meth c H1 locs1 cells slots Q (F0 m (pc + 3) ls (.int (zi v) :: rest.map (zv ad)))) :
    W p l e room_1 s m #[Value.ref b] below meth c H locs cells slots Q (F0 m pc ls ((As.map (zv ad)).reverse ++ .ref (ad bb) :: rest.map (zv ad))) := by
  obtain ⟨hx, hb, hr, hml, hown, hts, hX, hbl, hlocks, hgv⟩ := C0
  obtain ⟨l1, l2, l3, l4, l5, hcls, hlen⟩ := hk
  have hts' : ∀ w ∈ zTb, w.before #[Value.ref b] s = true := fun w hw => hts w (List.mem_filter.mp hw).1
  obtain ⟨n1, n2, n3, n4, n5, n6⟩ := zokN_sp l4
  have hM := zMet l4 hfit (hZ (zSem l D ad cA cS) (zSound l D ad cA cS) (zSemWk l D ad cA cS)) H.size
  have hcl2 : ∃ q fl, vwCl[zci mm]? = some q ∧ q.1 = zo mm ∧ zLy[bb]? = some (.inr (.inl (zci mm, fl))) := by
    have h6 := n6 l5
    cases hq : vwCl[zci mm]? with
    | none => rw [hq] at h6; cases h6
    | some q =>
      rw [hq] at h6
      unfold zcls at hcls
      split at hcls
      · rename_i ci fl hly
        subst hcls
        exact ⟨q, fl, rfl, Option.some.inj h6, hly⟩
      · omega
  obtain ⟨q, fl, hq1, hq2, hq3⟩ := hcl2
  have hrv := va_recv hK hP hq1 (zW_get hq3)
  rw [hq2] at hrv
  refine zgoC (rest := rest.map (zv ad)) (va_runV (As := As.map (zv ad)) (b := ad bb) (C := zo mm) (index := index) (bytes := zb mm) (maxL := zl mm) (ret := zr mm) (n := znp mm) (cc := code) (nL := 4) (own := R_law) ⟨hx, hb, hml, hown, hts'⟩ hM ⟨callB_of _ hts' (fun w hw => ?_) rfl rfl rfl (hts' _ n2) (hts' _ (zin l1 rfl)) n4 ⟨by show 9 + 1 ≤ 10; omega, by show 8 + (zl mm + 11) + 32 * 9 ≤ 400; omega⟩, hts' _ (zin l2 rfl), hts' _ (zin l3 rfl)⟩ ⟨zblind, hrv, fun U hU hW => zpre hP hD hK hN hU hW⟩ rfl (by rw [List.length_map]; exact hlen) hls (by simp) (lv_room (by rw [zcat_map]; exact hcat)) hdg ⟨hcl.1, hcl.2⟩) hS (zfree (D := D) hD hS hA) (fun r σ' H1 locs1 hq hP1 hD1 hS1 => ?_)
  · rcases List.mem_cons.mp hw with rfl | hw
    · exact zTb_good _ n1
    · exact zTb_good _ hw
  · obtain ⟨t1, rfl, v, rfl, hk⟩ := hq
    exact kk v t1 H1 locs1 hk hP1 hD1 hS1
end
