/-! the small machine: what an instruction asks and does over cells of ints; the least predicate closed under it -/
def zP (m : Nat) : List zR := zPl.getD m []
def zpc (m i : Nat) : Nat := match (zP m)[i]? with
  | some q => q.1
  | none => 0
def zy (m : Nat) : MethodName := (zme m).1
def zb (m : Nat) : ByteArray := (zme m).2.1
def zl (m : Nat) : Nat := (zme m).2.2.1
def zr (m : Nat) : Option FieldType := (zme m).2.2.2.1
def znp (m : Nat) : Nat := (zme m).2.2.2.2.1
def zci (m : Nat) : Nat := (zme m).2.2.2.2.2.1
def zo (m : Nat) : String := (zy m).cls
abbrev zT := Nat → Nat → Nat → List (Nat × Value) → List Value → zM → (Option Value → zM → Prop) → Prop
def zL (L : List Nat) (j : Nat) : Nat := L.getD j 0
def zg : List (Nat × Value) → Nat → Option Value
  | [], _ => none
  | q :: r, k => bif Nat.beq q.1 k then some q.2 else zg r k
def zs (lv : List (Nat × Value)) (k : Nat) (v : Value) : List (Nat × Value) := (k, v) :: lv.filter (fun q => !(q.1 == k) && !(q.1 + 1 == k && q.2.category == 2))
def zu (σ : zM) (r k : Nat) (x : Int32) : zM := fun r' k' => if r' = r then upd (σ r) k x k' else σ r' k'
def zcp (σ : zM) (a b sp dp n : Nat) : zM := fun r' k' => if r' = b then va_cpy (σ a) (σ b) sp dp n k' else σ r' k'
def zf (σ : zM) (r ci k : Nat) : Option Value := match zLy[r]? with
  | some (.inr (.inl (c, fl))) => if c = ci then (fl[k]?).map (fun o => match o with | some q => .ref q | none => .int (σ r k)) else none
  | _ => none
def zfi (r ci k : Nat) : Bool := match zLy[r]? with
  | some (.inr (.inl (c, fl))) => c == ci && fl[k]? == some none
  | _ => false
def zcls (r : Nat) : Nat := match zLy[r]? with
  | some (.inr (.inl (c, _))) => c
  | _ => 99
def zfd (ci k : Nat) : String := match vwCl[ci]? with
  | some q => (q.2.1 k).2.2.1
  | none => ""
def zref (v : Value) : Prop := v = .null ∨ ∃ r, v = .ref r
def zcc (c : Jvm.ClassFile.Cond) (x y : Int32) : Prop := match c with
  | .eq => x = y
  | .ne => ¬ x = y
  | .lt => x < y
  | .ge => y ≤ x
  | .gt => y < x
  | .le => x ≤ y
def zk1 (st : List Value) (k : Int32 → List Value → Prop) : Prop := match st with
  | .int x :: r => k x r
  | _ => False
def zk2 (st : List Value) (k : Int32 → Int32 → List Value → Prop) : Prop := match st with
  | .int y :: .int x :: r => k x y r
  | _ => False
def zk1l (st : List Value) (k : Int64 → List Value → Prop) : Prop := match st with
  | .long x :: r => k x r
  | _ => False
def zk2l (st : List Value) (k : Int64 → Int64 → List Value → Prop) : Prop := match st with
  | .long y :: .long x :: r => k x y r
  | _ => False
def zkil (st : List Value) (k : Int64 → Int32 → List Value → Prop) : Prop := match st with
  | .int y :: .long x :: r => k x y r
  | _ => False
def zkv (st : List Value) (k : Value → List Value → Prop) : Prop := match st with
  | v :: r => k v r
  | _ => False
def zkr (st : List Value) (k : Nat → List Value → Prop) : Prop := match st with
  | .ref b :: r => k b r
  | _ => False
def zkir (st : List Value) (k : Int32 → Nat → List Value → Prop) : Prop := match st with
  | .int x :: .ref b :: r => k x b r
  | _ => False
def zkiir (st : List Value) (k : Int32 → Int32 → Nat → List Value → Prop) : Prop := match st with
  | .int x :: .int i :: .ref b :: r => k x i b r
  | _ => False
def zkcp (st : List Value) (k : Int32 → Int32 → Nat → Int32 → Nat → List Value → Prop) : Prop := match st with
  | .int n :: .int dp :: .ref b :: .int sp :: .ref a :: r => k n dp b sp a r
  | _ => False
theorem zk1_e {st : List Value} {k : Int32 → List Value → Prop} (h : zk1 st k) : ∃ x r, st = .int x :: r ∧ k x r := by
  unfold zk1 at h; split at h
  · exact ⟨_, _, rfl, h⟩
  · exact h.elim
theorem zk2_e {st : List Value} {k : Int32 → Int32 → List Value → Prop} (h : zk2 st k) : ∃ x y r, st = .int y :: .int x :: r ∧ k x y r := by
  unfold zk2 at h; split at h
  · exact ⟨_, _, _, rfl, h⟩
  · exact h.elim
theorem zk1l_e {st : List Value} {k : Int64 → List Value → Prop} (h : zk1l st k) : ∃ x r, st = .long x :: r ∧ k x r := by
  unfold zk1l at h; split at h
  · exact ⟨_, _, rfl, h⟩
  · exact h.elim
theorem zk2l_e {st : List Value} {k : Int64 → Int64 → List Value → Prop} (h : zk2l st k) : ∃ x y r, st = .long y :: .long x :: r ∧ k x y r := by
  unfold zk2l at h; split at h
  · exact ⟨_, _, _, rfl, h⟩
  · exact h.elim
theorem zkil_e {st : List Value} {k : Int64 → Int32 → List Value → Prop} (h : zkil st k) : ∃ x y r, st = .int y :: .long x :: r ∧ k x y r := by
  unfold zkil at h; split at h
  · exact ⟨_, _, _, rfl, h⟩
  · exact h.elim
theorem zkv_e {st : List Value} {k : Value → List Value → Prop} (h : zkv st k) : ∃ v r, st = v :: r ∧ k v r := by
  unfold zkv at h; split at h
  · exact ⟨_, _, rfl, h⟩
  · exact h.elim
theorem zkr_e {st : List Value} {k : Nat → List Value → Prop} (h : zkr st k) : ∃ b r, st = .ref b :: r ∧ k b r := by
  unfold zkr at h; split at h
  · exact ⟨_, _, rfl, h⟩
  · exact h.elim
theorem zkir_e {st : List Value} {k : Int32 → Nat → List Value → Prop} (h : zkir st k) : ∃ x b r, st = .int x :: .ref b :: r ∧ k x b r := by
  unfold zkir at h; split at h
  · exact ⟨_, _, _, rfl, h⟩
  · exact h.elim
theorem zkiir_e {st : List Value} {k : Int32 → Int32 → Nat → List Value → Prop} (h : zkiir st k) : ∃ x i b r, st = .int x :: .int i :: .ref b :: r ∧ k x i b r := by
  unfold zkiir at h; split at h
  · exact ⟨_, _, _, _, rfl, h⟩
  · exact h.elim
theorem zkcp_e {st : List Value} {k : Int32 → Int32 → Nat → Int32 → Nat → List Value → Prop} (h : zkcp st k) : ∃ n dp b sp a r, st = .int n :: .int dp :: .ref b :: .int sp :: .ref a :: r ∧ k n dp b sp a r := by
  unfold zkcp at h; split at h
  · exact ⟨_, _, _, _, _, _, rfl, h⟩
  · exact h.elim
def zcat (l : List Value) : Nat := (l.map fun v => v.category).sum
/-- a call of method m' with n values of the stack -/
def zcall (Z : zT) (d m i m' n : Nat) (lv : List (Nat × Value)) (st : List Value) (σ : zM) (Q : Option Value → zM → Prop) : Prop :=
  ∃ args rest, st = args.reverse ++ rest ∧ args.length = n ∧ (lg_sl args).length ≤ zl m' ∧ zcat rest ≤ 8 ∧ ∃ d', d = d' + 1 ∧ ∃ Q' : Option Value → zM → Prop, Z d' m' 0 (lv_args 0 args) [] σ Q' ∧ ∀ r σ', Q' r σ' → Z d m (i + 1) lv (r.toList ++ rest) σ' Q
def zcallV (Z : zT) (d m i m' n : Nat) (lv : List (Nat × Value)) (st : List Value) (σ : zM) (Q : Option Value → zM → Prop) : Prop :=
  ∃ b args rest, st = args.reverse ++ .ref b :: rest ∧ args.length = n ∧ (lg_sl (.ref b :: args)).length ≤ zl m' ∧ zcls b = zci m' ∧ zcat rest ≤ 8 ∧ ∃ d', d = d' + 1 ∧ ∃ Q' : Option Value → zM → Prop, Z d' m' 0 (lv_args 0 (.ref b :: args)) [] σ Q' ∧ ∀ r σ', Q' r σ' → Z d m (i + 1) lv (r.toList ++ rest) σ' Q
def zcopy (Z : zT) (d m i : Nat) (lv : List (Nat × Value)) (st : List Value) (σ : zM) (Q : Option Value → zM → Prop) : Prop :=
  zkcp st fun n dp b sp a r => ∃ n0 n1, zLy[a]? = some (.inl n0) ∧ zLy[b]? = some (.inl n1) ∧ ¬ sp < 0 ∧ ¬ dp < 0 ∧ ¬ n < 0 ∧ sp.toNatClampNeg + n.toNatClampNeg ≤ n0 ∧ dp.toNatClampNeg + n.toNatClampNeg ≤ n1 ∧ zcat r ≤ 8 ∧ 1 ≤ d ∧
    Z d m (i + 1) lv r (zcp σ a b sp.toNatClampNeg dp.toNatClampNeg n.toNatClampNeg) Q
def zldc (L : List Nat) : Int := if zL L 1 = 1 then -(zL L 0 : Int) else (zL L 0 : Int)
def zI (Z : zT) (d m i : Nat) (I : Instr) (L : List Nat) (lv : List (Nat × Value)) (st : List Value) (σ : zM) (Q : Option Value → zM → Prop) : Prop := match I with
  | .iconst n => Z d m (i + 1) lv (.int (Int32.ofInt n) :: st) σ Q
  | .bipush n => Z d m (i + 1) lv (.int (Int8.ofInt n).toInt32 :: st) σ Q
  | .sipush n => Z d m (i + 1) lv (.int (Int16.ofInt n).toInt32 :: st) σ Q
  | .lconst n => Z d m (i + 1) lv (.long (Int64.ofNat (n : Nat)) :: st) σ Q
  | .ldc _ => Z d m (i + 1) lv (.int (Int32.ofInt (zldc L)) :: st) σ Q
  | .ldc_w _ => Z d m (i + 1) lv (.int (Int32.ofInt (zldc L)) :: st) σ Q
  | .ldc2_w _ => Z d m (i + 1) lv (.long (Int64.ofInt (zldc L)) :: st) σ Q
  | .aconst_null => Z d m (i + 1) lv (.null :: st) σ Q
  | .iload k => ∃ x, zg lv k = some (.int x) ∧ Z d m (i + 1) lv (.int x :: st) σ Q
  | .iload_n k => ∃ x, zg lv k.val = some (.int x) ∧ Z d m (i + 1) lv (.int x :: st) σ Q
  | .lload k => ∃ x, zg lv k = some (.long x) ∧ Z d m (i + 1) lv (.long x :: st) σ Q
  | .lload_n k => ∃ x, zg lv k.val = some (.long x) ∧ Z d m (i + 1) lv (.long x :: st) σ Q
  | .aload k => ∃ v, zg lv k = some v ∧ zref v ∧ Z d m (i + 1) lv (v :: st) σ Q
  | .aload_n k => ∃ v, zg lv k.val = some v ∧ zref v ∧ Z d m (i + 1) lv (v :: st) σ Q
  | .istore k => zk1 st fun x r => Z d m (i + 1) (zs lv k (.int x)) r σ Q
  | .istore_n k => zk1 st fun x r => Z d m (i + 1) (zs lv k.val (.int x)) r σ Q
  | .astore k => zkv st fun v r => zref v ∧ Z d m (i + 1) (zs lv k v) r σ Q
  | .astore_n k => zkv st fun v r => zref v ∧ Z d m (i + 1) (zs lv k.val v) r σ Q
  | .iinc k n => ∃ x, zg lv k = some (.int x) ∧ Z d m (i + 1) (zs lv k (.int (x + Int32.ofInt n))) st σ Q
  | .iadd => zk2 st fun x y r => Z d m (i + 1) lv (.int (x + y) :: r) σ Q
  | .isub => zk2 st fun x y r => Z d m (i + 1) lv (.int (x - y) :: r) σ Q
  | .imul => zk2 st fun x y r => Z d m (i + 1) lv (.int (x * y) :: r) σ Q
  | .iand => zk2 st fun x y r => Z d m (i + 1) lv (.int (x &&& y) :: r) σ Q
  | .ior => zk2 st fun x y r => Z d m (i + 1) lv (.int (x ||| y) :: r) σ Q
  | .ixor => zk2 st fun x y r => Z d m (i + 1) lv (.int (x ^^^ y) :: r) σ Q
  | .idiv => zk2 st fun x y r => ¬ y = 0 ∧ Z d m (i + 1) lv (.int (x / y) :: r) σ Q
  | .irem => zk2 st fun x y r => ¬ y = 0 ∧ Z d m (i + 1) lv (.int (x - x / y * y) :: r) σ Q
  | .ineg => zk1 st fun x r => Z d m (i + 1) lv (.int (-x) :: r) σ Q
  | .ishl => zk2 st fun x y r => Z d m (i + 1) lv (.int (x <<< (y &&& 31)) :: r) σ Q
  | .ishr => zk2 st fun x y r => Z d m (i + 1) lv (.int (x >>> (y &&& 31)) :: r) σ Q
  | .iushr => zk2 st fun x y r => Z d m (i + 1) lv (.int (x.toUInt32 >>> (y.toUInt32 &&& Int32.toUInt32 31)).toInt32 :: r) σ Q
  | .i2l => zk1 st fun x r => Z d m (i + 1) lv (.long x.toInt64 :: r) σ Q
  | .l2i => zk1l st fun x r => Z d m (i + 1) lv (.int x.toInt32 :: r) σ Q
  | .i2b => zk1 st fun x r => Z d m (i + 1) lv (.int x.toInt8.toInt32 :: r) σ Q
  | .i2s => zk1 st fun x r => Z d m (i + 1) lv (.int x.toInt16.toInt32 :: r) σ Q
  | .ladd => zk2l st fun x y r => Z d m (i + 1) lv (.long (x + y) :: r) σ Q
  | .lmul => zk2l st fun x y r => Z d m (i + 1) lv (.long (x * y) :: r) σ Q
  | .land => zk2l st fun x y r => Z d m (i + 1) lv (.long (x &&& y) :: r) σ Q
  | .lor => zk2l st fun x y r => Z d m (i + 1) lv (.long (x ||| y) :: r) σ Q
  | .lshl => zkil st fun x y r => Z d m (i + 1) lv (.long (x <<< (y.toInt64 &&& 63)) :: r) σ Q
  | .lshr => zkil st fun x y r => Z d m (i + 1) lv (.long (x >>> (y.toInt64 &&& 63)) :: r) σ Q
  | .lushr => zkil st fun x y r => Z d m (i + 1) lv (.long (x.toUInt64 >>> (y.toInt64.toUInt64 &&& Int64.toUInt64 63)).toInt64 :: r) σ Q
  | .lcmp => zk2l st fun x y r => Z d m (i + 1) lv (.int (lg_cmp x y) :: r) σ Q
  | .dup => zkv st fun v r => v.category = 1 ∧ Z d m (i + 1) lv (v :: v :: r) σ Q
  | .dup2 => zkv st fun v r => zkv r fun w q => v.category = 1 ∧ w.category = 1 ∧ Z d m (i + 1) lv (v :: w :: v :: w :: q) σ Q
  | .pop => zkv st fun v r => v.category = 1 ∧ Z d m (i + 1) lv r σ Q
  | .getfield _ => zkr st fun b r => ∃ v, zf σ b (zL L 0) (zL L 1) = some v ∧ Z d m (i + 1) lv (v :: r) σ Q
  | .putfield _ => zkir st fun x b r => zfi b (zL L 0) (zL L 1) = true ∧ (zfd (zL L 0) (zL L 1) = "I" ∨ (zfd (zL L 0) (zL L 1) = "Z" ∧ (x = 0 ∨ x = 1))) ∧ Z d m (i + 1) lv r (zu σ b (zL L 1) x) Q
  | .iaload => zkir st fun x b r => ∃ n, zLy[b]? = some (.inl n) ∧ vp_in x n ∧ Z d m (i + 1) lv (.int (σ b x.toNatClampNeg) :: r) σ Q
  | .iastore => zkiir st fun x j b r => ∃ n, zLy[b]? = some (.inl n) ∧ vp_in j n ∧ Z d m (i + 1) lv r (zu σ b j.toNatClampNeg x) Q
  | .aaload => zkir st fun x b r => ∃ rs q, zLy[b]? = some (.inr (.inr rs)) ∧ vp_in x rs.length ∧ rs[x.toNatClampNeg]? = some q ∧ Z d m (i + 1) lv (.ref q :: r) σ Q
  | .arraylength => zkr st fun b r => ∃ n, (zLy[b]? = some (.inl n) ∨ ∃ rs, zLy[b]? = some (.inr (.inr rs)) ∧ rs.length = n) ∧ Z d m (i + 1) lv (.int (Int32.ofNat n) :: r) σ Q
  | .goto _ => Z d m (zL L 0) lv st σ Q
  | .ifCond c _ => zk1 st fun x r => (zcc c x 0 → Z d m (zL L 0) lv r σ Q) ∧ (¬ zcc c x 0 → Z d m (i + 1) lv r σ Q)
  | .if_icmp c _ => zk2 st fun x y r => (zcc c x y → Z d m (zL L 0) lv r σ Q) ∧ (¬ zcc c x y → Z d m (i + 1) lv r σ Q)
  | .ifnull _ => zkv st fun v r => (v = .null → Z d m (zL L 0) lv r σ Q) ∧ (∀ b, v = .ref b → Z d m (i + 1) lv r σ Q) ∧ zref v
  | .ifnonnull _ => zkv st fun v r => (v = .null → Z d m (i + 1) lv r σ Q) ∧ (∀ b, v = .ref b → Z d m (zL L 0) lv r σ Q) ∧ zref v
  | .tableswitch _ lo hi _ => zk1 st fun x r => ((x.toInt < lo ∨ hi < x.toInt) → Z d m (zL L 0) lv r σ Q) ∧ (¬ x.toInt < lo → ¬ hi < x.toInt → Z d m (zL L (1 + (x.toInt - lo).toNat)) lv r σ Q)
  | .ireturn => zk1 st fun x r => r = [] ∧ (zr m = some .int ∨ (zr m = some .boolean ∧ (x = 0 ∨ x = 1))) ∧ Q (some (.int x)) σ
  | .areturn => zkv st fun v r => r = [] ∧ zref v ∧ zr m = some (.object RX0) ∧ Q (some v) σ
  | .return_ => st = [] ∧ zr m = none ∧ Q none σ
  | .invokevirtual _ => zcallV Z d m i (zL L 0) (znp (zL L 0)) lv st σ Q
  | .invokestatic _ => if zL L 0 = 999 then zcopy Z d m i lv st σ Q else zcall Z d m i (zL L 0) (znp (zL L 0)) lv st σ Q
  | _ => False
def zst (Z : zT) : zT := fun d m i lv st σ Q => match (zP m)[i]? with
  | some (_, I, L) => zI Z d m i I L lv st σ Q
  | none => False
def zCl (Z : zT) : Prop := ∀ d m i lv st σ Q, zst Z d m i lv st σ Q → Z d m i lv st σ Q
def ZC : zT := fun d m i lv st σ Q => ∀ Z : zT, zCl Z → Z d m i lv st σ Q
