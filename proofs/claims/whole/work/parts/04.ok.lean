/-! the rows are the bytes', their links are words of the tables: decided by the kernel, a method a row -/
def zw (k : Nat) : Option Jvm.Cond := lw_tbl[k]?
def zfl (ci k : Nat) (own : String) (idx : Nat) : Option Jvm.Cond := match vwCl[ci]? with
  | some q => if k < q.2.2 then some (.fieldLink own idx (q.2.1 k).1 (q.2.1 k).2.1 (q.2.1 k).2.2.1) else none
  | none => none
def zfin (ci k : Nat) : Bool := match vwCl[ci]? with
  | some q => (q.2.1 k).2.2.2
  | none => true
/-- how long an instruction is -/
def zn (I : Instr) (L : List Nat) : Nat := match I with
  | .bipush _ | .ldc _ | .iload _ | .lload _ | .aload _ | .istore _ | .astore _ => 2
  | .sipush _ | .ldc_w _ | .ldc2_w _ | .iinc _ _ | .getfield _ | .putfield _ | .goto _ | .ifCond _ _ | .if_icmp _ _ | .ifnull _ | .ifnonnull _ | .invokevirtual _ | .invokestatic _ => 3
  | .tableswitch _ _ _ _ => L.getLastD 0
  | _ => 1
/-- does the next row follow? -/
def zfall (I : Instr) : Bool := match I with
  | .goto _ | .tableswitch _ _ _ _ | .ireturn | .areturn | .return_ => false
  | _ => true
def zlk (m pc : Nat) (I : Instr) (L : List Nat) : Bool := match I with
  | .istore k => decide (k < zl m)
  | .istore_n k => decide (k.val < zl m)
  | .astore k => decide (k < zl m)
  | .astore_n k => decide (k.val < zl m)
  | .iinc k _ => decide (k < zl m)
  | .ldc i => decide (zw (zL L 2) = some (.constant (zo m) i (Int32.ofInt (zldc L))))
  | .ldc_w i => decide (zw (zL L 2) = some (.constant (zo m) i (Int32.ofInt (zldc L))))
  | .ldc2_w i => decide (zw (zL L 2) = some (.constantLong (zo m) i (Int64.ofInt (zldc L))))
  | .getfield i => decide (zfl (zL L 0) (zL L 1) (zo m) i ≠ none) && decide (zw (zL L 2) = zfl (zL L 0) (zL L 1) (zo m) i)
  | .putfield i => decide (zfl (zL L 0) (zL L 1) (zo m) i ≠ none) && decide (zw (zL L 2) = zfl (zL L 0) (zL L 1) (zo m) i) && !zfin (zL L 0) (zL L 1)
  | .goto off | .ifCond _ off | .if_icmp _ off | .ifnull off | .ifnonnull off => decide ((pc : Int) + off = (zpc m (zL L 0) : Int))
  | .tableswitch dflt lo hi offs => decide ((pc : Int) + dflt = (zpc m (zL L 0) : Int)) && (List.range (hi - lo + 1).toNat).all fun j => match offs[j]? with
    | some off => decide ((pc : Int) + off = (zpc m (zL L (1 + j)) : Int))
    | none => false
  | .invokevirtual i => decide (zw (zL L 1) = some (.methodLink (zo m) i (zy (zL L 0)))) && decide (zw (zL L 2) = some (.instanceMethod (zy (zL L 0)))) && decide (zw (zL L 3) = some (.selects (zo (zL L 0)) (zy (zL L 0)) (zy (zL L 0)))) && decide (zL L 0 < 180) && decide (zci (zL L 0) < 5)
  | .invokestatic i => if zL L 0 = 999 then decide (zw (zL L 1) = some (.methodLink (zo m) i arraycopyName)) && decide (zw (zL L 2) = some (.native arraycopyName)) && decide (zw (zL L 3) = some (.static arraycopyName)) && decide (zw (zL L 4) = some (.initialized "java/lang/System"))
    else decide (zw (zL L 1) = some (.methodLink (zo m) i (zy (zL L 0))) ∨ zw (zL L 1) = some (.methodLinkNest (zo m) i (zy (zL L 0)) "ToothStones")) && decide (zw (zL L 2) = some (.static (zy (zL L 0)))) && decide (zL L 0 < 180)
  | _ => true
def zok (m i : Nat) (q : zR) : Bool := decide (decode (zb m) q.1 = .ok (q.2.1, zn q.2.1 q.2.2)) && (!zfall q.2.1 || decide (zpc m (i + 1) = q.1 + zn q.2.1 q.2.2)) && zlk m q.1 q.2.1 q.2.2
def zokM (m : Nat) : Bool := (List.range (zP m).length).all fun i => match (zP m)[i]? with
  | some q => zok m i q
  | none => false
def zokN (m : Nat) : Bool := decide (zw (zme m).2.2.2.2.2.2.1 = some (.code (zy m) (zb m) (zl m) (zr m))) && decide (zw (zme m).2.2.2.2.2.2.2 = some (.initialized (zo m))) && plainFor (zy m) && decide ((zo m) ≠ "java/lang/invoke/MethodHandle" ∧ (zo m) ≠ "java/lang/invoke/VarHandle" ∧ (parseMethodDescriptor (zy m).desc).map (fun d => d.parameters.length) = some (znp m)) && decide (zl m ≤ 13) && (zci m == 99 || decide ((vwCl[zci m]?).map (fun q => q.1) = some (zo m)))
set_option maxRecDepth 100000 in
theorem zokN_0 : zokN 0 = true := by decide +kernel
set_option maxRecDepth 100000 in
theorem zokN_1 : zokN 1 = true := by decide +kernel
set_option maxRecDepth 100000 in
theorem zokN_2 : zokN 2 = true := by decide +kernel
set_option maxRecDepth 100000 in
theorem zokN_3 : zokN 3 = true := by decide +kernel
set_option maxRecDepth 100000 in
theorem zokN_4 : zokN 4 = true := by decide +kernel
set_option maxRecDepth 100000 in
theorem zokN_5 : zokN 5 = true := by decide +kernel
set_option maxRecDepth 100000 in
theorem zokN_6 : zokN 6 = true := by decide +kernel
set_option maxRecDepth 100000 in
theorem zokN_7 : zokN 7 = true := by decide +kernel
set_option maxRecDepth 100000 in
theorem zokN_8 : zokN 8 = true := by decide +kernel
set_option maxRecDepth 100000 in
theorem zokN_9 : zokN 9 = true := by decide +kernel
set_option maxRecDepth 100000 in
theorem zokN_10 : zokN 10 = true := by decide +kernel
set_option maxRecDepth 100000 in
theorem zokN_11 : zokN 11 = true := by decide +kernel
set_option maxRecDepth 100000 in
theorem zokN_12 : zokN 12 = true := by decide +kernel
set_option maxRecDepth 100000 in
theorem zokN_13 : zokN 13 = true := by decide +kernel
set_option maxRecDepth 100000 in
theorem zokN_14 : zokN 14 = true := by decide +kernel
set_option maxRecDepth 100000 in
theorem zokN_15 : zokN 15 = true := by decide +kernel
set_option maxRecDepth 100000 in
theorem zokN_16 : zokN 16 = true := by decide +kernel
set_option maxRecDepth 100000 in
theorem zokN_17 : zokN 17 = true := by decide +kernel
set_option maxRecDepth 100000 in
theorem zokN_18 : zokN 18 = true := by decide +kernel
set_option maxRecDepth 100000 in
theorem zokN_19 : zokN 19 = true := by decide +kernel
set_option maxRecDepth 100000 in
theorem zokN_20 : zokN 20 = true := by decide +kernel
set_option maxRecDepth 100000 in
theorem zokN_21 : zokN 21 = true := by decide +kernel
set_option maxRecDepth 100000 in
theorem zokN_22 : zokN 22 = true := by decide +kernel
set_option maxRecDepth 100000 in
theorem zokN_23 : zokN 23 = true := by decide +kernel
set_option maxRecDepth 100000 in
theorem zokN_24 : zokN 24 = true := by decide +kernel
set_option maxRecDepth 100000 in
theorem zokN_25 : zokN 25 = true := by decide +kernel
set_option maxRecDepth 100000 in
theorem zokN_26 : zokN 26 = true := by decide +kernel
set_option maxRecDepth 100000 in
theorem zokN_27 : zokN 27 = true := by decide +kernel
set_option maxRecDepth 100000 in
theorem zokN_28 : zokN 28 = true := by decide +kernel
set_option maxRecDepth 100000 in
theorem zokN_29 : zokN 29 = true := by decide +kernel
set_option maxRecDepth 100000 in
theorem zokN_30 : zokN 30 = true := by decide +kernel
set_option maxRecDepth 100000 in
theorem zokN_31 : zokN 31 = true := by decide +kernel
set_option maxRecDepth 100000 in
theorem zokN_32 : zokN 32 = true := by decide +kernel
set_option maxRecDepth 100000 in
theorem zokN_33 : zokN 33 = true := by decide +kernel
set_option maxRecDepth 100000 in
theorem zokN_34 : zokN 34 = true := by decide +kernel
set_option maxRecDepth 100000 in
theorem zokN_35 : zokN 35 = true := by decide +kernel
set_option maxRecDepth 100000 in
theorem zokN_36 : zokN 36 = true := by decide +kernel
set_option maxRecDepth 100000 in
theorem zokN_37 : zokN 37 = true := by decide +kernel
set_option maxRecDepth 100000 in
theorem zokN_38 : zokN 38 = true := by decide +kernel
set_option maxRecDepth 100000 in
theorem zokN_39 : zokN 39 = true := by decide +kernel
set_option maxRecDepth 100000 in
theorem zokN_40 : zokN 40 = true := by decide +kernel
set_option maxRecDepth 100000 in
theorem zokN_41 : zokN 41 = true := by decide +kernel
set_option maxRecDepth 100000 in
theorem zokN_42 : zokN 42 = true := by decide +kernel
set_option maxRecDepth 100000 in
theorem zokN_43 : zokN 43 = true := by decide +kernel
set_option maxRecDepth 100000 in
theorem zokN_44 : zokN 44 = true := by decide +kernel
set_option maxRecDepth 100000 in
theorem zokN_45 : zokN 45 = true := by decide +kernel
set_option maxRecDepth 100000 in
theorem zokN_46 : zokN 46 = true := by decide +kernel
set_option maxRecDepth 100000 in
theorem zokN_47 : zokN 47 = true := by decide +kernel
set_option maxRecDepth 100000 in
theorem zokN_48 : zokN 48 = true := by decide +kernel
set_option maxRecDepth 100000 in
theorem zokN_49 : zokN 49 = true := by decide +kernel
set_option maxRecDepth 100000 in
theorem zokN_50 : zokN 50 = true := by decide +kernel
set_option maxRecDepth 100000 in
theorem zokN_51 : zokN 51 = true := by decide +kernel
set_option maxRecDepth 100000 in
theorem zokN_52 : zokN 52 = true := by decide +kernel
set_option maxRecDepth 100000 in
theorem zokN_53 : zokN 53 = true := by decide +kernel
set_option maxRecDepth 100000 in
theorem zokN_54 : zokN 54 = true := by decide +kernel
set_option maxRecDepth 100000 in
theorem zokN_55 : zokN 55 = true := by decide +kernel
set_option maxRecDepth 100000 in
theorem zokN_56 : zokN 56 = true := by decide +kernel
set_option maxRecDepth 100000 in
theorem zokN_57 : zokN 57 = true := by decide +kernel
set_option maxRecDepth 100000 in
theorem zokN_58 : zokN 58 = true := by decide +kernel
set_option maxRecDepth 100000 in
theorem zokN_59 : zokN 59 = true := by decide +kernel
set_option maxRecDepth 100000 in
theorem zokN_60 : zokN 60 = true := by decide +kernel
set_option maxRecDepth 100000 in
theorem zokN_61 : zokN 61 = true := by decide +kernel
set_option maxRecDepth 100000 in
theorem zokN_62 : zokN 62 = true := by decide +kernel
set_option maxRecDepth 100000 in
theorem zokN_63 : zokN 63 = true := by decide +kernel
set_option maxRecDepth 100000 in
theorem zokN_64 : zokN 64 = true := by decide +kernel
set_option maxRecDepth 100000 in
theorem zokN_65 : zokN 65 = true := by decide +kernel
set_option maxRecDepth 100000 in
theorem zokN_66 : zokN 66 = true := by decide +kernel
set_option maxRecDepth 100000 in
theorem zokN_67 : zokN 67 = true := by decide +kernel
set_option maxRecDepth 100000 in
theorem zokN_68 : zokN 68 = true := by decide +kernel
set_option maxRecDepth 100000 in
theorem zokN_69 : zokN 69 = true := by decide +kernel
set_option maxRecDepth 100000 in
theorem zokN_70 : zokN 70 = true := by decide +kernel
set_option maxRecDepth 100000 in
theorem zokN_71 : zokN 71 = true := by decide +kernel
set_option maxRecDepth 100000 in
theorem zokN_72 : zokN 72 = true := by decide +kernel
set_option maxRecDepth 100000 in
theorem zokN_73 : zokN 73 = true := by decide +kernel
set_option maxRecDepth 100000 in
theorem zokN_74 : zokN 74 = true := by decide +kernel
set_option maxRecDepth 100000 in
theorem zokN_75 : zokN 75 = true := by decide +kernel
set_option maxRecDepth 100000 in
theorem zokN_76 : zokN 76 = true := by decide +kernel
set_option maxRecDepth 100000 in
theorem zokN_77 : zokN 77 = true := by decide +kernel
set_option maxRecDepth 100000 in
theorem zokN_78 : zokN 78 = true := by decide +kernel
set_option maxRecDepth 100000 in
theorem zokN_79 : zokN 79 = true := by decide +kernel
set_option maxRecDepth 100000 in
theorem zokN_80 : zokN 80 = true := by decide +kernel
set_option maxRecDepth 100000 in
theorem zokN_81 : zokN 81 = true := by decide +kernel
set_option maxRecDepth 100000 in
theorem zokN_82 : zokN 82 = true := by decide +kernel
set_option maxRecDepth 100000 in
theorem zokN_83 : zokN 83 = true := by decide +kernel
set_option maxRecDepth 100000 in
theorem zokN_84 : zokN 84 = true := by decide +kernel
set_option maxRecDepth 100000 in
theorem zokN_85 : zokN 85 = true := by decide +kernel
set_option maxRecDepth 100000 in
theorem zokN_86 : zokN 86 = true := by decide +kernel
set_option maxRecDepth 100000 in
theorem zokN_87 : zokN 87 = true := by decide +kernel
set_option maxRecDepth 100000 in
theorem zokN_88 : zokN 88 = true := by decide +kernel
set_option maxRecDepth 100000 in
theorem zokN_89 : zokN 89 = true := by decide +kernel
set_option maxRecDepth 100000 in
theorem zokN_90 : zokN 90 = true := by decide +kernel
set_option maxRecDepth 100000 in
theorem zokN_91 : zokN 91 = true := by decide +kernel
set_option maxRecDepth 100000 in
theorem zokN_92 : zokN 92 = true := by decide +kernel
set_option maxRecDepth 100000 in
theorem zokN_93 : zokN 93 = true := by decide +kernel
set_option maxRecDepth 100000 in
theorem zokN_94 : zokN 94 = true := by decide +kernel
set_option maxRecDepth 100000 in
theorem zokN_95 : zokN 95 = true := by decide +kernel
set_option maxRecDepth 100000 in
theorem zokN_96 : zokN 96 = true := by decide +kernel
set_option maxRecDepth 100000 in
theorem zokN_97 : zokN 97 = true := by decide +kernel
set_option maxRecDepth 100000 in
theorem zokN_98 : zokN 98 = true := by decide +kernel
set_option maxRecDepth 100000 in
theorem zokN_99 : zokN 99 = true := by decide +kernel
set_option maxRecDepth 100000 in
theorem zokN_100 : zokN 100 = true := by decide +kernel
set_option maxRecDepth 100000 in
theorem zokN_101 : zokN 101 = true := by decide +kernel
set_option maxRecDepth 100000 in
theorem zokN_102 : zokN 102 = true := by decide +kernel
set_option maxRecDepth 100000 in
theorem zokN_103 : zokN 103 = true := by decide +kernel
set_option maxRecDepth 100000 in
theorem zokN_104 : zokN 104 = true := by decide +kernel
set_option maxRecDepth 100000 in
theorem zokN_105 : zokN 105 = true := by decide +kernel
set_option maxRecDepth 100000 in
theorem zokN_106 : zokN 106 = true := by decide +kernel
set_option maxRecDepth 100000 in
theorem zokN_107 : zokN 107 = true := by decide +kernel
set_option maxRecDepth 100000 in
theorem zokN_108 : zokN 108 = true := by decide +kernel
set_option maxRecDepth 100000 in
theorem zokN_109 : zokN 109 = true := by decide +kernel
set_option maxRecDepth 100000 in
theorem zokN_110 : zokN 110 = true := by decide +kernel
set_option maxRecDepth 100000 in
theorem zokN_111 : zokN 111 = true := by decide +kernel
set_option maxRecDepth 100000 in
theorem zokN_112 : zokN 112 = true := by decide +kernel
set_option maxRecDepth 100000 in
theorem zokN_113 : zokN 113 = true := by decide +kernel
set_option maxRecDepth 100000 in
theorem zokN_114 : zokN 114 = true := by decide +kernel
set_option maxRecDepth 100000 in
theorem zokN_115 : zokN 115 = true := by decide +kernel
set_option maxRecDepth 100000 in
theorem zokN_116 : zokN 116 = true := by decide +kernel
set_option maxRecDepth 100000 in
theorem zokN_117 : zokN 117 = true := by decide +kernel
set_option maxRecDepth 100000 in
theorem zokN_118 : zokN 118 = true := by decide +kernel
set_option maxRecDepth 100000 in
theorem zokN_119 : zokN 119 = true := by decide +kernel
set_option maxRecDepth 100000 in
theorem zokN_120 : zokN 120 = true := by decide +kernel
set_option maxRecDepth 100000 in
theorem zokN_121 : zokN 121 = true := by decide +kernel
set_option maxRecDepth 100000 in
theorem zokN_122 : zokN 122 = true := by decide +kernel
set_option maxRecDepth 100000 in
theorem zokN_123 : zokN 123 = true := by decide +kernel
set_option maxRecDepth 100000 in
theorem zokN_124 : zokN 124 = true := by decide +kernel
set_option maxRecDepth 100000 in
theorem zokN_125 : zokN 125 = true := by decide +kernel
set_option maxRecDepth 100000 in
theorem zokN_126 : zokN 126 = true := by decide +kernel
set_option maxRecDepth 100000 in
theorem zokN_127 : zokN 127 = true := by decide +kernel
set_option maxRecDepth 100000 in
theorem zokN_128 : zokN 128 = true := by decide +kernel
set_option maxRecDepth 100000 in
theorem zokN_129 : zokN 129 = true := by decide +kernel
set_option maxRecDepth 100000 in
theorem zokN_130 : zokN 130 = true := by decide +kernel
set_option maxRecDepth 100000 in
theorem zokN_131 : zokN 131 = true := by decide +kernel
set_option maxRecDepth 100000 in
theorem zokN_132 : zokN 132 = true := by decide +kernel
set_option maxRecDepth 100000 in
theorem zokN_133 : zokN 133 = true := by decide +kernel
set_option maxRecDepth 100000 in
theorem zokN_134 : zokN 134 = true := by decide +kernel
set_option maxRecDepth 100000 in
theorem zokN_135 : zokN 135 = true := by decide +kernel
set_option maxRecDepth 100000 in
theorem zokN_136 : zokN 136 = true := by decide +kernel
set_option maxRecDepth 100000 in
theorem zokN_137 : zokN 137 = true := by decide +kernel
set_option maxRecDepth 100000 in
theorem zokN_138 : zokN 138 = true := by decide +kernel
set_option maxRecDepth 100000 in
theorem zokN_139 : zokN 139 = true := by decide +kernel
set_option maxRecDepth 100000 in
theorem zokN_140 : zokN 140 = true := by decide +kernel
set_option maxRecDepth 100000 in
theorem zokN_141 : zokN 141 = true := by decide +kernel
set_option maxRecDepth 100000 in
theorem zokN_142 : zokN 142 = true := by decide +kernel
set_option maxRecDepth 100000 in
theorem zokN_143 : zokN 143 = true := by decide +kernel
set_option maxRecDepth 100000 in
theorem zokN_144 : zokN 144 = true := by decide +kernel
set_option maxRecDepth 100000 in
theorem zokN_145 : zokN 145 = true := by decide +kernel
set_option maxRecDepth 100000 in
theorem zokN_146 : zokN 146 = true := by decide +kernel
set_option maxRecDepth 100000 in
theorem zokN_147 : zokN 147 = true := by decide +kernel
set_option maxRecDepth 100000 in
theorem zokN_148 : zokN 148 = true := by decide +kernel
set_option maxRecDepth 100000 in
theorem zokN_149 : zokN 149 = true := by decide +kernel
set_option maxRecDepth 100000 in
theorem zokN_150 : zokN 150 = true := by decide +kernel
set_option maxRecDepth 100000 in
theorem zokN_151 : zokN 151 = true := by decide +kernel
set_option maxRecDepth 100000 in
theorem zokN_152 : zokN 152 = true := by decide +kernel
set_option maxRecDepth 100000 in
theorem zokN_153 : zokN 153 = true := by decide +kernel
set_option maxRecDepth 100000 in
theorem zokN_154 : zokN 154 = true := by decide +kernel
set_option maxRecDepth 100000 in
theorem zokN_155 : zokN 155 = true := by decide +kernel
set_option maxRecDepth 100000 in
theorem zokN_156 : zokN 156 = true := by decide +kernel
set_option maxRecDepth 100000 in
theorem zokN_157 : zokN 157 = true := by decide +kernel
set_option maxRecDepth 100000 in
theorem zokN_158 : zokN 158 = true := by decide +kernel
set_option maxRecDepth 100000 in
theorem zokN_159 : zokN 159 = true := by decide +kernel
set_option maxRecDepth 100000 in
theorem zokN_160 : zokN 160 = true := by decide +kernel
set_option maxRecDepth 100000 in
theorem zokN_161 : zokN 161 = true := by decide +kernel
set_option maxRecDepth 100000 in
theorem zokN_162 : zokN 162 = true := by decide +kernel
set_option maxRecDepth 100000 in
theorem zokN_163 : zokN 163 = true := by decide +kernel
set_option maxRecDepth 100000 in
theorem zokN_164 : zokN 164 = true := by decide +kernel
set_option maxRecDepth 100000 in
theorem zokN_165 : zokN 165 = true := by decide +kernel
set_option maxRecDepth 100000 in
theorem zokN_166 : zokN 166 = true := by decide +kernel
set_option maxRecDepth 100000 in
theorem zokN_167 : zokN 167 = true := by decide +kernel
set_option maxRecDepth 100000 in
theorem zokN_168 : zokN 168 = true := by decide +kernel
set_option maxRecDepth 100000 in
theorem zokN_169 : zokN 169 = true := by decide +kernel
set_option maxRecDepth 100000 in
theorem zokN_170 : zokN 170 = true := by decide +kernel
set_option maxRecDepth 100000 in
theorem zokN_171 : zokN 171 = true := by decide +kernel
set_option maxRecDepth 100000 in
theorem zokN_172 : zokN 172 = true := by decide +kernel
set_option maxRecDepth 100000 in
theorem zokN_173 : zokN 173 = true := by decide +kernel
set_option maxRecDepth 100000 in
theorem zokN_174 : zokN 174 = true := by decide +kernel
set_option maxRecDepth 100000 in
theorem zokN_175 : zokN 175 = true := by decide +kernel
set_option maxRecDepth 100000 in
theorem zokN_176 : zokN 176 = true := by decide +kernel
set_option maxRecDepth 100000 in
theorem zokN_177 : zokN 177 = true := by decide +kernel
set_option maxRecDepth 100000 in
theorem zokN_178 : zokN 178 = true := by decide +kernel
set_option maxRecDepth 100000 in
theorem zokN_179 : zokN 179 = true := by decide +kernel
set_option maxRecDepth 100000 in
theorem zokM_0 : zokM 0 = true := by decide +kernel
set_option maxRecDepth 100000 in
theorem zokM_1 : zokM 1 = true := by decide +kernel
set_option maxRecDepth 100000 in
theorem zokM_2 : zokM 2 = true := by decide +kernel
set_option maxRecDepth 100000 in
theorem zokM_3 : zokM 3 = true := by decide +kernel
set_option maxRecDepth 100000 in
theorem zokM_4 : zokM 4 = true := by decide +kernel
set_option maxRecDepth 100000 in
theorem zokM_5 : zokM 5 = true := by decide +kernel
set_option maxRecDepth 100000 in
theorem zokM_6 : zokM 6 = true := by decide +kernel
set_option maxRecDepth 100000 in
theorem zokM_7 : zokM 7 = true := by decide +kernel
set_option maxRecDepth 100000 in
theorem zokM_8 : zokM 8 = true := by decide +kernel
set_option maxRecDepth 100000 in
theorem zokM_9 : zokM 9 = true := by decide +kernel
set_option maxRecDepth 100000 in
theorem zokM_10 : zokM 10 = true := by decide +kernel
set_option maxRecDepth 100000 in
theorem zokM_11 : zokM 11 = true := by decide +kernel
set_option maxRecDepth 100000 in
theorem zokM_12 : zokM 12 = true := by decide +kernel
set_option maxRecDepth 100000 in
theorem zokM_13 : zokM 13 = true := by decide +kernel
set_option maxRecDepth 100000 in
theorem zokM_14 : zokM 14 = true := by decide +kernel
set_option maxRecDepth 100000 in
theorem zokM_15 : zokM 15 = true := by decide +kernel
set_option maxRecDepth 100000 in
theorem zokM_16 : zokM 16 = true := by decide +kernel
set_option maxRecDepth 100000 in
theorem zokM_17 : zokM 17 = true := by decide +kernel
set_option maxRecDepth 100000 in
theorem zokM_18 : zokM 18 = true := by decide +kernel
set_option maxRecDepth 100000 in
theorem zokM_19 : zokM 19 = true := by decide +kernel
set_option maxRecDepth 100000 in
theorem zokM_20 : zokM 20 = true := by decide +kernel
set_option maxRecDepth 100000 in
theorem zokM_21 : zokM 21 = true := by decide +kernel
set_option maxRecDepth 100000 in
theorem zokM_22 : zokM 22 = true := by decide +kernel
set_option maxRecDepth 100000 in
theorem zokM_23 : zokM 23 = true := by decide +kernel
set_option maxRecDepth 100000 in
theorem zokM_24 : zokM 24 = true := by decide +kernel
set_option maxRecDepth 100000 in
theorem zokM_25 : zokM 25 = true := by decide +kernel
set_option maxRecDepth 100000 in
theorem zokM_26 : zokM 26 = true := by decide +kernel
set_option maxRecDepth 100000 in
theorem zokM_27 : zokM 27 = true := by decide +kernel
set_option maxRecDepth 100000 in
theorem zokM_28 : zokM 28 = true := by decide +kernel
set_option maxRecDepth 100000 in
theorem zokM_29 : zokM 29 = true := by decide +kernel
set_option maxRecDepth 100000 in
theorem zokM_30 : zokM 30 = true := by decide +kernel
set_option maxRecDepth 100000 in
theorem zokM_31 : zokM 31 = true := by decide +kernel
set_option maxRecDepth 100000 in
theorem zokM_32 : zokM 32 = true := by decide +kernel
set_option maxRecDepth 100000 in
theorem zokM_33 : zokM 33 = true := by decide +kernel
set_option maxRecDepth 100000 in
theorem zokM_34 : zokM 34 = true := by decide +kernel
set_option maxRecDepth 100000 in
theorem zokM_35 : zokM 35 = true := by decide +kernel
set_option maxRecDepth 100000 in
theorem zokM_36 : zokM 36 = true := by decide +kernel
set_option maxRecDepth 100000 in
theorem zokM_37 : zokM 37 = true := by decide +kernel
set_option maxRecDepth 100000 in
theorem zokM_38 : zokM 38 = true := by decide +kernel
set_option maxRecDepth 100000 in
theorem zokM_39 : zokM 39 = true := by decide +kernel
set_option maxRecDepth 100000 in
theorem zokM_40 : zokM 40 = true := by decide +kernel
set_option maxRecDepth 100000 in
theorem zokM_41 : zokM 41 = true := by decide +kernel
set_option maxRecDepth 100000 in
theorem zokM_42 : zokM 42 = true := by decide +kernel
set_option maxRecDepth 100000 in
theorem zokM_43 : zokM 43 = true := by decide +kernel
set_option maxRecDepth 100000 in
theorem zokM_44 : zokM 44 = true := by decide +kernel
set_option maxRecDepth 100000 in
theorem zokM_45 : zokM 45 = true := by decide +kernel
set_option maxRecDepth 100000 in
theorem zokM_46 : zokM 46 = true := by decide +kernel
set_option maxRecDepth 100000 in
theorem zokM_47 : zokM 47 = true := by decide +kernel
set_option maxRecDepth 100000 in
theorem zokM_48 : zokM 48 = true := by decide +kernel
set_option maxRecDepth 100000 in
theorem zokM_49 : zokM 49 = true := by decide +kernel
set_option maxRecDepth 100000 in
theorem zokM_50 : zokM 50 = true := by decide +kernel
set_option maxRecDepth 100000 in
theorem zokM_51 : zokM 51 = true := by decide +kernel
set_option maxRecDepth 100000 in
theorem zokM_52 : zokM 52 = true := by decide +kernel
set_option maxRecDepth 100000 in
theorem zokM_53 : zokM 53 = true := by decide +kernel
set_option maxRecDepth 100000 in
theorem zokM_54 : zokM 54 = true := by decide +kernel
set_option maxRecDepth 100000 in
theorem zokM_55 : zokM 55 = true := by decide +kernel
set_option maxRecDepth 100000 in
theorem zokM_56 : zokM 56 = true := by decide +kernel
set_option maxRecDepth 100000 in
theorem zokM_57 : zokM 57 = true := by decide +kernel
set_option maxRecDepth 100000 in
theorem zokM_58 : zokM 58 = true := by decide +kernel
set_option maxRecDepth 100000 in
theorem zokM_59 : zokM 59 = true := by decide +kernel
set_option maxRecDepth 100000 in
theorem zokM_60 : zokM 60 = true := by decide +kernel
set_option maxRecDepth 100000 in
theorem zokM_61 : zokM 61 = true := by decide +kernel
set_option maxRecDepth 100000 in
theorem zokM_62 : zokM 62 = true := by decide +kernel
set_option maxRecDepth 100000 in
theorem zokM_63 : zokM 63 = true := by decide +kernel
set_option maxRecDepth 100000 in
theorem zokM_64 : zokM 64 = true := by decide +kernel
set_option maxRecDepth 100000 in
theorem zokM_65 : zokM 65 = true := by decide +kernel
set_option maxRecDepth 100000 in
theorem zokM_66 : zokM 66 = true := by decide +kernel
set_option maxRecDepth 100000 in
theorem zokM_67 : zokM 67 = true := by decide +kernel
set_option maxRecDepth 100000 in
theorem zokM_68 : zokM 68 = true := by decide +kernel
set_option maxRecDepth 100000 in
theorem zokM_69 : zokM 69 = true := by decide +kernel
set_option maxRecDepth 100000 in
theorem zokM_70 : zokM 70 = true := by decide +kernel
set_option maxRecDepth 100000 in
theorem zokM_71 : zokM 71 = true := by decide +kernel
set_option maxRecDepth 100000 in
theorem zokM_72 : zokM 72 = true := by decide +kernel
set_option maxRecDepth 100000 in
theorem zokM_73 : zokM 73 = true := by decide +kernel
set_option maxRecDepth 100000 in
theorem zokM_74 : zokM 74 = true := by decide +kernel
set_option maxRecDepth 100000 in
theorem zokM_75 : zokM 75 = true := by decide +kernel
set_option maxRecDepth 100000 in
theorem zokM_76 : zokM 76 = true := by decide +kernel
set_option maxRecDepth 100000 in
theorem zokM_77 : zokM 77 = true := by decide +kernel
set_option maxRecDepth 100000 in
theorem zokM_78 : zokM 78 = true := by decide +kernel
set_option maxRecDepth 100000 in
theorem zokM_79 : zokM 79 = true := by decide +kernel
set_option maxRecDepth 100000 in
theorem zokM_80 : zokM 80 = true := by decide +kernel
set_option maxRecDepth 100000 in
theorem zokM_81 : zokM 81 = true := by decide +kernel
set_option maxRecDepth 100000 in
theorem zokM_82 : zokM 82 = true := by decide +kernel
set_option maxRecDepth 100000 in
theorem zokM_83 : zokM 83 = true := by decide +kernel
set_option maxRecDepth 100000 in
theorem zokM_84 : zokM 84 = true := by decide +kernel
set_option maxRecDepth 100000 in
theorem zokM_85 : zokM 85 = true := by decide +kernel
set_option maxRecDepth 100000 in
theorem zokM_86 : zokM 86 = true := by decide +kernel
set_option maxRecDepth 100000 in
theorem zokM_87 : zokM 87 = true := by decide +kernel
set_option maxRecDepth 100000 in
theorem zokM_88 : zokM 88 = true := by decide +kernel
set_option maxRecDepth 100000 in
theorem zokM_89 : zokM 89 = true := by decide +kernel
set_option maxRecDepth 100000 in
theorem zokM_90 : zokM 90 = true := by decide +kernel
set_option maxRecDepth 100000 in
theorem zokM_91 : zokM 91 = true := by decide +kernel
set_option maxRecDepth 100000 in
theorem zokM_92 : zokM 92 = true := by decide +kernel
set_option maxRecDepth 100000 in
theorem zokM_93 : zokM 93 = true := by decide +kernel
set_option maxRecDepth 100000 in
theorem zokM_94 : zokM 94 = true := by decide +kernel
set_option maxRecDepth 100000 in
theorem zokM_95 : zokM 95 = true := by decide +kernel
set_option maxRecDepth 100000 in
theorem zokM_96 : zokM 96 = true := by decide +kernel
set_option maxRecDepth 100000 in
theorem zokM_97 : zokM 97 = true := by decide +kernel
set_option maxRecDepth 100000 in
theorem zokM_98 : zokM 98 = true := by decide +kernel
set_option maxRecDepth 100000 in
theorem zokM_99 : zokM 99 = true := by decide +kernel
set_option maxRecDepth 100000 in
theorem zokM_100 : zokM 100 = true := by decide +kernel
set_option maxRecDepth 100000 in
theorem zokM_101 : zokM 101 = true := by decide +kernel
set_option maxRecDepth 100000 in
theorem zokM_102 : zokM 102 = true := by decide +kernel
set_option maxRecDepth 100000 in
theorem zokM_103 : zokM 103 = true := by decide +kernel
set_option maxRecDepth 100000 in
theorem zokM_104 : zokM 104 = true := by decide +kernel
set_option maxRecDepth 100000 in
theorem zokM_105 : zokM 105 = true := by decide +kernel
set_option maxRecDepth 100000 in
theorem zokM_106 : zokM 106 = true := by decide +kernel
set_option maxRecDepth 100000 in
theorem zokM_107 : zokM 107 = true := by decide +kernel
set_option maxRecDepth 100000 in
theorem zokM_108 : zokM 108 = true := by decide +kernel
set_option maxRecDepth 100000 in
theorem zokM_109 : zokM 109 = true := by decide +kernel
set_option maxRecDepth 100000 in
theorem zokM_110 : zokM 110 = true := by decide +kernel
set_option maxRecDepth 100000 in
theorem zokM_111 : zokM 111 = true := by decide +kernel
set_option maxRecDepth 100000 in
theorem zokM_112 : zokM 112 = true := by decide +kernel
set_option maxRecDepth 100000 in
theorem zokM_113 : zokM 113 = true := by decide +kernel
set_option maxRecDepth 100000 in
theorem zokM_114 : zokM 114 = true := by decide +kernel
set_option maxRecDepth 100000 in
theorem zokM_115 : zokM 115 = true := by decide +kernel
set_option maxRecDepth 100000 in
theorem zokM_116 : zokM 116 = true := by decide +kernel
set_option maxRecDepth 100000 in
theorem zokM_117 : zokM 117 = true := by decide +kernel
set_option maxRecDepth 100000 in
theorem zokM_118 : zokM 118 = true := by decide +kernel
set_option maxRecDepth 100000 in
theorem zokM_119 : zokM 119 = true := by decide +kernel
set_option maxRecDepth 100000 in
theorem zokM_120 : zokM 120 = true := by decide +kernel
set_option maxRecDepth 100000 in
theorem zokM_121 : zokM 121 = true := by decide +kernel
set_option maxRecDepth 100000 in
theorem zokM_122 : zokM 122 = true := by decide +kernel
set_option maxRecDepth 100000 in
theorem zokM_123 : zokM 123 = true := by decide +kernel
set_option maxRecDepth 100000 in
theorem zokM_124 : zokM 124 = true := by decide +kernel
set_option maxRecDepth 100000 in
theorem zokM_125 : zokM 125 = true := by decide +kernel
set_option maxRecDepth 100000 in
theorem zokM_126 : zokM 126 = true := by decide +kernel
set_option maxRecDepth 100000 in
theorem zokM_127 : zokM 127 = true := by decide +kernel
set_option maxRecDepth 100000 in
theorem zokM_128 : zokM 128 = true := by decide +kernel
set_option maxRecDepth 100000 in
theorem zokM_129 : zokM 129 = true := by decide +kernel
set_option maxRecDepth 100000 in
theorem zokM_130 : zokM 130 = true := by decide +kernel
set_option maxRecDepth 100000 in
theorem zokM_131 : zokM 131 = true := by decide +kernel
set_option maxRecDepth 100000 in
theorem zokM_132 : zokM 132 = true := by decide +kernel
set_option maxRecDepth 100000 in
theorem zokM_133 : zokM 133 = true := by decide +kernel
set_option maxRecDepth 100000 in
theorem zokM_134 : zokM 134 = true := by decide +kernel
set_option maxRecDepth 100000 in
theorem zokM_135 : zokM 135 = true := by decide +kernel
set_option maxRecDepth 100000 in
theorem zokM_136 : zokM 136 = true := by decide +kernel
set_option maxRecDepth 100000 in
theorem zokM_137 : zokM 137 = true := by decide +kernel
set_option maxRecDepth 100000 in
theorem zokM_138 : zokM 138 = true := by decide +kernel
set_option maxRecDepth 100000 in
theorem zokM_139 : zokM 139 = true := by decide +kernel
set_option maxRecDepth 100000 in
theorem zokM_140 : zokM 140 = true := by decide +kernel
set_option maxRecDepth 100000 in
theorem zokM_141 : zokM 141 = true := by decide +kernel
set_option maxRecDepth 100000 in
theorem zokM_142 : zokM 142 = true := by decide +kernel
set_option maxRecDepth 100000 in
theorem zokM_143 : zokM 143 = true := by decide +kernel
set_option maxRecDepth 100000 in
theorem zokM_144 : zokM 144 = true := by decide +kernel
set_option maxRecDepth 100000 in
theorem zokM_145 : zokM 145 = true := by decide +kernel
set_option maxRecDepth 100000 in
theorem zokM_146 : zokM 146 = true := by decide +kernel
set_option maxRecDepth 100000 in
theorem zokM_147 : zokM 147 = true := by decide +kernel
set_option maxRecDepth 100000 in
theorem zokM_148 : zokM 148 = true := by decide +kernel
set_option maxRecDepth 100000 in
theorem zokM_149 : zokM 149 = true := by decide +kernel
set_option maxRecDepth 100000 in
theorem zokM_150 : zokM 150 = true := by decide +kernel
set_option maxRecDepth 100000 in
theorem zokM_151 : zokM 151 = true := by decide +kernel
set_option maxRecDepth 100000 in
theorem zokM_152 : zokM 152 = true := by decide +kernel
set_option maxRecDepth 100000 in
theorem zokM_153 : zokM 153 = true := by decide +kernel
set_option maxRecDepth 100000 in
theorem zokM_154 : zokM 154 = true := by decide +kernel
set_option maxRecDepth 100000 in
theorem zokM_155 : zokM 155 = true := by decide +kernel
set_option maxRecDepth 100000 in
theorem zokM_156 : zokM 156 = true := by decide +kernel
set_option maxRecDepth 100000 in
theorem zokM_157 : zokM 157 = true := by decide +kernel
set_option maxRecDepth 100000 in
theorem zokM_158 : zokM 158 = true := by decide +kernel
set_option maxRecDepth 100000 in
theorem zokM_159 : zokM 159 = true := by decide +kernel
set_option maxRecDepth 100000 in
theorem zokM_160 : zokM 160 = true := by decide +kernel
set_option maxRecDepth 100000 in
theorem zokM_161 : zokM 161 = true := by decide +kernel
set_option maxRecDepth 100000 in
theorem zokM_162 : zokM 162 = true := by decide +kernel
set_option maxRecDepth 100000 in
theorem zokM_163 : zokM 163 = true := by decide +kernel
set_option maxRecDepth 100000 in
theorem zokM_164 : zokM 164 = true := by decide +kernel
set_option maxRecDepth 100000 in
theorem zokM_165 : zokM 165 = true := by decide +kernel
set_option maxRecDepth 100000 in
theorem zokM_166 : zokM 166 = true := by decide +kernel
set_option maxRecDepth 100000 in
theorem zokM_167 : zokM 167 = true := by decide +kernel
set_option maxRecDepth 100000 in
theorem zokM_168 : zokM 168 = true := by decide +kernel
set_option maxRecDepth 100000 in
theorem zokM_169 : zokM 169 = true := by decide +kernel
set_option maxRecDepth 100000 in
theorem zokM_170 : zokM 170 = true := by decide +kernel
set_option maxRecDepth 100000 in
theorem zokM_171 : zokM 171 = true := by decide +kernel
set_option maxRecDepth 100000 in
theorem zokM_172 : zokM 172 = true := by decide +kernel
set_option maxRecDepth 100000 in
theorem zokM_173 : zokM 173 = true := by decide +kernel
set_option maxRecDepth 100000 in
theorem zokM_174 : zokM 174 = true := by decide +kernel
set_option maxRecDepth 100000 in
theorem zokM_175 : zokM 175 = true := by decide +kernel
set_option maxRecDepth 100000 in
theorem zokM_176 : zokM 176 = true := by decide +kernel
set_option maxRecDepth 100000 in
theorem zokM_177 : zokM 177 = true := by decide +kernel
set_option maxRecDepth 100000 in
theorem zokM_178 : zokM 178 = true := by decide +kernel
set_option maxRecDepth 100000 in
theorem zokM_179 : zokM 179 = true := by decide +kernel
theorem zokN_all : ∀ m, m < 180 → zokN m = true
  | 0, _ => zokN_0
  | 1, _ => zokN_1
  | 2, _ => zokN_2
  | 3, _ => zokN_3
  | 4, _ => zokN_4
  | 5, _ => zokN_5
  | 6, _ => zokN_6
  | 7, _ => zokN_7
  | 8, _ => zokN_8
  | 9, _ => zokN_9
  | 10, _ => zokN_10
  | 11, _ => zokN_11
  | 12, _ => zokN_12
  | 13, _ => zokN_13
  | 14, _ => zokN_14
  | 15, _ => zokN_15
  | 16, _ => zokN_16
  | 17, _ => zokN_17
  | 18, _ => zokN_18
  | 19, _ => zokN_19
  | 20, _ => zokN_20
  | 21, _ => zokN_21
  | 22, _ => zokN_22
  | 23, _ => zokN_23
  | 24, _ => zokN_24
  | 25, _ => zokN_25
  | 26, _ => zokN_26
  | 27, _ => zokN_27
  | 28, _ => zokN_28
  | 29, _ => zokN_29
  | 30, _ => zokN_30
  | 31, _ => zokN_31
  | 32, _ => zokN_32
  | 33, _ => zokN_33
  | 34, _ => zokN_34
  | 35, _ => zokN_35
  | 36, _ => zokN_36
  | 37, _ => zokN_37
  | 38, _ => zokN_38
  | 39, _ => zokN_39
  | 40, _ => zokN_40
  | 41, _ => zokN_41
  | 42, _ => zokN_42
  | 43, _ => zokN_43
  | 44, _ => zokN_44
  | 45, _ => zokN_45
  | 46, _ => zokN_46
  | 47, _ => zokN_47
  | 48, _ => zokN_48
  | 49, _ => zokN_49
  | 50, _ => zokN_50
  | 51, _ => zokN_51
  | 52, _ => zokN_52
  | 53, _ => zokN_53
  | 54, _ => zokN_54
  | 55, _ => zokN_55
  | 56, _ => zokN_56
  | 57, _ => zokN_57
  | 58, _ => zokN_58
  | 59, _ => zokN_59
  | 60, _ => zokN_60
  | 61, _ => zokN_61
  | 62, _ => zokN_62
  | 63, _ => zokN_63
  | 64, _ => zokN_64
  | 65, _ => zokN_65
  | 66, _ => zokN_66
  | 67, _ => zokN_67
  | 68, _ => zokN_68
  | 69, _ => zokN_69
  | 70, _ => zokN_70
  | 71, _ => zokN_71
  | 72, _ => zokN_72
  | 73, _ => zokN_73
  | 74, _ => zokN_74
  | 75, _ => zokN_75
  | 76, _ => zokN_76
  | 77, _ => zokN_77
  | 78, _ => zokN_78
  | 79, _ => zokN_79
  | 80, _ => zokN_80
  | 81, _ => zokN_81
  | 82, _ => zokN_82
  | 83, _ => zokN_83
  | 84, _ => zokN_84
  | 85, _ => zokN_85
  | 86, _ => zokN_86
  | 87, _ => zokN_87
  | 88, _ => zokN_88
  | 89, _ => zokN_89
  | 90, _ => zokN_90
  | 91, _ => zokN_91
  | 92, _ => zokN_92
  | 93, _ => zokN_93
  | 94, _ => zokN_94
  | 95, _ => zokN_95
  | 96, _ => zokN_96
  | 97, _ => zokN_97
  | 98, _ => zokN_98
  | 99, _ => zokN_99
  | 100, _ => zokN_100
  | 101, _ => zokN_101
  | 102, _ => zokN_102
  | 103, _ => zokN_103
  | 104, _ => zokN_104
  | 105, _ => zokN_105
  | 106, _ => zokN_106
  | 107, _ => zokN_107
  | 108, _ => zokN_108
  | 109, _ => zokN_109
  | 110, _ => zokN_110
  | 111, _ => zokN_111
  | 112, _ => zokN_112
  | 113, _ => zokN_113
  | 114, _ => zokN_114
  | 115, _ => zokN_115
  | 116, _ => zokN_116
  | 117, _ => zokN_117
  | 118, _ => zokN_118
  | 119, _ => zokN_119
  | 120, _ => zokN_120
  | 121, _ => zokN_121
  | 122, _ => zokN_122
  | 123, _ => zokN_123
  | 124, _ => zokN_124
  | 125, _ => zokN_125
  | 126, _ => zokN_126
  | 127, _ => zokN_127
  | 128, _ => zokN_128
  | 129, _ => zokN_129
  | 130, _ => zokN_130
  | 131, _ => zokN_131
  | 132, _ => zokN_132
  | 133, _ => zokN_133
  | 134, _ => zokN_134
  | 135, _ => zokN_135
  | 136, _ => zokN_136
  | 137, _ => zokN_137
  | 138, _ => zokN_138
  | 139, _ => zokN_139
  | 140, _ => zokN_140
  | 141, _ => zokN_141
  | 142, _ => zokN_142
  | 143, _ => zokN_143
  | 144, _ => zokN_144
  | 145, _ => zokN_145
  | 146, _ => zokN_146
  | 147, _ => zokN_147
  | 148, _ => zokN_148
  | 149, _ => zokN_149
  | 150, _ => zokN_150
  | 151, _ => zokN_151
  | 152, _ => zokN_152
  | 153, _ => zokN_153
  | 154, _ => zokN_154
  | 155, _ => zokN_155
  | 156, _ => zokN_156
  | 157, _ => zokN_157
  | 158, _ => zokN_158
  | 159, _ => zokN_159
  | 160, _ => zokN_160
  | 161, _ => zokN_161
  | 162, _ => zokN_162
  | 163, _ => zokN_163
  | 164, _ => zokN_164
  | 165, _ => zokN_165
  | 166, _ => zokN_166
  | 167, _ => zokN_167
  | 168, _ => zokN_168
  | 169, _ => zokN_169
  | 170, _ => zokN_170
  | 171, _ => zokN_171
  | 172, _ => zokN_172
  | 173, _ => zokN_173
  | 174, _ => zokN_174
  | 175, _ => zokN_175
  | 176, _ => zokN_176
  | 177, _ => zokN_177
  | 178, _ => zokN_178
  | 179, _ => zokN_179
  | m + 180, h => absurd h (by omega)
theorem zokM_all : ∀ m, m < 180 → zokM m = true
  | 0, _ => zokM_0
  | 1, _ => zokM_1
  | 2, _ => zokM_2
  | 3, _ => zokM_3
  | 4, _ => zokM_4
  | 5, _ => zokM_5
  | 6, _ => zokM_6
  | 7, _ => zokM_7
  | 8, _ => zokM_8
  | 9, _ => zokM_9
  | 10, _ => zokM_10
  | 11, _ => zokM_11
  | 12, _ => zokM_12
  | 13, _ => zokM_13
  | 14, _ => zokM_14
  | 15, _ => zokM_15
  | 16, _ => zokM_16
  | 17, _ => zokM_17
  | 18, _ => zokM_18
  | 19, _ => zokM_19
  | 20, _ => zokM_20
  | 21, _ => zokM_21
  | 22, _ => zokM_22
  | 23, _ => zokM_23
  | 24, _ => zokM_24
  | 25, _ => zokM_25
  | 26, _ => zokM_26
  | 27, _ => zokM_27
  | 28, _ => zokM_28
  | 29, _ => zokM_29
  | 30, _ => zokM_30
  | 31, _ => zokM_31
  | 32, _ => zokM_32
  | 33, _ => zokM_33
  | 34, _ => zokM_34
  | 35, _ => zokM_35
  | 36, _ => zokM_36
  | 37, _ => zokM_37
  | 38, _ => zokM_38
  | 39, _ => zokM_39
  | 40, _ => zokM_40
  | 41, _ => zokM_41
  | 42, _ => zokM_42
  | 43, _ => zokM_43
  | 44, _ => zokM_44
  | 45, _ => zokM_45
  | 46, _ => zokM_46
  | 47, _ => zokM_47
  | 48, _ => zokM_48
  | 49, _ => zokM_49
  | 50, _ => zokM_50
  | 51, _ => zokM_51
  | 52, _ => zokM_52
  | 53, _ => zokM_53
  | 54, _ => zokM_54
  | 55, _ => zokM_55
  | 56, _ => zokM_56
  | 57, _ => zokM_57
  | 58, _ => zokM_58
  | 59, _ => zokM_59
  | 60, _ => zokM_60
  | 61, _ => zokM_61
  | 62, _ => zokM_62
  | 63, _ => zokM_63
  | 64, _ => zokM_64
  | 65, _ => zokM_65
  | 66, _ => zokM_66
  | 67, _ => zokM_67
  | 68, _ => zokM_68
  | 69, _ => zokM_69
  | 70, _ => zokM_70
  | 71, _ => zokM_71
  | 72, _ => zokM_72
  | 73, _ => zokM_73
  | 74, _ => zokM_74
  | 75, _ => zokM_75
  | 76, _ => zokM_76
  | 77, _ => zokM_77
  | 78, _ => zokM_78
  | 79, _ => zokM_79
  | 80, _ => zokM_80
  | 81, _ => zokM_81
  | 82, _ => zokM_82
  | 83, _ => zokM_83
  | 84, _ => zokM_84
  | 85, _ => zokM_85
  | 86, _ => zokM_86
  | 87, _ => zokM_87
  | 88, _ => zokM_88
  | 89, _ => zokM_89
  | 90, _ => zokM_90
  | 91, _ => zokM_91
  | 92, _ => zokM_92
  | 93, _ => zokM_93
  | 94, _ => zokM_94
  | 95, _ => zokM_95
  | 96, _ => zokM_96
  | 97, _ => zokM_97
  | 98, _ => zokM_98
  | 99, _ => zokM_99
  | 100, _ => zokM_100
  | 101, _ => zokM_101
  | 102, _ => zokM_102
  | 103, _ => zokM_103
  | 104, _ => zokM_104
  | 105, _ => zokM_105
  | 106, _ => zokM_106
  | 107, _ => zokM_107
  | 108, _ => zokM_108
  | 109, _ => zokM_109
  | 110, _ => zokM_110
  | 111, _ => zokM_111
  | 112, _ => zokM_112
  | 113, _ => zokM_113
  | 114, _ => zokM_114
  | 115, _ => zokM_115
  | 116, _ => zokM_116
  | 117, _ => zokM_117
  | 118, _ => zokM_118
  | 119, _ => zokM_119
  | 120, _ => zokM_120
  | 121, _ => zokM_121
  | 122, _ => zokM_122
  | 123, _ => zokM_123
  | 124, _ => zokM_124
  | 125, _ => zokM_125
  | 126, _ => zokM_126
  | 127, _ => zokM_127
  | 128, _ => zokM_128
  | 129, _ => zokM_129
  | 130, _ => zokM_130
  | 131, _ => zokM_131
  | 132, _ => zokM_132
  | 133, _ => zokM_133
  | 134, _ => zokM_134
  | 135, _ => zokM_135
  | 136, _ => zokM_136
  | 137, _ => zokM_137
  | 138, _ => zokM_138
  | 139, _ => zokM_139
  | 140, _ => zokM_140
  | 141, _ => zokM_141
  | 142, _ => zokM_142
  | 143, _ => zokM_143
  | 144, _ => zokM_144
  | 145, _ => zokM_145
  | 146, _ => zokM_146
  | 147, _ => zokM_147
  | 148, _ => zokM_148
  | 149, _ => zokM_149
  | 150, _ => zokM_150
  | 151, _ => zokM_151
  | 152, _ => zokM_152
  | 153, _ => zokM_153
  | 154, _ => zokM_154
  | 155, _ => zokM_155
  | 156, _ => zokM_156
  | 157, _ => zokM_157
  | 158, _ => zokM_158
  | 159, _ => zokM_159
  | 160, _ => zokM_160
  | 161, _ => zokM_161
  | 162, _ => zokM_162
  | 163, _ => zokM_163
  | 164, _ => zokM_164
  | 165, _ => zokM_165
  | 166, _ => zokM_166
  | 167, _ => zokM_167
  | 168, _ => zokM_168
  | 169, _ => zokM_169
  | 170, _ => zokM_170
  | 171, _ => zokM_171
  | 172, _ => zokM_172
  | 173, _ => zokM_173
  | 174, _ => zokM_174
  | 175, _ => zokM_175
  | 176, _ => zokM_176
  | 177, _ => zokM_177
  | 178, _ => zokM_178
  | 179, _ => zokM_179
  | m + 180, h => absurd h (by omega)
