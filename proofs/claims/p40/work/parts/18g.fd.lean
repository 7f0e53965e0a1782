/-! ===== one lemma for each opcode ===== -/
def BY (c : ByteArray) (p b : Nat) : Prop := (Reader.u1 : Decoder Nat) c p = .ok (b, p + 1)
theorem by_u1 {code : ByteArray} {p b : Nat} (h : code[p]? = some b.toUInt8) (hb : b < 256) : BY code p b := by
  have h1 : p < code.size := by
    by_cases c : p < code.size
    · exact c
    · rw [getElem?_neg code p c] at h
      cases h
  have h2 : code[p] = b.toUInt8 := by
    rw [getElem?_pos code p h1] at h
    exact Option.some.inj h
  show (if h : p < code.size then _ else _ : Decoder Nat) code p = _
  rw [dif_pos h1]
  show Except.ok (code[p].toNat, p + 1) = _
  rw [h2]
  have : b.toUInt8.toNat = b := by
    rw [show b.toUInt8.toNat = b % 256 from rfl]
    omega
  rw [this]
theorem by_b {α β : Type} {r : Decoder α} {k : α → Decoder β} {code : ByteArray} {p p' : Nat} {a : α} {x : Except DecodeError (β × Nat)} (h : r code p = .ok (a, p')) (e : k a code p' = x) : (r >>= k) code p = x := by
  show (r code p >>= fun y => k y.1 code y.2) = _
  rw [h]
  exact e
theorem by_dec {code : ByteArray} {pc n : Nat} {i : Instr} (h : Decoder.instr pc code pc = .ok (i, n)) {m : Nat} (e : n - pc = m) : decode code pc = .ok (i, m) := by
  show (Decoder.instr pc code pc >>= fun y => Except.ok (y.1, y.2 - pc)) = _
  rw [h, ← e]
  rfl
theorem by_u2 {code : ByteArray} {p a b : Nat} (h : BY code p a) (h' : BY code (p + 1) b) : (Reader.u2 : Decoder Nat) code p = .ok (a * 256 + b, p + 2) := by
  unfold Reader.u2
  exact by_b h (by_b h' rfl)
theorem by_s1 {code : ByteArray} {p a : Nat} (h : BY code p a) : (Reader.s1 : Decoder Int) code p = .ok (Reader.signed 8 a, p + 1) := by
  show ((Reader.u1 : Decoder Nat) code p >>= fun y => Except.ok (Reader.signed 8 y.1, y.2)) = _
  unfold BY at h
  rw [h]
  rfl
theorem by_s2 {code : ByteArray} {p a b : Nat} (h : BY code p a) (h' : BY code (p + 1) b) : (Reader.s2 : Decoder Int) code p = .ok (Reader.signed 16 (a * 256 + b), p + 2) := by
  show ((Reader.u2 : Decoder Nat) code p >>= fun y => Except.ok (Reader.signed 16 y.1, y.2)) = _
  rw [by_u2 h h']
  rfl

theorem dk_2 {c : ByteArray} {pc : Nat} (h : BY c pc 2) : decode c pc = .ok (.iconst (-1), 1) := by_dec (n := pc + 1) (by
  unfold Decoder.instr
  exact by_b h rfl) (by omega)
theorem dk_3 {c : ByteArray} {pc : Nat} (h : BY c pc 3) : decode c pc = .ok (.iconst 0, 1) := by_dec (n := pc + 1) (by
  unfold Decoder.instr
  exact by_b h rfl) (by omega)
theorem dk_4 {c : ByteArray} {pc : Nat} (h : BY c pc 4) : decode c pc = .ok (.iconst 1, 1) := by_dec (n := pc + 1) (by
  unfold Decoder.instr
  exact by_b h rfl) (by omega)
theorem dk_5 {c : ByteArray} {pc : Nat} (h : BY c pc 5) : decode c pc = .ok (.iconst 2, 1) := by_dec (n := pc + 1) (by
  unfold Decoder.instr
  exact by_b h rfl) (by omega)
theorem dk_6 {c : ByteArray} {pc : Nat} (h : BY c pc 6) : decode c pc = .ok (.iconst 3, 1) := by_dec (n := pc + 1) (by
  unfold Decoder.instr
  exact by_b h rfl) (by omega)
theorem dk_7 {c : ByteArray} {pc : Nat} (h : BY c pc 7) : decode c pc = .ok (.iconst 4, 1) := by_dec (n := pc + 1) (by
  unfold Decoder.instr
  exact by_b h rfl) (by omega)
theorem dk_8 {c : ByteArray} {pc : Nat} (h : BY c pc 8) : decode c pc = .ok (.iconst 5, 1) := by_dec (n := pc + 1) (by
  unfold Decoder.instr
  exact by_b h rfl) (by omega)
theorem dk_9 {c : ByteArray} {pc : Nat} (h : BY c pc 9) : decode c pc = .ok (.lconst 0, 1) := by_dec (n := pc + 1) (by
  unfold Decoder.instr
  exact by_b h rfl) (by omega)
theorem dk_10 {c : ByteArray} {pc : Nat} (h : BY c pc 10) : decode c pc = .ok (.lconst 1, 1) := by_dec (n := pc + 1) (by
  unfold Decoder.instr
  exact by_b h rfl) (by omega)
theorem dk_16 {c : ByteArray} {pc a : Nat} (h : BY c pc 16) (h1 : BY c (pc + 1) a) : decode c pc = .ok (.bipush (Reader.signed 8 a), 2) := by_dec (n := pc + 2) (by
  unfold Decoder.instr
  exact by_b h (by_b (by_s1 h1) rfl)) (by omega)
theorem dk_17 {c : ByteArray} {pc a b : Nat} (h : BY c pc 17) (h1 : BY c (pc + 1) a) (h2 : BY c (pc + 2) b) : decode c pc = .ok (.sipush (Reader.signed 16 (a * 256 + b)), 3) := by_dec (n := pc + 3) (by
  unfold Decoder.instr
  exact by_b h (by_b (by_s2 h1 h2) rfl)) (by omega)
theorem dk_18 {c : ByteArray} {pc a : Nat} (h : BY c pc 18) (h1 : BY c (pc + 1) a) : decode c pc = .ok (.ldc a, 2) := by_dec (n := pc + 2) (by
  unfold Decoder.instr
  exact by_b h (by_b h1 rfl)) (by omega)
theorem dk_19 {c : ByteArray} {pc a b : Nat} (h : BY c pc 19) (h1 : BY c (pc + 1) a) (h2 : BY c (pc + 2) b) : decode c pc = .ok (.ldc_w (a * 256 + b), 3) := by_dec (n := pc + 3) (by
  unfold Decoder.instr
  exact by_b h (by_b (by_u2 h1 h2) rfl)) (by omega)
theorem dk_20 {c : ByteArray} {pc a b : Nat} (h : BY c pc 20) (h1 : BY c (pc + 1) a) (h2 : BY c (pc + 2) b) : decode c pc = .ok (.ldc2_w (a * 256 + b), 3) := by_dec (n := pc + 3) (by
  unfold Decoder.instr
  exact by_b h (by_b (by_u2 h1 h2) rfl)) (by omega)
theorem dk_21 {c : ByteArray} {pc a : Nat} (h : BY c pc 21) (h1 : BY c (pc + 1) a) : decode c pc = .ok (.iload a, 2) := by_dec (n := pc + 2) (by
  unfold Decoder.instr
  exact by_b h (by_b h1 rfl)) (by omega)
theorem dk_22 {c : ByteArray} {pc a : Nat} (h : BY c pc 22) (h1 : BY c (pc + 1) a) : decode c pc = .ok (.lload a, 2) := by_dec (n := pc + 2) (by
  unfold Decoder.instr
  exact by_b h (by_b h1 rfl)) (by omega)
theorem dk_25 {c : ByteArray} {pc a : Nat} (h : BY c pc 25) (h1 : BY c (pc + 1) a) : decode c pc = .ok (.aload a, 2) := by_dec (n := pc + 2) (by
  unfold Decoder.instr
  exact by_b h (by_b h1 rfl)) (by omega)
theorem dk_26 {c : ByteArray} {pc : Nat} (h : BY c pc 26) : decode c pc = .ok (.iload_n 0, 1) := by_dec (n := pc + 1) (by
  unfold Decoder.instr
  exact by_b h rfl) (by omega)
theorem dk_27 {c : ByteArray} {pc : Nat} (h : BY c pc 27) : decode c pc = .ok (.iload_n 1, 1) := by_dec (n := pc + 1) (by
  unfold Decoder.instr
  exact by_b h rfl) (by omega)
theorem dk_28 {c : ByteArray} {pc : Nat} (h : BY c pc 28) : decode c pc = .ok (.iload_n 2, 1) := by_dec (n := pc + 1) (by
  unfold Decoder.instr
  exact by_b h rfl) (by omega)
theorem dk_29 {c : ByteArray} {pc : Nat} (h : BY c pc 29) : decode c pc = .ok (.iload_n 3, 1) := by_dec (n := pc + 1) (by
  unfold Decoder.instr
  exact by_b h rfl) (by omega)
theorem dk_30 {c : ByteArray} {pc : Nat} (h : BY c pc 30) : decode c pc = .ok (.lload_n 0, 1) := by_dec (n := pc + 1) (by
  unfold Decoder.instr
  exact by_b h rfl) (by omega)
theorem dk_31 {c : ByteArray} {pc : Nat} (h : BY c pc 31) : decode c pc = .ok (.lload_n 1, 1) := by_dec (n := pc + 1) (by
  unfold Decoder.instr
  exact by_b h rfl) (by omega)
theorem dk_32 {c : ByteArray} {pc : Nat} (h : BY c pc 32) : decode c pc = .ok (.lload_n 2, 1) := by_dec (n := pc + 1) (by
  unfold Decoder.instr
  exact by_b h rfl) (by omega)
theorem dk_33 {c : ByteArray} {pc : Nat} (h : BY c pc 33) : decode c pc = .ok (.lload_n 3, 1) := by_dec (n := pc + 1) (by
  unfold Decoder.instr
  exact by_b h rfl) (by omega)
theorem dk_42 {c : ByteArray} {pc : Nat} (h : BY c pc 42) : decode c pc = .ok (.aload_n 0, 1) := by_dec (n := pc + 1) (by
  unfold Decoder.instr
  exact by_b h rfl) (by omega)
theorem dk_43 {c : ByteArray} {pc : Nat} (h : BY c pc 43) : decode c pc = .ok (.aload_n 1, 1) := by_dec (n := pc + 1) (by
  unfold Decoder.instr
  exact by_b h rfl) (by omega)
theorem dk_44 {c : ByteArray} {pc : Nat} (h : BY c pc 44) : decode c pc = .ok (.aload_n 2, 1) := by_dec (n := pc + 1) (by
  unfold Decoder.instr
  exact by_b h rfl) (by omega)
theorem dk_45 {c : ByteArray} {pc : Nat} (h : BY c pc 45) : decode c pc = .ok (.aload_n 3, 1) := by_dec (n := pc + 1) (by
  unfold Decoder.instr
  exact by_b h rfl) (by omega)
theorem dk_46 {c : ByteArray} {pc : Nat} (h : BY c pc 46) : decode c pc = .ok (.iaload, 1) := by_dec (n := pc + 1) (by
  unfold Decoder.instr
  exact by_b h rfl) (by omega)
theorem dk_47 {c : ByteArray} {pc : Nat} (h : BY c pc 47) : decode c pc = .ok (.laload, 1) := by_dec (n := pc + 1) (by
  unfold Decoder.instr
  exact by_b h rfl) (by omega)
theorem dk_50 {c : ByteArray} {pc : Nat} (h : BY c pc 50) : decode c pc = .ok (.aaload, 1) := by_dec (n := pc + 1) (by
  unfold Decoder.instr
  exact by_b h rfl) (by omega)
theorem dk_51 {c : ByteArray} {pc : Nat} (h : BY c pc 51) : decode c pc = .ok (.baload, 1) := by_dec (n := pc + 1) (by
  unfold Decoder.instr
  exact by_b h rfl) (by omega)
theorem dk_53 {c : ByteArray} {pc : Nat} (h : BY c pc 53) : decode c pc = .ok (.saload, 1) := by_dec (n := pc + 1) (by
  unfold Decoder.instr
  exact by_b h rfl) (by omega)
theorem dk_54 {c : ByteArray} {pc a : Nat} (h : BY c pc 54) (h1 : BY c (pc + 1) a) : decode c pc = .ok (.istore a, 2) := by_dec (n := pc + 2) (by
  unfold Decoder.instr
  exact by_b h (by_b h1 rfl)) (by omega)
theorem dk_55 {c : ByteArray} {pc a : Nat} (h : BY c pc 55) (h1 : BY c (pc + 1) a) : decode c pc = .ok (.lstore a, 2) := by_dec (n := pc + 2) (by
  unfold Decoder.instr
  exact by_b h (by_b h1 rfl)) (by omega)
theorem dk_58 {c : ByteArray} {pc a : Nat} (h : BY c pc 58) (h1 : BY c (pc + 1) a) : decode c pc = .ok (.astore a, 2) := by_dec (n := pc + 2) (by
  unfold Decoder.instr
  exact by_b h (by_b h1 rfl)) (by omega)
theorem dk_59 {c : ByteArray} {pc : Nat} (h : BY c pc 59) : decode c pc = .ok (.istore_n 0, 1) := by_dec (n := pc + 1) (by
  unfold Decoder.instr
  exact by_b h rfl) (by omega)
theorem dk_60 {c : ByteArray} {pc : Nat} (h : BY c pc 60) : decode c pc = .ok (.istore_n 1, 1) := by_dec (n := pc + 1) (by
  unfold Decoder.instr
  exact by_b h rfl) (by omega)
theorem dk_61 {c : ByteArray} {pc : Nat} (h : BY c pc 61) : decode c pc = .ok (.istore_n 2, 1) := by_dec (n := pc + 1) (by
  unfold Decoder.instr
  exact by_b h rfl) (by omega)
theorem dk_62 {c : ByteArray} {pc : Nat} (h : BY c pc 62) : decode c pc = .ok (.istore_n 3, 1) := by_dec (n := pc + 1) (by
  unfold Decoder.instr
  exact by_b h rfl) (by omega)
theorem dk_63 {c : ByteArray} {pc : Nat} (h : BY c pc 63) : decode c pc = .ok (.lstore_n 0, 1) := by_dec (n := pc + 1) (by
  unfold Decoder.instr
  exact by_b h rfl) (by omega)
theorem dk_64 {c : ByteArray} {pc : Nat} (h : BY c pc 64) : decode c pc = .ok (.lstore_n 1, 1) := by_dec (n := pc + 1) (by
  unfold Decoder.instr
  exact by_b h rfl) (by omega)
theorem dk_65 {c : ByteArray} {pc : Nat} (h : BY c pc 65) : decode c pc = .ok (.lstore_n 2, 1) := by_dec (n := pc + 1) (by
  unfold Decoder.instr
  exact by_b h rfl) (by omega)
theorem dk_66 {c : ByteArray} {pc : Nat} (h : BY c pc 66) : decode c pc = .ok (.lstore_n 3, 1) := by_dec (n := pc + 1) (by
  unfold Decoder.instr
  exact by_b h rfl) (by omega)
theorem dk_75 {c : ByteArray} {pc : Nat} (h : BY c pc 75) : decode c pc = .ok (.astore_n 0, 1) := by_dec (n := pc + 1) (by
  unfold Decoder.instr
  exact by_b h rfl) (by omega)
theorem dk_76 {c : ByteArray} {pc : Nat} (h : BY c pc 76) : decode c pc = .ok (.astore_n 1, 1) := by_dec (n := pc + 1) (by
  unfold Decoder.instr
  exact by_b h rfl) (by omega)
theorem dk_77 {c : ByteArray} {pc : Nat} (h : BY c pc 77) : decode c pc = .ok (.astore_n 2, 1) := by_dec (n := pc + 1) (by
  unfold Decoder.instr
  exact by_b h rfl) (by omega)
theorem dk_78 {c : ByteArray} {pc : Nat} (h : BY c pc 78) : decode c pc = .ok (.astore_n 3, 1) := by_dec (n := pc + 1) (by
  unfold Decoder.instr
  exact by_b h rfl) (by omega)
theorem dk_79 {c : ByteArray} {pc : Nat} (h : BY c pc 79) : decode c pc = .ok (.iastore, 1) := by_dec (n := pc + 1) (by
  unfold Decoder.instr
  exact by_b h rfl) (by omega)
theorem dk_80 {c : ByteArray} {pc : Nat} (h : BY c pc 80) : decode c pc = .ok (.lastore, 1) := by_dec (n := pc + 1) (by
  unfold Decoder.instr
  exact by_b h rfl) (by omega)
theorem dk_84 {c : ByteArray} {pc : Nat} (h : BY c pc 84) : decode c pc = .ok (.bastore, 1) := by_dec (n := pc + 1) (by
  unfold Decoder.instr
  exact by_b h rfl) (by omega)
theorem dk_86 {c : ByteArray} {pc : Nat} (h : BY c pc 86) : decode c pc = .ok (.sastore, 1) := by_dec (n := pc + 1) (by
  unfold Decoder.instr
  exact by_b h rfl) (by omega)
theorem dk_87 {c : ByteArray} {pc : Nat} (h : BY c pc 87) : decode c pc = .ok (.pop, 1) := by_dec (n := pc + 1) (by
  unfold Decoder.instr
  exact by_b h rfl) (by omega)
theorem dk_88 {c : ByteArray} {pc : Nat} (h : BY c pc 88) : decode c pc = .ok (.pop2, 1) := by_dec (n := pc + 1) (by
  unfold Decoder.instr
  exact by_b h rfl) (by omega)
theorem dk_89 {c : ByteArray} {pc : Nat} (h : BY c pc 89) : decode c pc = .ok (.dup, 1) := by_dec (n := pc + 1) (by
  unfold Decoder.instr
  exact by_b h rfl) (by omega)
theorem dk_92 {c : ByteArray} {pc : Nat} (h : BY c pc 92) : decode c pc = .ok (.dup2, 1) := by_dec (n := pc + 1) (by
  unfold Decoder.instr
  exact by_b h rfl) (by omega)
theorem dk_96 {c : ByteArray} {pc : Nat} (h : BY c pc 96) : decode c pc = .ok (.iadd, 1) := by_dec (n := pc + 1) (by
  unfold Decoder.instr
  exact by_b h rfl) (by omega)
theorem dk_97 {c : ByteArray} {pc : Nat} (h : BY c pc 97) : decode c pc = .ok (.ladd, 1) := by_dec (n := pc + 1) (by
  unfold Decoder.instr
  exact by_b h rfl) (by omega)
theorem dk_100 {c : ByteArray} {pc : Nat} (h : BY c pc 100) : decode c pc = .ok (.isub, 1) := by_dec (n := pc + 1) (by
  unfold Decoder.instr
  exact by_b h rfl) (by omega)
theorem dk_101 {c : ByteArray} {pc : Nat} (h : BY c pc 101) : decode c pc = .ok (.lsub, 1) := by_dec (n := pc + 1) (by
  unfold Decoder.instr
  exact by_b h rfl) (by omega)
theorem dk_104 {c : ByteArray} {pc : Nat} (h : BY c pc 104) : decode c pc = .ok (.imul, 1) := by_dec (n := pc + 1) (by
  unfold Decoder.instr
  exact by_b h rfl) (by omega)
theorem dk_105 {c : ByteArray} {pc : Nat} (h : BY c pc 105) : decode c pc = .ok (.lmul, 1) := by_dec (n := pc + 1) (by
  unfold Decoder.instr
  exact by_b h rfl) (by omega)
theorem dk_108 {c : ByteArray} {pc : Nat} (h : BY c pc 108) : decode c pc = .ok (.idiv, 1) := by_dec (n := pc + 1) (by
  unfold Decoder.instr
  exact by_b h rfl) (by omega)
theorem dk_109 {c : ByteArray} {pc : Nat} (h : BY c pc 109) : decode c pc = .ok (.ldiv, 1) := by_dec (n := pc + 1) (by
  unfold Decoder.instr
  exact by_b h rfl) (by omega)
theorem dk_112 {c : ByteArray} {pc : Nat} (h : BY c pc 112) : decode c pc = .ok (.irem, 1) := by_dec (n := pc + 1) (by
  unfold Decoder.instr
  exact by_b h rfl) (by omega)
theorem dk_113 {c : ByteArray} {pc : Nat} (h : BY c pc 113) : decode c pc = .ok (.lrem, 1) := by_dec (n := pc + 1) (by
  unfold Decoder.instr
  exact by_b h rfl) (by omega)
theorem dk_116 {c : ByteArray} {pc : Nat} (h : BY c pc 116) : decode c pc = .ok (.ineg, 1) := by_dec (n := pc + 1) (by
  unfold Decoder.instr
  exact by_b h rfl) (by omega)
theorem dk_117 {c : ByteArray} {pc : Nat} (h : BY c pc 117) : decode c pc = .ok (.lneg, 1) := by_dec (n := pc + 1) (by
  unfold Decoder.instr
  exact by_b h rfl) (by omega)
theorem dk_120 {c : ByteArray} {pc : Nat} (h : BY c pc 120) : decode c pc = .ok (.ishl, 1) := by_dec (n := pc + 1) (by
  unfold Decoder.instr
  exact by_b h rfl) (by omega)
theorem dk_121 {c : ByteArray} {pc : Nat} (h : BY c pc 121) : decode c pc = .ok (.lshl, 1) := by_dec (n := pc + 1) (by
  unfold Decoder.instr
  exact by_b h rfl) (by omega)
theorem dk_122 {c : ByteArray} {pc : Nat} (h : BY c pc 122) : decode c pc = .ok (.ishr, 1) := by_dec (n := pc + 1) (by
  unfold Decoder.instr
  exact by_b h rfl) (by omega)
theorem dk_123 {c : ByteArray} {pc : Nat} (h : BY c pc 123) : decode c pc = .ok (.lshr, 1) := by_dec (n := pc + 1) (by
  unfold Decoder.instr
  exact by_b h rfl) (by omega)
theorem dk_124 {c : ByteArray} {pc : Nat} (h : BY c pc 124) : decode c pc = .ok (.iushr, 1) := by_dec (n := pc + 1) (by
  unfold Decoder.instr
  exact by_b h rfl) (by omega)
theorem dk_125 {c : ByteArray} {pc : Nat} (h : BY c pc 125) : decode c pc = .ok (.lushr, 1) := by_dec (n := pc + 1) (by
  unfold Decoder.instr
  exact by_b h rfl) (by omega)
theorem dk_126 {c : ByteArray} {pc : Nat} (h : BY c pc 126) : decode c pc = .ok (.iand, 1) := by_dec (n := pc + 1) (by
  unfold Decoder.instr
  exact by_b h rfl) (by omega)
theorem dk_127 {c : ByteArray} {pc : Nat} (h : BY c pc 127) : decode c pc = .ok (.land, 1) := by_dec (n := pc + 1) (by
  unfold Decoder.instr
  exact by_b h rfl) (by omega)
theorem dk_128 {c : ByteArray} {pc : Nat} (h : BY c pc 128) : decode c pc = .ok (.ior, 1) := by_dec (n := pc + 1) (by
  unfold Decoder.instr
  exact by_b h rfl) (by omega)
theorem dk_129 {c : ByteArray} {pc : Nat} (h : BY c pc 129) : decode c pc = .ok (.lor, 1) := by_dec (n := pc + 1) (by
  unfold Decoder.instr
  exact by_b h rfl) (by omega)
theorem dk_130 {c : ByteArray} {pc : Nat} (h : BY c pc 130) : decode c pc = .ok (.ixor, 1) := by_dec (n := pc + 1) (by
  unfold Decoder.instr
  exact by_b h rfl) (by omega)
theorem dk_131 {c : ByteArray} {pc : Nat} (h : BY c pc 131) : decode c pc = .ok (.lxor, 1) := by_dec (n := pc + 1) (by
  unfold Decoder.instr
  exact by_b h rfl) (by omega)
theorem dk_132 {c : ByteArray} {pc a b : Nat} (h : BY c pc 132) (h1 : BY c (pc + 1) a) (h2 : BY c (pc + 2) b) : decode c pc = .ok (.iinc a (Reader.signed 8 b), 3) := by_dec (n := pc + 3) (by
  unfold Decoder.instr
  exact by_b h (by_b h1 (by_b (by_s1 h2) rfl))) (by omega)
theorem dk_133 {c : ByteArray} {pc : Nat} (h : BY c pc 133) : decode c pc = .ok (.i2l, 1) := by_dec (n := pc + 1) (by
  unfold Decoder.instr
  exact by_b h rfl) (by omega)
theorem dk_136 {c : ByteArray} {pc : Nat} (h : BY c pc 136) : decode c pc = .ok (.l2i, 1) := by_dec (n := pc + 1) (by
  unfold Decoder.instr
  exact by_b h rfl) (by omega)
theorem dk_145 {c : ByteArray} {pc : Nat} (h : BY c pc 145) : decode c pc = .ok (.i2b, 1) := by_dec (n := pc + 1) (by
  unfold Decoder.instr
  exact by_b h rfl) (by omega)
theorem dk_147 {c : ByteArray} {pc : Nat} (h : BY c pc 147) : decode c pc = .ok (.i2s, 1) := by_dec (n := pc + 1) (by
  unfold Decoder.instr
  exact by_b h rfl) (by omega)
theorem dk_148 {c : ByteArray} {pc : Nat} (h : BY c pc 148) : decode c pc = .ok (.lcmp, 1) := by_dec (n := pc + 1) (by
  unfold Decoder.instr
  exact by_b h rfl) (by omega)
theorem dk_153 {c : ByteArray} {pc a b : Nat} (h : BY c pc 153) (h1 : BY c (pc + 1) a) (h2 : BY c (pc + 2) b) : decode c pc = .ok (.ifCond .eq (Reader.signed 16 (a * 256 + b)), 3) := by_dec (n := pc + 3) (by
  unfold Decoder.instr
  exact by_b h (by_b (by_s2 h1 h2) rfl)) (by omega)
theorem dk_154 {c : ByteArray} {pc a b : Nat} (h : BY c pc 154) (h1 : BY c (pc + 1) a) (h2 : BY c (pc + 2) b) : decode c pc = .ok (.ifCond .ne (Reader.signed 16 (a * 256 + b)), 3) := by_dec (n := pc + 3) (by
  unfold Decoder.instr
  exact by_b h (by_b (by_s2 h1 h2) rfl)) (by omega)
theorem dk_155 {c : ByteArray} {pc a b : Nat} (h : BY c pc 155) (h1 : BY c (pc + 1) a) (h2 : BY c (pc + 2) b) : decode c pc = .ok (.ifCond .lt (Reader.signed 16 (a * 256 + b)), 3) := by_dec (n := pc + 3) (by
  unfold Decoder.instr
  exact by_b h (by_b (by_s2 h1 h2) rfl)) (by omega)
theorem dk_156 {c : ByteArray} {pc a b : Nat} (h : BY c pc 156) (h1 : BY c (pc + 1) a) (h2 : BY c (pc + 2) b) : decode c pc = .ok (.ifCond .ge (Reader.signed 16 (a * 256 + b)), 3) := by_dec (n := pc + 3) (by
  unfold Decoder.instr
  exact by_b h (by_b (by_s2 h1 h2) rfl)) (by omega)
theorem dk_157 {c : ByteArray} {pc a b : Nat} (h : BY c pc 157) (h1 : BY c (pc + 1) a) (h2 : BY c (pc + 2) b) : decode c pc = .ok (.ifCond .gt (Reader.signed 16 (a * 256 + b)), 3) := by_dec (n := pc + 3) (by
  unfold Decoder.instr
  exact by_b h (by_b (by_s2 h1 h2) rfl)) (by omega)
theorem dk_158 {c : ByteArray} {pc a b : Nat} (h : BY c pc 158) (h1 : BY c (pc + 1) a) (h2 : BY c (pc + 2) b) : decode c pc = .ok (.ifCond .le (Reader.signed 16 (a * 256 + b)), 3) := by_dec (n := pc + 3) (by
  unfold Decoder.instr
  exact by_b h (by_b (by_s2 h1 h2) rfl)) (by omega)
theorem dk_159 {c : ByteArray} {pc a b : Nat} (h : BY c pc 159) (h1 : BY c (pc + 1) a) (h2 : BY c (pc + 2) b) : decode c pc = .ok (.if_icmp .eq (Reader.signed 16 (a * 256 + b)), 3) := by_dec (n := pc + 3) (by
  unfold Decoder.instr
  exact by_b h (by_b (by_s2 h1 h2) rfl)) (by omega)
theorem dk_160 {c : ByteArray} {pc a b : Nat} (h : BY c pc 160) (h1 : BY c (pc + 1) a) (h2 : BY c (pc + 2) b) : decode c pc = .ok (.if_icmp .ne (Reader.signed 16 (a * 256 + b)), 3) := by_dec (n := pc + 3) (by
  unfold Decoder.instr
  exact by_b h (by_b (by_s2 h1 h2) rfl)) (by omega)
theorem dk_161 {c : ByteArray} {pc a b : Nat} (h : BY c pc 161) (h1 : BY c (pc + 1) a) (h2 : BY c (pc + 2) b) : decode c pc = .ok (.if_icmp .lt (Reader.signed 16 (a * 256 + b)), 3) := by_dec (n := pc + 3) (by
  unfold Decoder.instr
  exact by_b h (by_b (by_s2 h1 h2) rfl)) (by omega)
theorem dk_162 {c : ByteArray} {pc a b : Nat} (h : BY c pc 162) (h1 : BY c (pc + 1) a) (h2 : BY c (pc + 2) b) : decode c pc = .ok (.if_icmp .ge (Reader.signed 16 (a * 256 + b)), 3) := by_dec (n := pc + 3) (by
  unfold Decoder.instr
  exact by_b h (by_b (by_s2 h1 h2) rfl)) (by omega)
theorem dk_163 {c : ByteArray} {pc a b : Nat} (h : BY c pc 163) (h1 : BY c (pc + 1) a) (h2 : BY c (pc + 2) b) : decode c pc = .ok (.if_icmp .gt (Reader.signed 16 (a * 256 + b)), 3) := by_dec (n := pc + 3) (by
  unfold Decoder.instr
  exact by_b h (by_b (by_s2 h1 h2) rfl)) (by omega)
theorem dk_164 {c : ByteArray} {pc a b : Nat} (h : BY c pc 164) (h1 : BY c (pc + 1) a) (h2 : BY c (pc + 2) b) : decode c pc = .ok (.if_icmp .le (Reader.signed 16 (a * 256 + b)), 3) := by_dec (n := pc + 3) (by
  unfold Decoder.instr
  exact by_b h (by_b (by_s2 h1 h2) rfl)) (by omega)
theorem dk_167 {c : ByteArray} {pc a b : Nat} (h : BY c pc 167) (h1 : BY c (pc + 1) a) (h2 : BY c (pc + 2) b) : decode c pc = .ok (.goto (Reader.signed 16 (a * 256 + b)), 3) := by_dec (n := pc + 3) (by
  unfold Decoder.instr
  exact by_b h (by_b (by_s2 h1 h2) rfl)) (by omega)
theorem dk_172 {c : ByteArray} {pc : Nat} (h : BY c pc 172) : decode c pc = .ok (.ireturn, 1) := by_dec (n := pc + 1) (by
  unfold Decoder.instr
  exact by_b h rfl) (by omega)
theorem dk_173 {c : ByteArray} {pc : Nat} (h : BY c pc 173) : decode c pc = .ok (.lreturn, 1) := by_dec (n := pc + 1) (by
  unfold Decoder.instr
  exact by_b h rfl) (by omega)
theorem dk_176 {c : ByteArray} {pc : Nat} (h : BY c pc 176) : decode c pc = .ok (.areturn, 1) := by_dec (n := pc + 1) (by
  unfold Decoder.instr
  exact by_b h rfl) (by omega)
theorem dk_177 {c : ByteArray} {pc : Nat} (h : BY c pc 177) : decode c pc = .ok (.return_, 1) := by_dec (n := pc + 1) (by
  unfold Decoder.instr
  exact by_b h rfl) (by omega)
theorem dk_178 {c : ByteArray} {pc a b : Nat} (h : BY c pc 178) (h1 : BY c (pc + 1) a) (h2 : BY c (pc + 2) b) : decode c pc = .ok (.getstatic (a * 256 + b), 3) := by_dec (n := pc + 3) (by
  unfold Decoder.instr
  exact by_b h (by_b (by_u2 h1 h2) rfl)) (by omega)
theorem dk_180 {c : ByteArray} {pc a b : Nat} (h : BY c pc 180) (h1 : BY c (pc + 1) a) (h2 : BY c (pc + 2) b) : decode c pc = .ok (.getfield (a * 256 + b), 3) := by_dec (n := pc + 3) (by
  unfold Decoder.instr
  exact by_b h (by_b (by_u2 h1 h2) rfl)) (by omega)
theorem dk_181 {c : ByteArray} {pc a b : Nat} (h : BY c pc 181) (h1 : BY c (pc + 1) a) (h2 : BY c (pc + 2) b) : decode c pc = .ok (.putfield (a * 256 + b), 3) := by_dec (n := pc + 3) (by
  unfold Decoder.instr
  exact by_b h (by_b (by_u2 h1 h2) rfl)) (by omega)
theorem dk_182 {c : ByteArray} {pc a b : Nat} (h : BY c pc 182) (h1 : BY c (pc + 1) a) (h2 : BY c (pc + 2) b) : decode c pc = .ok (.invokevirtual (a * 256 + b), 3) := by_dec (n := pc + 3) (by
  unfold Decoder.instr
  exact by_b h (by_b (by_u2 h1 h2) rfl)) (by omega)
theorem dk_183 {c : ByteArray} {pc a b : Nat} (h : BY c pc 183) (h1 : BY c (pc + 1) a) (h2 : BY c (pc + 2) b) : decode c pc = .ok (.invokespecial (a * 256 + b), 3) := by_dec (n := pc + 3) (by
  unfold Decoder.instr
  exact by_b h (by_b (by_u2 h1 h2) rfl)) (by omega)
theorem dk_184 {c : ByteArray} {pc a b : Nat} (h : BY c pc 184) (h1 : BY c (pc + 1) a) (h2 : BY c (pc + 2) b) : decode c pc = .ok (.invokestatic (a * 256 + b), 3) := by_dec (n := pc + 3) (by
  unfold Decoder.instr
  exact by_b h (by_b (by_u2 h1 h2) rfl)) (by omega)
theorem dk_187 {c : ByteArray} {pc a b : Nat} (h : BY c pc 187) (h1 : BY c (pc + 1) a) (h2 : BY c (pc + 2) b) : decode c pc = .ok (.new (a * 256 + b), 3) := by_dec (n := pc + 3) (by
  unfold Decoder.instr
  exact by_b h (by_b (by_u2 h1 h2) rfl)) (by omega)
theorem dk_190 {c : ByteArray} {pc : Nat} (h : BY c pc 190) : decode c pc = .ok (.arraylength, 1) := by_dec (n := pc + 1) (by
  unfold Decoder.instr
  exact by_b h rfl) (by omega)
theorem dk_188_4 {c : ByteArray} {pc : Nat} (h : BY c pc 188) (h1 : BY c (pc + 1) 4) : decode c pc = .ok (.newarray .boolean, 2) := by_dec (n := pc + 2) (by
  unfold Decoder.instr
  exact by_b h (by
    unfold Decoder.newarray
    exact by_b h1 rfl)) (by omega)
theorem dk_188_8 {c : ByteArray} {pc : Nat} (h : BY c pc 188) (h1 : BY c (pc + 1) 8) : decode c pc = .ok (.newarray .byte, 2) := by_dec (n := pc + 2) (by
  unfold Decoder.instr
  exact by_b h (by
    unfold Decoder.newarray
    exact by_b h1 rfl)) (by omega)
theorem dk_188_9 {c : ByteArray} {pc : Nat} (h : BY c pc 188) (h1 : BY c (pc + 1) 9) : decode c pc = .ok (.newarray .short, 2) := by_dec (n := pc + 2) (by
  unfold Decoder.instr
  exact by_b h (by
    unfold Decoder.newarray
    exact by_b h1 rfl)) (by omega)
theorem dk_188_10 {c : ByteArray} {pc : Nat} (h : BY c pc 188) (h1 : BY c (pc + 1) 10) : decode c pc = .ok (.newarray .int, 2) := by_dec (n := pc + 2) (by
  unfold Decoder.instr
  exact by_b h (by
    unfold Decoder.newarray
    exact by_b h1 rfl)) (by omega)
theorem dk_188_11 {c : ByteArray} {pc : Nat} (h : BY c pc 188) (h1 : BY c (pc + 1) 11) : decode c pc = .ok (.newarray .long, 2) := by_dec (n := pc + 2) (by
  unfold Decoder.instr
  exact by_b h (by
    unfold Decoder.newarray
    exact by_b h1 rfl)) (by omega)
theorem bq {c : ByteArray} {p b n : Nat} (h : Nat.beq b n = true) (hb : BY c p b) : BY c p n := Nat.eq_of_beq_eq_true h ▸ hb
theorem ba2 {a b : Bool} (h : (a && b) = true) : a = true ∧ b = true := by
  cases a with
  | false => cases h
  | true => exact ⟨rfl, h⟩
def cnx (x : Jvm.ClassFile.Cond) : Nat := Jvm.ClassFile.Cond.casesOn x 0 1 2 3 4 5
def fd1 (i : Instr) (b : Nat) : Bool :=
  match i with
  | .aaload => Nat.beq b 50
  | .aload_n n => Nat.beq b (42 + n.val)
  | .areturn => Nat.beq b 176
  | .arraylength => Nat.beq b 190
  | .astore_n n => Nat.beq b (75 + n.val)
  | .baload => Nat.beq b 51
  | .bastore => Nat.beq b 84
  | .dup => Nat.beq b 89
  | .dup2 => Nat.beq b 92
  | .i2b => Nat.beq b 145
  | .i2l => Nat.beq b 133
  | .i2s => Nat.beq b 147
  | .iadd => Nat.beq b 96
  | .iaload => Nat.beq b 46
  | .iand => Nat.beq b 126
  | .iastore => Nat.beq b 79
  | .iconst v => decide (v = (b : Int) - 3) && (Nat.ble 2 b && Nat.ble b 8)
  | .idiv => Nat.beq b 108
  | .iload_n n => Nat.beq b (26 + n.val)
  | .imul => Nat.beq b 104
  | .ineg => Nat.beq b 116
  | .ior => Nat.beq b 128
  | .irem => Nat.beq b 112
  | .ireturn => Nat.beq b 172
  | .ishl => Nat.beq b 120
  | .ishr => Nat.beq b 122
  | .istore_n n => Nat.beq b (59 + n.val)
  | .isub => Nat.beq b 100
  | .iushr => Nat.beq b 124
  | .ixor => Nat.beq b 130
  | .l2i => Nat.beq b 136
  | .ladd => Nat.beq b 97
  | .laload => Nat.beq b 47
  | .land => Nat.beq b 127
  | .lastore => Nat.beq b 80
  | .lcmp => Nat.beq b 148
  | .lconst n => Nat.beq b (9 + n.val)
  | .ldiv => Nat.beq b 109
  | .lload_n n => Nat.beq b (30 + n.val)
  | .lmul => Nat.beq b 105
  | .lor => Nat.beq b 129
  | .lrem => Nat.beq b 113
  | .lreturn => Nat.beq b 173
  | .lshl => Nat.beq b 121
  | .lshr => Nat.beq b 123
  | .lushr => Nat.beq b 125
  | .lneg => Nat.beq b 117
  | .lxor => Nat.beq b 131
  | .lstore_n n => Nat.beq b (63 + n.val)
  | .lsub => Nat.beq b 101
  | .pop => Nat.beq b 87
  | .pop2 => Nat.beq b 88
  | .return_ => Nat.beq b 177
  | .saload => Nat.beq b 53
  | .sastore => Nat.beq b 86
  | _ => false
def fd2 (i : Instr) (b a : Nat) : Bool :=
  match i with
  | .aload n => Nat.beq b 25 && Nat.beq a n
  | .astore n => Nat.beq b 58 && Nat.beq a n
  | .bipush v => Nat.beq b 16 && decide (Reader.signed 8 a = v)
  | .iload n => Nat.beq b 21 && Nat.beq a n
  | .istore n => Nat.beq b 54 && Nat.beq a n
  | .ldc n => Nat.beq b 18 && Nat.beq a n
  | .lload n => Nat.beq b 22 && Nat.beq a n
  | .lstore n => Nat.beq b 55 && Nat.beq a n
  | .newarray .boolean => Nat.beq b 188 && Nat.beq a 4
  | .newarray .byte => Nat.beq b 188 && Nat.beq a 8
  | .newarray .short => Nat.beq b 188 && Nat.beq a 9
  | .newarray .int => Nat.beq b 188 && Nat.beq a 10
  | .newarray .long => Nat.beq b 188 && Nat.beq a 11
  | _ => false
def fd3 (i : Instr) (b a d : Nat) : Bool :=
  match i with
  | .getfield n => Nat.beq b 180 && Nat.beq (a * 256 + d) n
  | .getstatic n => Nat.beq b 178 && Nat.beq (a * 256 + d) n
  | .goto v => Nat.beq b 167 && decide (Reader.signed 16 (a * 256 + d) = v)
  | .ifCond x v => Nat.beq b (153 + cnx x) && decide (Reader.signed 16 (a * 256 + d) = v)
  | .if_icmp x v => Nat.beq b (159 + cnx x) && decide (Reader.signed 16 (a * 256 + d) = v)
  | .iinc n v => Nat.beq b 132 && (Nat.beq a n && decide (Reader.signed 8 d = v))
  | .invokespecial n => Nat.beq b 183 && Nat.beq (a * 256 + d) n
  | .invokestatic n => Nat.beq b 184 && Nat.beq (a * 256 + d) n
  | .invokevirtual n => Nat.beq b 182 && Nat.beq (a * 256 + d) n
  | .ldc2_w n => Nat.beq b 20 && Nat.beq (a * 256 + d) n
  | .ldc_w n => Nat.beq b 19 && Nat.beq (a * 256 + d) n
  | .new n => Nat.beq b 187 && Nat.beq (a * 256 + d) n
  | .putfield n => Nat.beq b 181 && Nat.beq (a * 256 + d) n
  | .sipush v => Nat.beq b 17 && decide (Reader.signed 16 (a * 256 + d) = v)
  | _ => false
theorem fd1_ok {c : ByteArray} {p b : Nat} {i : Instr} (h : fd1 i b = true) (hb : BY c p b) : decode c p = .ok (i, 1) := by
  cases i with
  | aaload => exact dk_50 (bq h hb)
  | aload_n n =>
    obtain ⟨n, hn⟩ := n
    rcases (by omega : n = 0 ∨ n = 1 ∨ n = 2 ∨ n = 3) with e | e | e | e <;> subst e
    · exact dk_42 (bq h hb)
    · exact dk_43 (bq h hb)
    · exact dk_44 (bq h hb)
    · exact dk_45 (bq h hb)
  | areturn => exact dk_176 (bq h hb)
  | arraylength => exact dk_190 (bq h hb)
  | astore_n n =>
    obtain ⟨n, hn⟩ := n
    rcases (by omega : n = 0 ∨ n = 1 ∨ n = 2 ∨ n = 3) with e | e | e | e <;> subst e
    · exact dk_75 (bq h hb)
    · exact dk_76 (bq h hb)
    · exact dk_77 (bq h hb)
    · exact dk_78 (bq h hb)
  | baload => exact dk_51 (bq h hb)
  | bastore => exact dk_84 (bq h hb)
  | dup => exact dk_89 (bq h hb)
  | dup2 => exact dk_92 (bq h hb)
  | i2b => exact dk_145 (bq h hb)
  | i2l => exact dk_133 (bq h hb)
  | i2s => exact dk_147 (bq h hb)
  | iadd => exact dk_96 (bq h hb)
  | iaload => exact dk_46 (bq h hb)
  | iand => exact dk_126 (bq h hb)
  | iastore => exact dk_79 (bq h hb)
  | iconst v =>
    have h1 := of_decide_eq_true (ba2 h).1
    have h2 := Nat.le_of_ble_eq_true (ba2 (ba2 h).2).1
    have h3 := Nat.le_of_ble_eq_true (ba2 (ba2 h).2).2
    clear h
    rcases (by omega : b = 2 ∨ b = 3 ∨ b = 4 ∨ b = 5 ∨ b = 6 ∨ b = 7 ∨ b = 8) with e | e | e | e | e | e | e <;> subst e <;> subst h1
    · exact dk_2 hb
    · exact dk_3 hb
    · exact dk_4 hb
    · exact dk_5 hb
    · exact dk_6 hb
    · exact dk_7 hb
    · exact dk_8 hb
  | idiv => exact dk_108 (bq h hb)
  | iload_n n =>
    obtain ⟨n, hn⟩ := n
    rcases (by omega : n = 0 ∨ n = 1 ∨ n = 2 ∨ n = 3) with e | e | e | e <;> subst e
    · exact dk_26 (bq h hb)
    · exact dk_27 (bq h hb)
    · exact dk_28 (bq h hb)
    · exact dk_29 (bq h hb)
  | imul => exact dk_104 (bq h hb)
  | ineg => exact dk_116 (bq h hb)
  | ior => exact dk_128 (bq h hb)
  | irem => exact dk_112 (bq h hb)
  | ireturn => exact dk_172 (bq h hb)
  | ishl => exact dk_120 (bq h hb)
  | ishr => exact dk_122 (bq h hb)
  | istore_n n =>
    obtain ⟨n, hn⟩ := n
    rcases (by omega : n = 0 ∨ n = 1 ∨ n = 2 ∨ n = 3) with e | e | e | e <;> subst e
    · exact dk_59 (bq h hb)
    · exact dk_60 (bq h hb)
    · exact dk_61 (bq h hb)
    · exact dk_62 (bq h hb)
  | isub => exact dk_100 (bq h hb)
  | iushr => exact dk_124 (bq h hb)
  | ixor => exact dk_130 (bq h hb)
  | l2i => exact dk_136 (bq h hb)
  | ladd => exact dk_97 (bq h hb)
  | laload => exact dk_47 (bq h hb)
  | land => exact dk_127 (bq h hb)
  | lastore => exact dk_80 (bq h hb)
  | lcmp => exact dk_148 (bq h hb)
  | lconst n =>
    obtain ⟨n, hn⟩ := n
    rcases (by omega : n = 0 ∨ n = 1) with e | e <;> subst e
    · exact dk_9 (bq h hb)
    · exact dk_10 (bq h hb)
  | ldiv => exact dk_109 (bq h hb)
  | lload_n n =>
    obtain ⟨n, hn⟩ := n
    rcases (by omega : n = 0 ∨ n = 1 ∨ n = 2 ∨ n = 3) with e | e | e | e <;> subst e
    · exact dk_30 (bq h hb)
    · exact dk_31 (bq h hb)
    · exact dk_32 (bq h hb)
    · exact dk_33 (bq h hb)
  | lmul => exact dk_105 (bq h hb)
  | lor => exact dk_129 (bq h hb)
  | lrem => exact dk_113 (bq h hb)
  | lreturn => exact dk_173 (bq h hb)
  | lshl => exact dk_121 (bq h hb)
  | lshr => exact dk_123 (bq h hb)
  | lushr => exact dk_125 (bq h hb)
  | lneg => exact dk_117 (bq h hb)
  | lxor => exact dk_131 (bq h hb)
  | lstore_n n =>
    obtain ⟨n, hn⟩ := n
    rcases (by omega : n = 0 ∨ n = 1 ∨ n = 2 ∨ n = 3) with e | e | e | e <;> subst e
    · exact dk_63 (bq h hb)
    · exact dk_64 (bq h hb)
    · exact dk_65 (bq h hb)
    · exact dk_66 (bq h hb)
  | lsub => exact dk_101 (bq h hb)
  | pop => exact dk_87 (bq h hb)
  | pop2 => exact dk_88 (bq h hb)
  | return_ => exact dk_177 (bq h hb)
  | saload => exact dk_53 (bq h hb)
  | sastore => exact dk_86 (bq h hb)
  | _ => exact absurd h Bool.false_ne_true
theorem fd2_ok {c : ByteArray} {p b a : Nat} {i : Instr} (h : fd2 i b a = true) (hb : BY c p b) (ha : BY c (p + 1) a) : decode c p = .ok (i, 2) := by
  cases i with
  | aload n => exact dk_25 (bq (ba2 h).1 hb) (bq (ba2 h).2 ha)
  | astore n => exact dk_58 (bq (ba2 h).1 hb) (bq (ba2 h).2 ha)
  | bipush v =>
    rw [← of_decide_eq_true (ba2 h).2]
    exact dk_16 (bq (ba2 h).1 hb) ha
  | iload n => exact dk_21 (bq (ba2 h).1 hb) (bq (ba2 h).2 ha)
  | istore n => exact dk_54 (bq (ba2 h).1 hb) (bq (ba2 h).2 ha)
  | ldc n => exact dk_18 (bq (ba2 h).1 hb) (bq (ba2 h).2 ha)
  | lload n => exact dk_22 (bq (ba2 h).1 hb) (bq (ba2 h).2 ha)
  | lstore n => exact dk_55 (bq (ba2 h).1 hb) (bq (ba2 h).2 ha)
  | newarray t =>
    cases t with
    | boolean => exact dk_188_4 (bq (ba2 h).1 hb) (bq (ba2 h).2 ha)
    | byte => exact dk_188_8 (bq (ba2 h).1 hb) (bq (ba2 h).2 ha)
    | short => exact dk_188_9 (bq (ba2 h).1 hb) (bq (ba2 h).2 ha)
    | int => exact dk_188_10 (bq (ba2 h).1 hb) (bq (ba2 h).2 ha)
    | long => exact dk_188_11 (bq (ba2 h).1 hb) (bq (ba2 h).2 ha)
    | _ => exact absurd h Bool.false_ne_true
  | _ => exact absurd h Bool.false_ne_true
theorem fd3_ok {c : ByteArray} {p b a d : Nat} {i : Instr} (h : fd3 i b a d = true) (hb : BY c p b) (ha : BY c (p + 1) a) (hd : BY c (p + 2) d) : decode c p = .ok (i, 3) := by
  cases i with
  | getfield n =>
    rw [← Nat.eq_of_beq_eq_true (ba2 h).2]
    exact dk_180 (bq (ba2 h).1 hb) ha hd
  | getstatic n =>
    rw [← Nat.eq_of_beq_eq_true (ba2 h).2]
    exact dk_178 (bq (ba2 h).1 hb) ha hd
  | goto v =>
    rw [← of_decide_eq_true (ba2 h).2]
    exact dk_167 (bq (ba2 h).1 hb) ha hd
  | ifCond x v =>
    rw [← of_decide_eq_true (ba2 h).2]
    cases x with
    | eq => exact dk_153 (bq (ba2 h).1 hb) ha hd
    | ne => exact dk_154 (bq (ba2 h).1 hb) ha hd
    | lt => exact dk_155 (bq (ba2 h).1 hb) ha hd
    | ge => exact dk_156 (bq (ba2 h).1 hb) ha hd
    | gt => exact dk_157 (bq (ba2 h).1 hb) ha hd
    | le => exact dk_158 (bq (ba2 h).1 hb) ha hd
  | if_icmp x v =>
    rw [← of_decide_eq_true (ba2 h).2]
    cases x with
    | eq => exact dk_159 (bq (ba2 h).1 hb) ha hd
    | ne => exact dk_160 (bq (ba2 h).1 hb) ha hd
    | lt => exact dk_161 (bq (ba2 h).1 hb) ha hd
    | ge => exact dk_162 (bq (ba2 h).1 hb) ha hd
    | gt => exact dk_163 (bq (ba2 h).1 hb) ha hd
    | le => exact dk_164 (bq (ba2 h).1 hb) ha hd
  | iinc n v =>
    rw [← of_decide_eq_true (ba2 (ba2 h).2).2, ← Nat.eq_of_beq_eq_true (ba2 (ba2 h).2).1]
    exact dk_132 (bq (ba2 h).1 hb) ha hd
  | invokespecial n =>
    rw [← Nat.eq_of_beq_eq_true (ba2 h).2]
    exact dk_183 (bq (ba2 h).1 hb) ha hd
  | invokestatic n =>
    rw [← Nat.eq_of_beq_eq_true (ba2 h).2]
    exact dk_184 (bq (ba2 h).1 hb) ha hd
  | invokevirtual n =>
    rw [← Nat.eq_of_beq_eq_true (ba2 h).2]
    exact dk_182 (bq (ba2 h).1 hb) ha hd
  | ldc2_w n =>
    rw [← Nat.eq_of_beq_eq_true (ba2 h).2]
    exact dk_20 (bq (ba2 h).1 hb) ha hd
  | ldc_w n =>
    rw [← Nat.eq_of_beq_eq_true (ba2 h).2]
    exact dk_19 (bq (ba2 h).1 hb) ha hd
  | new n =>
    rw [← Nat.eq_of_beq_eq_true (ba2 h).2]
    exact dk_187 (bq (ba2 h).1 hb) ha hd
  | putfield n =>
    rw [← Nat.eq_of_beq_eq_true (ba2 h).2]
    exact dk_181 (bq (ba2 h).1 hb) ha hd
  | sipush v =>
    rw [← of_decide_eq_true (ba2 h).2]
    exact dk_17 (bq (ba2 h).1 hb) ha hd
  | _ => exact absurd h Bool.false_ne_true
theorem by_l {code : ByteArray} {p : Nat} {b : UInt8} {r : List UInt8} (h : code.data.toList.drop p = b :: r) : BY code p b.toNat ∧ code.data.toList.drop (p + 1) = r := by
  have h1 : p < code.data.toList.length := by
    rcases Nat.lt_or_ge p code.data.toList.length with c | c
    · exact c
    · rw [List.drop_eq_nil_of_le c] at h
      cases h
  have h2 := List.drop_eq_getElem_cons h1
  rw [h] at h2
  injection h2 with h3 h4
  refine ⟨?_, h4.symm⟩
  have h5 : p < code.size := h1
  show (if h : p < code.size then _ else _ : Decoder Nat) code p = _
  rw [dif_pos h5]
  show Except.ok (code[p].toNat, p + 1) = _
  have h6 : code[p] = b := h3.symm
  rw [h6]
/-- a row of instructions is told by the bytes from p on -/
def ck3 (e : Instr × Nat) (k : List UInt8 → Bool) (b a : UInt8) (bs : List UInt8) : Bool :=
  match bs with
  | [] => false
  | d :: r => Nat.beq e.2 3 && (fd3 e.1 b.toNat a.toNat d.toNat && k r)
def ck2 (e : Instr × Nat) (k : List UInt8 → Bool) (b : UInt8) (bs : List UInt8) : Bool :=
  match bs with
  | [] => false
  | a :: r => bif Nat.beq e.2 2 then fd2 e.1 b.toNat a.toNat && k r else ck3 e k b a r
def ck1 (e : Instr × Nat) (k : List UInt8 → Bool) (bs : List UInt8) : Bool :=
  match bs with
  | [] => false
  | b :: r => bif Nat.beq e.2 1 then fd1 e.1 b.toNat && k r else ck2 e k b r
noncomputable def ckb (L : List (Instr × Nat)) : List UInt8 → Bool :=
  List.rec (motive := fun _ => List UInt8 → Bool) (fun _ => true) (fun e _ k bs => ck1 e k bs) L
noncomputable def AllR (code : ByteArray) (L : List (Instr × Nat)) : Nat → Prop :=
  List.rec (motive := fun _ => Nat → Prop) (fun _ => True) (fun e _ k p => decode code p = .ok (e.1, e.2) ∧ k (p + e.2)) L
theorem ck3_ok {code : ByteArray} {p : Nat} {e : Instr × Nat} {k : List UInt8 → Bool} {b a : UInt8} {r : List UInt8} (y1 : BY code p b.toNat) (y2 : BY code (p + 1) a.toNat) (z2 : code.data.toList.drop (p + 2) = r) (h : ck3 e k b a r = true) : decode code p = .ok (e.1, e.2) ∧ k (code.data.toList.drop (p + e.2)) = true := by
  obtain ⟨i, n⟩ := e
  cases r with
  | nil => exact absurd h Bool.false_ne_true
  | cons d r =>
    obtain ⟨y3, z3⟩ := by_l z2
    have c3 : n = 3 := Nat.eq_of_beq_eq_true (ba2 h).1
    subst c3
    have h2 := ba2 (a := fd3 i b.toNat a.toNat d.toNat) (b := k r) h
    refine ⟨fd3_ok h2.1 y1 y2 y3, ?_⟩
    show k (code.data.toList.drop (p + 2 + 1)) = true
    rw [z3]
    exact h2.2
theorem bif_no {x : Bool} {a b : Bool} (h : (bif x then a else b) = true) (c : x = false) : b = true := by
  subst c
  exact h
theorem beq_no {a b : Nat} (h : ¬ a = b) : Nat.beq a b = false := Bool.eq_false_iff.mpr fun hh => h (Nat.eq_of_beq_eq_true hh)
theorem ck2_ok {code : ByteArray} {p : Nat} {e : Instr × Nat} {k : List UInt8 → Bool} {b : UInt8} {r : List UInt8} (y1 : BY code p b.toNat) (z1 : code.data.toList.drop (p + 1) = r) (h : ck2 e k b r = true) : decode code p = .ok (e.1, e.2) ∧ k (code.data.toList.drop (p + e.2)) = true := by
  cases r with
  | nil => exact absurd h Bool.false_ne_true
  | cons a r =>
    obtain ⟨y2, z2⟩ := by_l z1
    by_cases c : e.2 = 2
    · obtain ⟨i, n⟩ := e
      have c : n = 2 := c
      subst c
      have h2 := ba2 (a := fd2 i b.toNat a.toNat) (b := k r) h
      refine ⟨fd2_ok h2.1 y1 y2, ?_⟩
      show k (code.data.toList.drop (p + 1 + 1)) = true
      rw [z2]
      exact h2.2
    · exact ck3_ok y1 y2 z2 (bif_no h (beq_no c))
theorem ck1_ok {code : ByteArray} {p : Nat} {e : Instr × Nat} {k : List UInt8 → Bool} {bs : List UInt8} (z : code.data.toList.drop p = bs) (h : ck1 e k bs = true) : decode code p = .ok (e.1, e.2) ∧ k (code.data.toList.drop (p + e.2)) = true := by
  cases bs with
  | nil => exact absurd h Bool.false_ne_true
  | cons b r =>
    obtain ⟨y1, z1⟩ := by_l z
    by_cases c : e.2 = 1
    · obtain ⟨i, n⟩ := e
      have c : n = 1 := c
      subst c
      have h2 := ba2 (a := fd1 i b.toNat) (b := k r) h
      refine ⟨fd1_ok h2.1 y1, ?_⟩
      show k (code.data.toList.drop (p + 1)) = true
      rw [z1]
      exact h2.2
    · exact ck2_ok y1 z1 (bif_no h (beq_no c))
theorem ckb_ok (L : List (Instr × Nat)) (code : ByteArray) : ∀ p, ckb L (code.data.toList.drop p) = true → AllR code L p := by
  induction L with
  | nil => exact fun _ _ => trivial
  | cons e L ih => exact fun p h => ⟨(ck1_ok rfl h).1, ih _ (ck1_ok rfl h).2⟩
