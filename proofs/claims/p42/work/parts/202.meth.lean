def f_X12_proving (q : SS) (a1 : Int32) (a2 : Int32) : Option (Int32 × SS) :=
  if vin a1 50 then
  if (q.1 87 a1.toNatClampNeg) = (5 : Int32) then
  ((f_X12_ran q (60 : Int32)).bind fun r1 =>
  (f_X12_childProves r1 a1 a2).bind fun r2 =>
  (f_X12_slipping r2.2 a1 (2 : Int32)).bind fun r3 =>
  some ((r2.1 - r3.1), r3.2))
  else
  (if vin a1 50 then
  if (q.1 87 a1.toNatClampNeg) = (3 : Int32) then
  ((f_X12_childProves q a1 a2).bind fun r4 =>
  some (r4.1, r4.2))
  else
  ((f_X12_plainProves q a1 a2).bind fun r5 =>
  some (r5.1, r5.2))
  else none)
  else none
theorem e_X12_proving {E : EE} (hE : GE E) (q : SS) (a1 : Int32) (a2 : Int32) : R E (κI E) 4 283 0 [(0, .ref 60), (1, .int a1), (2, .int a2)] [] q (f_X12_proving q a1 a2) := by
  unfold f_X12_proving
  refine r_aload_n (x := 60) dX12_proving_0 rfl ?_
  refine r_getA dX12_proving_1 (fa_12_92_60 hE) ?_
  refine r_iload_n (x := a1) dX12_proving_4 rfl ?_
  refine r_iaload dX12_proving_5 (ar_87 hE) ?_
  refine r_iconst (v := (5 : Int32)) dX12_proving_6 rfl ?_
  refine r_icmp_ne (t := 32) dX12_proving_7 rfl (fun h7 => ?_) (fun h7 => ?_)
  · refine r_aload_n (x := 60) dX12_proving_10 rfl ?_
    refine r_bipush (v := (60 : Int32)) dX12_proving_11 rfl ?_
    refine r_callV (k := 0) (idx := 371) (y := 271) (as := [.ref 60, .int (60 : Int32)]) (rest := []) (L0 := [(0, .ref 60), (1, .int (60 : Int32))]) dX12_proving_13 rfl rfl rfl rfl rfl (vok_v (ob_60 hE) rfl) rfl (r_dep (by decide) (e_X12_ran hE q (60 : Int32))) (fun r1 => ?_)
    refine r_aload_n (x := 60) dX12_proving_16 rfl ?_
    refine r_iload_n (x := a1) dX12_proving_17 rfl ?_
    refine r_iload_n (x := a2) dX12_proving_18 rfl ?_
    refine r_callI (k := 0) (idx := 399) (y := 282) (as := [.ref 60, .int a1, .int a2]) (rest := []) (L0 := [(0, .ref 60), (1, .int a1), (2, .int a2)]) dX12_proving_19 rfl rfl rfl rfl rfl (vok_v (ob_60 hE) rfl) rfl (r_dep (by decide) (e_X12_childProves hE r1 a1 a2)) (fun r2 => ?_)
    refine r_istore_n (L2 := [(0, .ref 60), (1, .int a1), (2, .int a2), (3, .int r2.1)]) dX12_proving_22 rfl rfl ?_
    refine r_iload_n (x := r2.1) dX12_proving_23 rfl ?_
    refine r_aload_n (x := 60) dX12_proving_24 rfl ?_
    refine r_iload_n (x := a1) dX12_proving_25 rfl ?_
    refine r_iconst (v := (2 : Int32)) dX12_proving_26 rfl ?_
    refine r_callI (k := 0) (idx := 384) (y := 277) (as := [.ref 60, .int a1, .int (2 : Int32)]) (rest := [.int r2.1]) (L0 := [(0, .ref 60), (1, .int a1), (2, .int (2 : Int32))]) dX12_proving_27 rfl rfl rfl rfl rfl (vok_v (ob_60 hE) rfl) rfl (r_dep (by decide) (e_X12_slipping hE r2.2 a1 (2 : Int32))) (fun r3 => ?_)
    refine r_isub dX12_proving_30 ?_
    exact r_ireturn dX12_proving_31 rfl rfl
  · refine r_aload_n (x := 60) dX12_proving_32 rfl ?_
    refine r_getA dX12_proving_33 (fa_12_92_60 hE) ?_
    refine r_iload_n (x := a1) dX12_proving_36 rfl ?_
    refine r_iaload dX12_proving_37 (ar_87 hE) ?_
    refine r_iconst (v := (3 : Int32)) dX12_proving_38 rfl ?_
    refine r_icmp_ne (t := 51) dX12_proving_39 rfl (fun h6 => ?_) (fun h6 => ?_)
    · refine r_aload_n (x := 60) dX12_proving_42 rfl ?_
      refine r_iload_n (x := a1) dX12_proving_43 rfl ?_
      refine r_iload_n (x := a2) dX12_proving_44 rfl ?_
      refine r_callI (k := 0) (idx := 399) (y := 282) (as := [.ref 60, .int a1, .int a2]) (rest := []) (L0 := [(0, .ref 60), (1, .int a1), (2, .int a2)]) dX12_proving_45 rfl rfl rfl rfl rfl (vok_v (ob_60 hE) rfl) rfl (r_dep (by decide) (e_X12_childProves hE q a1 a2)) (fun r4 => ?_)
      refine r_goto (t := 57) dX12_proving_48 rfl ?_
      exact r_ireturn dX12_proving_57 rfl rfl
    · refine r_aload_n (x := 60) dX12_proving_51 rfl ?_
      refine r_iload_n (x := a1) dX12_proving_52 rfl ?_
      refine r_iload_n (x := a2) dX12_proving_53 rfl ?_
      refine r_callI (k := 0) (idx := 396) (y := 281) (as := [.ref 60, .int a1, .int a2]) (rest := []) (L0 := [(0, .ref 60), (1, .int a1), (2, .int a2)]) dX12_proving_54 rfl rfl rfl rfl rfl (vok_v (ob_60 hE) rfl) rfl (r_dep (by decide) (e_X12_plainProves hE q a1 a2)) (fun r5 => ?_)
      exact r_ireturn dX12_proving_57 rfl rfl
def f_X12_folding (q : SS) (a1 : Int32) (a2 : Int32) : Option (Int32 × SS) :=
  if vin a1 50 then
  (f_X12_isUnder q (q.1 87 a1.toNatClampNeg) (3 : Int32)).bind fun r1 =>
  if r1 = 0 then
  (if vin a1 50 then
  if (q.1 87 a1.toNatClampNeg) = (7 : Int32) then
  ((f_X12_ran q (80 : Int32)).bind fun r2 =>
  (f_X12_plainFolds r2 a1 a2).bind fun r3 =>
  (f_X12_proving r3.2 a1 (2 : Int32)).bind fun r4 =>
  some ((r3.1 + r4.1), r4.2))
  else
  (if vin a1 50 then
  if (q.1 87 a1.toNatClampNeg) = (2 : Int32) then
  ((f_X12_brideFolds q a1 a2).bind fun r5 =>
  some (r5.1, r5.2))
  else
  ((f_X12_plainFolds q a1 a2).bind fun r6 =>
  some (r6.1, r6.2))
  else none)
  else none)
  else
  ((f_X12_ran q (41 : Int32)).bind fun r9 =>
  (f_X12_brideFolds r9 a1 (a2 + (1 : Int32))).bind fun r10 =>
  some (r10.1, r10.2))
  else none
theorem e_X12_folding {E : EE} (hE : GE E) (q : SS) (a1 : Int32) (a2 : Int32) : R E (κI E) 6 280 0 [(0, .ref 60), (1, .int a1), (2, .int a2)] [] q (f_X12_folding q a1 a2) := by
  unfold f_X12_folding
  refine r_aload_n (x := 60) dX12_folding_0 rfl ?_
  refine r_getA dX12_folding_1 (fa_12_92_60 hE) ?_
  refine r_iload_n (x := a1) dX12_folding_4 rfl ?_
  refine r_iaload dX12_folding_5 (ar_87 hE) ?_
  refine r_iconst (v := (3 : Int32)) dX12_folding_6 rfl ?_
  refine r_calli (k := 2) (idx := 378) (y := 274) (as := [.int (q.1 87 a1.toNatClampNeg), .int (3 : Int32)]) (rest := []) (L0 := [(0, .int (q.1 87 a1.toNatClampNeg)), (1, .int (3 : Int32))]) dX12_folding_7 rfl rfl rfl rfl rfl vok_s rfl (r_dep (by decide) (e_X12_isUnder hE q (q.1 87 a1.toNatClampNeg) (3 : Int32))) (fun r1 => ?_)
  refine r_if_eq (t := 28) dX12_folding_10 rfl (fun h11 => ?_) (fun h11 => ?_)
  · refine r_aload_n (x := 60) dX12_folding_28 rfl ?_
    refine r_getA dX12_folding_29 (fa_12_92_60 hE) ?_
    refine r_iload_n (x := a1) dX12_folding_32 rfl ?_
    refine r_iaload dX12_folding_33 (ar_87 hE) ?_
    refine r_bipush (v := (7 : Int32)) dX12_folding_34 rfl ?_
    refine r_icmp_ne (t := 61) dX12_folding_36 rfl (fun h8 => ?_) (fun h8 => ?_)
    · refine r_aload_n (x := 60) dX12_folding_39 rfl ?_
      refine r_bipush (v := (80 : Int32)) dX12_folding_40 rfl ?_
      refine r_callV (k := 0) (idx := 371) (y := 271) (as := [.ref 60, .int (80 : Int32)]) (rest := []) (L0 := [(0, .ref 60), (1, .int (80 : Int32))]) dX12_folding_42 rfl rfl rfl rfl rfl (vok_v (ob_60 hE) rfl) rfl (r_dep (by decide) (e_X12_ran hE q (80 : Int32))) (fun r2 => ?_)
      refine r_aload_n (x := 60) dX12_folding_45 rfl ?_
      refine r_iload_n (x := a1) dX12_folding_46 rfl ?_
      refine r_iload_n (x := a2) dX12_folding_47 rfl ?_
      refine r_callI (k := 0) (idx := 387) (y := 278) (as := [.ref 60, .int a1, .int a2]) (rest := []) (L0 := [(0, .ref 60), (1, .int a1), (2, .int a2)]) dX12_folding_48 rfl rfl rfl rfl rfl (vok_v (ob_60 hE) rfl) rfl (r_dep (by decide) (e_X12_plainFolds hE r2 a1 a2)) (fun r3 => ?_)
      refine r_istore_n (L2 := [(0, .ref 60), (1, .int a1), (2, .int a2), (3, .int r3.1)]) dX12_folding_51 rfl rfl ?_
      refine r_iload_n (x := r3.1) dX12_folding_52 rfl ?_
      refine r_aload_n (x := 60) dX12_folding_53 rfl ?_
      refine r_iload_n (x := a1) dX12_folding_54 rfl ?_
      refine r_iconst (v := (2 : Int32)) dX12_folding_55 rfl ?_
      refine r_callI (k := 0) (idx := 393) (y := 283) (as := [.ref 60, .int a1, .int (2 : Int32)]) (rest := [.int r3.1]) (L0 := [(0, .ref 60), (1, .int a1), (2, .int (2 : Int32))]) dX12_folding_56 rfl rfl rfl rfl rfl (vok_v (ob_60 hE) rfl) rfl (r_dep (by decide) (e_X12_proving hE r3.2 a1 (2 : Int32))) (fun r4 => ?_)
      refine r_iadd dX12_folding_59 ?_
      exact r_ireturn dX12_folding_60 rfl rfl
    · refine r_aload_n (x := 60) dX12_folding_61 rfl ?_
      refine r_getA dX12_folding_62 (fa_12_92_60 hE) ?_
      refine r_iload_n (x := a1) dX12_folding_65 rfl ?_
      refine r_iaload dX12_folding_66 (ar_87 hE) ?_
      refine r_iconst (v := (2 : Int32)) dX12_folding_67 rfl ?_
      refine r_icmp_ne (t := 80) dX12_folding_68 rfl (fun h7 => ?_) (fun h7 => ?_)
      · refine r_aload_n (x := 60) dX12_folding_71 rfl ?_
        refine r_iload_n (x := a1) dX12_folding_72 rfl ?_
        refine r_iload_n (x := a2) dX12_folding_73 rfl ?_
        refine r_callI (k := 0) (idx := 390) (y := 279) (as := [.ref 60, .int a1, .int a2]) (rest := []) (L0 := [(0, .ref 60), (1, .int a1), (2, .int a2)]) dX12_folding_74 rfl rfl rfl rfl rfl (vok_v (ob_60 hE) rfl) rfl (r_dep (by decide) (e_X12_brideFolds hE q a1 a2)) (fun r5 => ?_)
        refine r_goto (t := 86) dX12_folding_77 rfl ?_
        exact r_ireturn dX12_folding_86 rfl rfl
      · refine r_aload_n (x := 60) dX12_folding_80 rfl ?_
        refine r_iload_n (x := a1) dX12_folding_81 rfl ?_
        refine r_iload_n (x := a2) dX12_folding_82 rfl ?_
        refine r_callI (k := 0) (idx := 387) (y := 278) (as := [.ref 60, .int a1, .int a2]) (rest := []) (L0 := [(0, .ref 60), (1, .int a1), (2, .int a2)]) dX12_folding_83 rfl rfl rfl rfl rfl (vok_v (ob_60 hE) rfl) rfl (r_dep (by decide) (e_X12_plainFolds hE q a1 a2)) (fun r6 => ?_)
        exact r_ireturn dX12_folding_86 rfl rfl
  · refine r_aload_n (x := 60) dX12_folding_13 rfl ?_
    refine r_bipush (v := (41 : Int32)) dX12_folding_14 rfl ?_
    refine r_callV (k := 0) (idx := 371) (y := 271) (as := [.ref 60, .int (41 : Int32)]) (rest := []) (L0 := [(0, .ref 60), (1, .int (41 : Int32))]) dX12_folding_16 rfl rfl rfl rfl rfl (vok_v (ob_60 hE) rfl) rfl (r_dep (by decide) (e_X12_ran hE q (41 : Int32))) (fun r9 => ?_)
    refine r_aload_n (x := 60) dX12_folding_19 rfl ?_
    refine r_iload_n (x := a1) dX12_folding_20 rfl ?_
    refine r_iload_n (x := a2) dX12_folding_21 rfl ?_
    refine r_iconst (v := (1 : Int32)) dX12_folding_22 rfl ?_
    refine r_iadd dX12_folding_23 ?_
    refine r_callI (k := 0) (idx := 390) (y := 279) (as := [.ref 60, .int a1, .int (a2 + (1 : Int32))]) (rest := []) (L0 := [(0, .ref 60), (1, .int a1), (2, .int (a2 + (1 : Int32)))]) dX12_folding_24 rfl rfl rfl rfl rfl (vok_v (ob_60 hE) rfl) rfl (r_dep (by decide) (e_X12_brideFolds hE r9 a1 (a2 + (1 : Int32)))) (fun r10 => ?_)
    exact r_ireturn dX12_folding_27 rfl rfl
def f_X12_plainTells (q : SS) (a1 : Int32) (a2 : Int32) : Option (Int32 × SS) :=
  (f_X12_ran q (2 : Int32)).bind fun r1 =>
  (f_X12_folding r1 a1 a2).bind fun r2 =>
  (f_X12_proving r2.2 a1 (1 : Int32)).bind fun r3 =>
  some ((r2.1 - r3.1), r3.2)
theorem e_X12_plainTells {E : EE} (hE : GE E) (q : SS) (a1 : Int32) (a2 : Int32) : R E (κI E) 7 284 0 [(0, .ref 60), (1, .int a1), (2, .int a2)] [] q (f_X12_plainTells q a1 a2) := by
  unfold f_X12_plainTells
  refine r_aload_n (x := 60) dX12_plainTells_0 rfl ?_
  refine r_iconst (v := (2 : Int32)) dX12_plainTells_1 rfl ?_
  refine r_callV (k := 0) (idx := 371) (y := 271) (as := [.ref 60, .int (2 : Int32)]) (rest := []) (L0 := [(0, .ref 60), (1, .int (2 : Int32))]) dX12_plainTells_2 rfl rfl rfl rfl rfl (vok_v (ob_60 hE) rfl) rfl (r_dep (by decide) (e_X12_ran hE q (2 : Int32))) (fun r1 => ?_)
  refine r_aload_n (x := 60) dX12_plainTells_5 rfl ?_
  refine r_iload_n (x := a1) dX12_plainTells_6 rfl ?_
  refine r_iload_n (x := a2) dX12_plainTells_7 rfl ?_
  refine r_callI (k := 0) (idx := 402) (y := 280) (as := [.ref 60, .int a1, .int a2]) (rest := []) (L0 := [(0, .ref 60), (1, .int a1), (2, .int a2)]) dX12_plainTells_8 rfl rfl rfl rfl rfl (vok_v (ob_60 hE) rfl) rfl (r_dep (by decide) (e_X12_folding hE r1 a1 a2)) (fun r2 => ?_)
  refine r_istore_n (L2 := [(0, .ref 60), (1, .int a1), (2, .int a2), (3, .int r2.1)]) dX12_plainTells_11 rfl rfl ?_
  refine r_iload_n (x := r2.1) dX12_plainTells_12 rfl ?_
  refine r_aload_n (x := 60) dX12_plainTells_13 rfl ?_
  refine r_iload_n (x := a1) dX12_plainTells_14 rfl ?_
  refine r_iconst (v := (1 : Int32)) dX12_plainTells_15 rfl ?_
  refine r_callI (k := 0) (idx := 393) (y := 283) (as := [.ref 60, .int a1, .int (1 : Int32)]) (rest := [.int r2.1]) (L0 := [(0, .ref 60), (1, .int a1), (2, .int (1 : Int32))]) dX12_plainTells_16 rfl rfl rfl rfl rfl (vok_v (ob_60 hE) rfl) rfl (r_dep (by decide) (e_X12_proving hE r2.2 a1 (1 : Int32))) (fun r3 => ?_)
  refine r_isub dX12_plainTells_19 ?_
  exact r_ireturn dX12_plainTells_20 rfl rfl
def f_X12_telling (q : SS) (a1 : Int32) (a2 : Int32) : Option (Int32 × SS) :=
  if vin a1 50 then
  if (q.1 87 a1.toNatClampNeg) = (4 : Int32) then
  ((f_X12_ran q (50 : Int32)).bind fun r1 =>
  (f_X12_plainTells r1 a1 a2).bind fun r2 =>
  some ((r2.1 ^^^ (5 : Int32)), r2.2))
  else
  (if vin a1 50 then
  if (q.1 87 a1.toNatClampNeg) = (5 : Int32) then
  ((f_X12_ran q (61 : Int32)).bind fun r3 =>
  (f_X12_plainTells r3 a1 a2).bind fun r4 =>
  some ((r4.1 + (1 : Int32)), r4.2))
  else
  ((f_X12_plainTells q a1 a2).bind fun r5 =>
  some (r5.1, r5.2))
  else none)
  else none
theorem e_X12_telling {E : EE} (hE : GE E) (q : SS) (a1 : Int32) (a2 : Int32) : R E (κI E) 8 285 0 [(0, .ref 60), (1, .int a1), (2, .int a2)] [] q (f_X12_telling q a1 a2) := by
  unfold f_X12_telling
  refine r_aload_n (x := 60) dX12_telling_0 rfl ?_
  refine r_getA dX12_telling_1 (fa_12_92_60 hE) ?_
  refine r_iload_n (x := a1) dX12_telling_4 rfl ?_
  refine r_iaload dX12_telling_5 (ar_87 hE) ?_
  refine r_iconst (v := (4 : Int32)) dX12_telling_6 rfl ?_
  refine r_icmp_ne (t := 25) dX12_telling_7 rfl (fun h7 => ?_) (fun h7 => ?_)
  · refine r_aload_n (x := 60) dX12_telling_10 rfl ?_
    refine r_bipush (v := (50 : Int32)) dX12_telling_11 rfl ?_
    refine r_callV (k := 0) (idx := 371) (y := 271) (as := [.ref 60, .int (50 : Int32)]) (rest := []) (L0 := [(0, .ref 60), (1, .int (50 : Int32))]) dX12_telling_13 rfl rfl rfl rfl rfl (vok_v (ob_60 hE) rfl) rfl (r_dep (by decide) (e_X12_ran hE q (50 : Int32))) (fun r1 => ?_)
    refine r_aload_n (x := 60) dX12_telling_16 rfl ?_
    refine r_iload_n (x := a1) dX12_telling_17 rfl ?_
    refine r_iload_n (x := a2) dX12_telling_18 rfl ?_
    refine r_callI (k := 0) (idx := 405) (y := 284) (as := [.ref 60, .int a1, .int a2]) (rest := []) (L0 := [(0, .ref 60), (1, .int a1), (2, .int a2)]) dX12_telling_19 rfl rfl rfl rfl rfl (vok_v (ob_60 hE) rfl) rfl (r_dep (by decide) (e_X12_plainTells hE r1 a1 a2)) (fun r2 => ?_)
    refine r_iconst (v := (5 : Int32)) dX12_telling_22 rfl ?_
    refine r_ixor dX12_telling_23 ?_
    exact r_ireturn dX12_telling_24 rfl rfl
  · refine r_aload_n (x := 60) dX12_telling_25 rfl ?_
    refine r_getA dX12_telling_26 (fa_12_92_60 hE) ?_
    refine r_iload_n (x := a1) dX12_telling_29 rfl ?_
    refine r_iaload dX12_telling_30 (ar_87 hE) ?_
    refine r_iconst (v := (5 : Int32)) dX12_telling_31 rfl ?_
    refine r_icmp_ne (t := 50) dX12_telling_32 rfl (fun h6 => ?_) (fun h6 => ?_)
    · refine r_aload_n (x := 60) dX12_telling_35 rfl ?_
      refine r_bipush (v := (61 : Int32)) dX12_telling_36 rfl ?_
      refine r_callV (k := 0) (idx := 371) (y := 271) (as := [.ref 60, .int (61 : Int32)]) (rest := []) (L0 := [(0, .ref 60), (1, .int (61 : Int32))]) dX12_telling_38 rfl rfl rfl rfl rfl (vok_v (ob_60 hE) rfl) rfl (r_dep (by decide) (e_X12_ran hE q (61 : Int32))) (fun r3 => ?_)
      refine r_aload_n (x := 60) dX12_telling_41 rfl ?_
      refine r_iload_n (x := a1) dX12_telling_42 rfl ?_
      refine r_iload_n (x := a2) dX12_telling_43 rfl ?_
      refine r_callI (k := 0) (idx := 405) (y := 284) (as := [.ref 60, .int a1, .int a2]) (rest := []) (L0 := [(0, .ref 60), (1, .int a1), (2, .int a2)]) dX12_telling_44 rfl rfl rfl rfl rfl (vok_v (ob_60 hE) rfl) rfl (r_dep (by decide) (e_X12_plainTells hE r3 a1 a2)) (fun r4 => ?_)
      refine r_iconst (v := (1 : Int32)) dX12_telling_47 rfl ?_
      refine r_iadd dX12_telling_48 ?_
      exact r_ireturn dX12_telling_49 rfl rfl
    · refine r_aload_n (x := 60) dX12_telling_50 rfl ?_
      refine r_iload_n (x := a1) dX12_telling_51 rfl ?_
      refine r_iload_n (x := a2) dX12_telling_52 rfl ?_
      refine r_callI (k := 0) (idx := 405) (y := 284) (as := [.ref 60, .int a1, .int a2]) (rest := []) (L0 := [(0, .ref 60), (1, .int a1), (2, .int a2)]) dX12_telling_53 rfl rfl rfl rfl rfl (vok_v (ob_60 hE) rfl) rfl (r_dep (by decide) (e_X12_plainTells hE q a1 a2)) (fun r5 => ?_)
      exact r_ireturn dX12_telling_56 rfl rfl
def f_X12_act (q : SS) (a1 : Int32) (a2 : Int32) (a3 : Int32) : Option (Int32 × SS) :=
  nm (sI q 60 54 (0 : Int32)) fun q1 =>
  (f_X12_isBody q1 a1).bind fun r2 =>
  if r2 = 0 then
  (some ((0 : Int32), q1))
  else
  ((f_X12_in q1 a2 (0 : Int32) (3 : Int32)).bind fun r3 =>
  if r3 = 0 then
  (some ((0 : Int32), q1))
  else
  (if a2 = 0 then
  ((f_X12_slipping q1 a1 a3).bind fun r4 =>
  some (r4.1, r4.2))
  else
  (if a2 = (1 : Int32) then
  ((f_X12_folding q1 a1 a3).bind fun r5 =>
  some (r5.1, r5.2))
  else
  (if a2 = (2 : Int32) then
  ((f_X12_proving q1 a1 a3).bind fun r6 =>
  some (r6.1, r6.2))
  else
  ((f_X12_telling q1 a1 a3).bind fun r7 =>
  some (r7.1, r7.2))))))
theorem e_X12_act {E : EE} (hE : GE E) (q : SS) (a1 : Int32) (a2 : Int32) (a3 : Int32) : R E (κI E) 9 286 0 [(0, .ref 60), (1, .int a1), (2, .int a2), (3, .int a3)] [] q (f_X12_act q a1 a2 a3) := by
  unfold f_X12_act
  refine r_aload_n (x := 60) dX12_act_0 rfl ?_
  refine r_iconst (v := (0 : Int32)) dX12_act_1 rfl ?_
  refine r_putI dX12_act_2 (ff_12_368_60 hE) ?_
  refine r_nmS fun q1 _ => ?_
  refine r_aload_n (x := 60) dX12_act_5 rfl ?_
  refine r_iload_n (x := a1) dX12_act_6 rfl ?_
  refine r_calli (k := 0) (idx := 408) (y := 270) (as := [.ref 60, .int a1]) (rest := []) (L0 := [(0, .ref 60), (1, .int a1)]) dX12_act_7 rfl rfl rfl rfl rfl (vok_v (ob_60 hE) rfl) rfl (r_dep (by decide) (e_X12_isBody hE q1 a1)) (fun r2 => ?_)
  refine r_if_eq (t := 22) dX12_act_10 rfl (fun h12 => ?_) (fun h12 => ?_)
  · refine r_iconst (v := (0 : Int32)) dX12_act_22 rfl ?_
    exact r_ireturn dX12_act_23 rfl rfl
  · refine r_iload_n (x := a2) dX12_act_13 rfl ?_
    refine r_iconst (v := (0 : Int32)) dX12_act_14 rfl ?_
    refine r_iconst (v := (3 : Int32)) dX12_act_15 rfl ?_
    refine r_calli (k := 2) (idx := 118) (y := 189) (as := [.int a2, .int (0 : Int32), .int (3 : Int32)]) (rest := []) (L0 := [(0, .int a2), (1, .int (0 : Int32)), (2, .int (3 : Int32))]) dX12_act_16 rfl rfl rfl rfl rfl vok_s rfl (r_dep (by decide) (e_X12_in hE q1 a2 (0 : Int32) (3 : Int32))) (fun r3 => ?_)
    refine r_if_ne (t := 24) dX12_act_19 rfl (fun h11 => ?_) (fun h11 => ?_)
    · refine r_iconst (v := (0 : Int32)) dX12_act_22 rfl ?_
      exact r_ireturn dX12_act_23 rfl rfl
    · refine r_iload_n (x := a2) dX12_act_24 rfl ?_
      refine r_if_ne (t := 37) dX12_act_25 rfl (fun h10 => ?_) (fun h10 => ?_)
      · refine r_aload_n (x := 60) dX12_act_28 rfl ?_
        refine r_iload_n (x := a1) dX12_act_29 rfl ?_
        refine r_iload_n (x := a3) dX12_act_30 rfl ?_
        refine r_callI (k := 0) (idx := 384) (y := 277) (as := [.ref 60, .int a1, .int a3]) (rest := []) (L0 := [(0, .ref 60), (1, .int a1), (2, .int a3)]) dX12_act_31 rfl rfl rfl rfl rfl (vok_v (ob_60 hE) rfl) rfl (r_dep (by decide) (e_X12_slipping hE q1 a1 a3)) (fun r4 => ?_)
        refine r_goto (t := 71) dX12_act_34 rfl ?_
        exact r_ireturn dX12_act_71 rfl rfl
      · refine r_iload_n (x := a2) dX12_act_37 rfl ?_
        refine r_iconst (v := (1 : Int32)) dX12_act_38 rfl ?_
        refine r_icmp_ne (t := 51) dX12_act_39 rfl (fun h9 => ?_) (fun h9 => ?_)
        · refine r_aload_n (x := 60) dX12_act_42 rfl ?_
          refine r_iload_n (x := a1) dX12_act_43 rfl ?_
          refine r_iload_n (x := a3) dX12_act_44 rfl ?_
          refine r_callI (k := 0) (idx := 402) (y := 280) (as := [.ref 60, .int a1, .int a3]) (rest := []) (L0 := [(0, .ref 60), (1, .int a1), (2, .int a3)]) dX12_act_45 rfl rfl rfl rfl rfl (vok_v (ob_60 hE) rfl) rfl (r_dep (by decide) (e_X12_folding hE q1 a1 a3)) (fun r5 => ?_)
          refine r_goto (t := 71) dX12_act_48 rfl ?_
          exact r_ireturn dX12_act_71 rfl rfl
        · refine r_iload_n (x := a2) dX12_act_51 rfl ?_
          refine r_iconst (v := (2 : Int32)) dX12_act_52 rfl ?_
          refine r_icmp_ne (t := 65) dX12_act_53 rfl (fun h8 => ?_) (fun h8 => ?_)
          · refine r_aload_n (x := 60) dX12_act_56 rfl ?_
            refine r_iload_n (x := a1) dX12_act_57 rfl ?_
            refine r_iload_n (x := a3) dX12_act_58 rfl ?_
            refine r_callI (k := 0) (idx := 393) (y := 283) (as := [.ref 60, .int a1, .int a3]) (rest := []) (L0 := [(0, .ref 60), (1, .int a1), (2, .int a3)]) dX12_act_59 rfl rfl rfl rfl rfl (vok_v (ob_60 hE) rfl) rfl (r_dep (by decide) (e_X12_proving hE q1 a1 a3)) (fun r6 => ?_)
            refine r_goto (t := 71) dX12_act_62 rfl ?_
            exact r_ireturn dX12_act_71 rfl rfl
          · refine r_aload_n (x := 60) dX12_act_65 rfl ?_
            refine r_iload_n (x := a1) dX12_act_66 rfl ?_
            refine r_iload_n (x := a3) dX12_act_67 rfl ?_
            refine r_callI (k := 0) (idx := 411) (y := 285) (as := [.ref 60, .int a1, .int a3]) (rest := []) (L0 := [(0, .ref 60), (1, .int a1), (2, .int a3)]) dX12_act_68 rfl rfl rfl rfl rfl (vok_v (ob_60 hE) rfl) rfl (r_dep (by decide) (e_X12_telling hE q1 a1 a3)) (fun r7 => ?_)
            exact r_ireturn dX12_act_71 rfl rfl
def f_X3_addBody (q : SS) (a1 : Int32) : Option (Int32 × SS) :=
  if (q.1 57 2) < (50 : Int32) then
  (if vin (q.1 57 2) 50 then
  nm (sI q 58 (q.1 57 2).toNatClampNeg a1) fun q1 =>
  nm (sI q1 57 2 ((q1.1 57 2) + (1 : Int32))) fun q2 =>
  some (((q2.1 57 2) - (1 : Int32)), q2)
  else none)
  else
  (some ((-3 : Int32), q))
theorem e_X3_addBody {E : EE} (hE : GE E) (q : SS) (a1 : Int32) : R E (κI E) 0 31 0 [(0, .ref 57), (1, .int a1)] [] q (f_X3_addBody q a1) := by
  unfold f_X3_addBody
  refine r_aload_n (x := 57) dX3_addBody_0 rfl ?_
  refine r_getI dX3_addBody_1 (ff_3_25_57 hE) (by decide) ?_
  refine r_bipush (v := (50 : Int32)) dX3_addBody_4 rfl ?_
  refine r_icmp_lt (t := 12) dX3_addBody_6 rfl (fun h3 => ?_) (fun h3 => ?_)
  · refine r_aload_n (x := 57) dX3_addBody_12 rfl ?_
    refine r_getA dX3_addBody_13 (fa_3_11_57 hE) ?_
    refine r_aload_n (x := 57) dX3_addBody_16 rfl ?_
    refine r_getI dX3_addBody_17 (ff_3_25_57 hE) (by decide) ?_
    refine r_iload_n (x := a1) dX3_addBody_20 rfl ?_
    refine r_iastore dX3_addBody_21 (ar_58 hE) ?_
    refine r_nmS fun q1 _ => ?_
    refine r_aload_n (x := 57) dX3_addBody_22 rfl ?_
    refine r_dup dX3_addBody_23 rfl ?_
    refine r_getI dX3_addBody_24 (ff_3_25_57 hE) (by decide) ?_
    refine r_iconst (v := (1 : Int32)) dX3_addBody_27 rfl ?_
    refine r_iadd dX3_addBody_28 ?_
    refine r_putI dX3_addBody_29 (ff_3_25_57 hE) ?_
    refine r_nmS fun q2 _ => ?_
    refine r_aload_n (x := 57) dX3_addBody_32 rfl ?_
    refine r_getI dX3_addBody_33 (ff_3_25_57 hE) (by decide) ?_
    refine r_iconst (v := (1 : Int32)) dX3_addBody_36 rfl ?_
    refine r_isub dX3_addBody_37 ?_
    exact r_ireturn dX3_addBody_38 rfl rfl
  · refine r_bipush (v := (-3 : Int32)) dX3_addBody_9 rfl ?_
    exact r_ireturn dX3_addBody_11 rfl rfl
def f_X11_body (q : SS) (a1 : Int32) : Option (Int32 × SS) :=
  (f_X3_isKind q a1).bind fun r1 =>
  if r1 = 0 then
  (some ((-1 : Int32), q))
  else
  ((f_X3_addBody q a1).bind fun r2 =>
  some (r2.1, r2.2))
theorem e_X11_body {E : EE} (hE : GE E) (q : SS) (a1 : Int32) : R E (κI E) 1 178 0 [(0, .ref 0), (1, .int a1)] [] q (f_X11_body q a1) := by
  unfold f_X11_body
  refine r_iload_n (x := a1) dX11_body_0 rfl ?_
  refine r_calli (k := 2) (idx := 336) (y := 27) (as := [.int a1]) (rest := []) (L0 := [(0, .int a1)]) dX11_body_1 rfl rfl rfl rfl rfl vok_s rfl (r_dep (by decide) (e_X3_isKind hE q a1)) (fun r1 => ?_)
  refine r_if_eq (t := 18) dX11_body_4 rfl (fun h3 => ?_) (fun h3 => ?_)
  · refine r_iconst (v := (-1 : Int32)) dX11_body_18 rfl ?_
    exact r_ireturn dX11_body_19 rfl rfl
  · refine r_aload_n (x := 0) dX11_body_7 rfl ?_
    refine r_getA dX11_body_8 (fa_11_90_0 hE) ?_
    refine r_iload_n (x := a1) dX11_body_11 rfl ?_
    refine r_callI (k := 0) (idx := 339) (y := 31) (as := [.ref 57, .int a1]) (rest := []) (L0 := [(0, .ref 57), (1, .int a1)]) dX11_body_12 rfl rfl rfl rfl rfl (vok_v (ob_57 hE) rfl) rfl (r_dep (by decide) (e_X3_addBody hE q a1)) (fun r2 => ?_)
    refine r_goto (t := 19) dX11_body_15 rfl ?_
    exact r_ireturn dX11_body_19 rfl rfl
def f_X12_body (q : SS) (a1 : Int32) : Option (Int32 × SS) :=
  (f_X12_in q a1 (0 : Int32) (7 : Int32)).bind fun r1 =>
  if r1 = 0 then
  (some ((-1 : Int32), q))
  else
  (if (q.1 60 52) = (50 : Int32) then
  (some ((-3 : Int32), q))
  else
  (if vin (q.1 60 52) 50 then
  nm (sI q 87 (q.1 60 52).toNatClampNeg a1) fun q2 =>
  nm (sI q2 60 52 ((q2.1 60 52) + (1 : Int32))) fun q3 =>
  some (((q3.1 60 52) - (1 : Int32)), q3)
  else none))
theorem e_X12_body {E : EE} (hE : GE E) (q : SS) (a1 : Int32) : R E (κI E) 1 273 0 [(0, .ref 60), (1, .int a1)] [] q (f_X12_body q a1) := by
  unfold f_X12_body
  refine r_iload_n (x := a1) dX12_body_0 rfl ?_
  refine r_iconst (v := (0 : Int32)) dX12_body_1 rfl ?_
  refine r_bipush (v := (7 : Int32)) dX12_body_2 rfl ?_
  refine r_calli (k := 2) (idx := 118) (y := 189) (as := [.int a1, .int (0 : Int32), .int (7 : Int32)]) (rest := []) (L0 := [(0, .int a1), (1, .int (0 : Int32)), (2, .int (7 : Int32))]) dX12_body_4 rfl rfl rfl rfl rfl vok_s rfl (r_dep (by decide) (e_X12_in hE q a1 (0 : Int32) (7 : Int32))) (fun r1 => ?_)
  refine r_if_ne (t := 12) dX12_body_7 rfl (fun h5 => ?_) (fun h5 => ?_)
  · refine r_iconst (v := (-1 : Int32)) dX12_body_10 rfl ?_
    exact r_ireturn dX12_body_11 rfl rfl
  · refine r_aload_n (x := 60) dX12_body_12 rfl ?_
    refine r_getI dX12_body_13 (ff_12_365_60 hE) (by decide) ?_
    refine r_bipush (v := (50 : Int32)) dX12_body_16 rfl ?_
    refine r_icmp_ne (t := 24) dX12_body_18 rfl (fun h4 => ?_) (fun h4 => ?_)
    · refine r_bipush (v := (-3 : Int32)) dX12_body_21 rfl ?_
      exact r_ireturn dX12_body_23 rfl rfl
    · refine r_aload_n (x := 60) dX12_body_24 rfl ?_
      refine r_getA dX12_body_25 (fa_12_92_60 hE) ?_
      refine r_aload_n (x := 60) dX12_body_28 rfl ?_
      refine r_getI dX12_body_29 (ff_12_365_60 hE) (by decide) ?_
      refine r_iload_n (x := a1) dX12_body_32 rfl ?_
      refine r_iastore dX12_body_33 (ar_87 hE) ?_
      refine r_nmS fun q2 _ => ?_
      refine r_aload_n (x := 60) dX12_body_34 rfl ?_
      refine r_dup dX12_body_35 rfl ?_
      refine r_getI dX12_body_36 (ff_12_365_60 hE) (by decide) ?_
      refine r_iconst (v := (1 : Int32)) dX12_body_39 rfl ?_
      refine r_iadd dX12_body_40 ?_
      refine r_putI dX12_body_41 (ff_12_365_60 hE) ?_
      refine r_nmS fun q3 _ => ?_
      refine r_aload_n (x := 60) dX12_body_44 rfl ?_
      refine r_getI dX12_body_45 (ff_12_365_60 hE) (by decide) ?_
      refine r_iconst (v := (1 : Int32)) dX12_body_48 rfl ?_
      refine r_isub dX12_body_49 ?_
      exact r_ireturn dX12_body_50 rfl rfl
def f_X0_undone (q : SS)  : Option Int32 :=
  some (q.1 52 6)
theorem e_X0_undone {E : EE} (hE : GE E) (q : SS)  : R E (κi E q) 0 2 0 [(0, .ref 52)] [] q (f_X0_undone q) := by
  unfold f_X0_undone
  refine r_aload_n (x := 52) dX0_undone_0 rfl ?_
  refine r_getI dX0_undone_1 (ff_0_30_52 hE) (by decide) ?_
  exact r_ireturn dX0_undone_4 rfl rfl
def b_X10_hasNumber_49 (q : SS) (s0 : Int32) (s1 : Int32) : Option Int32 :=
  if s0 ≤ s1 then
  (some (0 : Int32))
  else
  (some (1 : Int32))
theorem rb_X10_hasNumber_49 {E : EE} (hE : GE E) (q : SS) (s0 : Int32) (s1 : Int32) : R E (κi E q) 0 132 49 [] [.int s0, .int s1] q (b_X10_hasNumber_49 q s0 s1) := by
  unfold b_X10_hasNumber_49
  refine r_icmp_ge (t := 56) dX10_hasNumber_49 rfl (fun h1 => ?_) (fun h1 => ?_)
  · refine r_iconst (v := (0 : Int32)) dX10_hasNumber_56 rfl ?_
    exact r_ireturn dX10_hasNumber_57 rfl rfl
  · refine r_iconst (v := (1 : Int32)) dX10_hasNumber_52 rfl ?_
    refine r_goto (t := 57) dX10_hasNumber_53 rfl ?_
    exact r_ireturn dX10_hasNumber_57 rfl rfl
def f_X10_hasNumber (q : SS) (a1 : Int32) (a2 : Int32) : Option Int32 :=
  if a1 < 0 then
  (some (0 : Int32))
  else
  (if (8 : Int32) < a1 then
  (some (0 : Int32))
  else
  (if 0 ≤ a2 then
  (if a1 < (7 : Int32) then
  (if a1 < (4 : Int32) then
  (b_X10_hasNumber_49 q (q.1 1 1) a2)
  else
  (b_X10_hasNumber_49 q (q.1 1 2) a2))
  else
  (if a2 = 0 then
  (some (1 : Int32))
  else
  (some (0 : Int32))))
  else
  (some (0 : Int32))))
theorem e_X10_hasNumber {E : EE} (hE : GE E) (q : SS) (a1 : Int32) (a2 : Int32) : R E (κi E q) 0 132 0 [(0, .ref 1), (1, .int a1), (2, .int a2)] [] q (f_X10_hasNumber q a1 a2) := by
  unfold f_X10_hasNumber
  refine r_iload_n (x := a1) dX10_hasNumber_0 rfl ?_
  refine r_if_lt (t := 14) dX10_hasNumber_1 rfl (fun h7 => ?_) (fun h7 => ?_)
  · refine r_iconst (v := (0 : Int32)) dX10_hasNumber_14 rfl ?_
    exact r_ireturn dX10_hasNumber_15 rfl rfl
  · refine r_iload_n (x := a1) dX10_hasNumber_4 rfl ?_
    refine r_bipush (v := (8 : Int32)) dX10_hasNumber_5 rfl ?_
    refine r_icmp_gt (t := 14) dX10_hasNumber_7 rfl (fun h6 => ?_) (fun h6 => ?_)
    · refine r_iconst (v := (0 : Int32)) dX10_hasNumber_14 rfl ?_
      exact r_ireturn dX10_hasNumber_15 rfl rfl
    · refine r_iload_n (x := a2) dX10_hasNumber_10 rfl ?_
      refine r_if_ge (t := 16) dX10_hasNumber_11 rfl (fun h5 => ?_) (fun h5 => ?_)
      · refine r_iload_n (x := a1) dX10_hasNumber_16 rfl ?_
        refine r_bipush (v := (7 : Int32)) dX10_hasNumber_17 rfl ?_
        refine r_icmp_lt (t := 32) dX10_hasNumber_19 rfl (fun h4 => ?_) (fun h4 => ?_)
        · refine r_iload_n (x := a2) dX10_hasNumber_32 rfl ?_
          refine r_iload_n (x := a1) dX10_hasNumber_33 rfl ?_
          refine r_iconst (v := (4 : Int32)) dX10_hasNumber_34 rfl ?_
          refine r_icmp_lt (t := 45) dX10_hasNumber_35 rfl (fun h2 => ?_) (fun h2 => ?_)
          · refine r_aload_n (x := 1) dX10_hasNumber_45 rfl ?_
            refine r_getI dX10_hasNumber_46 (ff_10_16_1 hE) (by decide) ?_
            exact r_sub (L' := []) sub_n (rb_X10_hasNumber_49 hE q (q.1 1 1) a2)
          · refine r_aload_n (x := 1) dX10_hasNumber_38 rfl ?_
            refine r_getI dX10_hasNumber_39 (ff_10_20_1 hE) (by decide) ?_
            refine r_goto (t := 49) dX10_hasNumber_42 rfl ?_
            exact r_sub (L' := []) sub_n (rb_X10_hasNumber_49 hE q (q.1 1 2) a2)
        · refine r_iload_n (x := a2) dX10_hasNumber_22 rfl ?_
          refine r_if_ne (t := 30) dX10_hasNumber_23 rfl (fun h3 => ?_) (fun h3 => ?_)
          · refine r_iconst (v := (1 : Int32)) dX10_hasNumber_26 rfl ?_
            refine r_goto (t := 31) dX10_hasNumber_27 rfl ?_
            exact r_ireturn dX10_hasNumber_31 rfl rfl
          · refine r_iconst (v := (0 : Int32)) dX10_hasNumber_30 rfl ?_
            exact r_ireturn dX10_hasNumber_31 rfl rfl
      · refine r_iconst (v := (0 : Int32)) dX10_hasNumber_14 rfl ?_
        exact r_ireturn dX10_hasNumber_15 rfl rfl
def f_X10_set (q : SS) (a1 : Int32) (a2 : Int32) (a3 : Int32) : Option SS :=
  (f_X10_hasNumber q a1 a2).bind fun r1 =>
  if r1 = 0 then
  (some q)
  else
  (if vin a1 9 then
  if vin a2 12 then
  nm (sI q (3 + a1.toNatClampNeg) a2.toNatClampNeg a3) fun q3 =>
  some q3
  else none
  else none)
theorem e_X10_set {E : EE} (hE : GE E) (q : SS) (a1 : Int32) (a2 : Int32) (a3 : Int32) : R E (κV E) 1 135 0 [(0, .ref 1), (1, .int a1), (2, .int a2), (3, .int a3)] [] q (f_X10_set q a1 a2 a3) := by
  unfold f_X10_set
  refine r_aload_n (x := 1) dX10_set_0 rfl ?_
  refine r_iload_n (x := a1) dX10_set_1 rfl ?_
  refine r_iload_n (x := a2) dX10_set_2 rfl ?_
  refine r_calli (k := 0) (idx := 38) (y := 132) (as := [.ref 1, .int a1, .int a2]) (rest := []) (L0 := [(0, .ref 1), (1, .int a1), (2, .int a2)]) dX10_set_3 rfl rfl rfl rfl rfl (vok_v (ob_1 hE) rfl) rfl (r_dep (by decide) (e_X10_hasNumber hE q a1 a2)) (fun r1 => ?_)
  refine r_if_eq (t := 18) dX10_set_6 rfl (fun h4 => ?_) (fun h4 => ?_)
  · exact r_return dX10_set_18 rfl rfl
  · refine r_aload_n (x := 1) dX10_set_9 rfl ?_
    refine r_getA dX10_set_10 (fa_10_11_1 hE) ?_
    refine r_iload_n (x := a1) dX10_set_13 rfl ?_
    refine r_aaload dX10_set_14 (ar_2 hE) (by decide) (rv_2 hE) (fun h2 => ?_)
    refine r_iload_n (x := a2) dX10_set_15 rfl ?_
    refine r_iload_n (x := a3) dX10_set_16 rfl ?_
    refine r_iastore dX10_set_17 (aw_3 hE (vin_lt h2)) ?_
    refine r_nmS fun q3 _ => ?_
    exact r_return dX10_set_18 rfl rfl
def f_X0_redoNext (q : SS)  : Option SS :=
  if (q.1 52 6) ≤ 0 then
  (some q)
  else
  (if (40 : Int32) ≤ (q.1 52 5) then
  (some q)
  else
  (if vin (q.1 52 5) 40 then
  if vin (q.1 52 5) 40 then
  if vin (q.1 52 5) 40 then
  (f_X10_set q (q.1 53 (q.1 52 5).toNatClampNeg) (q.1 54 (q.1 52 5).toNatClampNeg) (q.1 56 (q.1 52 5).toNatClampNeg)).bind fun r1 =>
  nm (sI r1 52 5 ((r1.1 52 5) + (1 : Int32))) fun q2 =>
  nm (sI q2 52 6 ((q2.1 52 6) - (1 : Int32))) fun q3 =>
  some q3
  else none
  else none
  else none))
theorem e_X0_redoNext {E : EE} (hE : GE E) (q : SS)  : R E (κV E) 2 6 0 [(0, .ref 52)] [] q (f_X0_redoNext q) := by
  unfold f_X0_redoNext
  refine r_aload_n (x := 52) dX0_redoNext_0 rfl ?_
  refine r_getI dX0_redoNext_1 (ff_0_30_52 hE) (by decide) ?_
  refine r_if_le (t := 70) dX0_redoNext_4 rfl (fun h5 => ?_) (fun h5 => ?_)
  · exact r_return dX0_redoNext_70 rfl rfl
  · refine r_aload_n (x := 52) dX0_redoNext_7 rfl ?_
    refine r_getI dX0_redoNext_8 (ff_0_26_52 hE) (by decide) ?_
    refine r_bipush (v := (40 : Int32)) dX0_redoNext_11 rfl ?_
    refine r_icmp_ge (t := 70) dX0_redoNext_13 rfl (fun h4 => ?_) (fun h4 => ?_)
    · exact r_return dX0_redoNext_70 rfl rfl
    · refine r_aload_n (x := 52) dX0_redoNext_16 rfl ?_
      refine r_getA dX0_redoNext_17 (fa_0_7_52 hE) ?_
      refine r_aload_n (x := 52) dX0_redoNext_20 rfl ?_
      refine r_getA dX0_redoNext_21 (fa_0_13_52 hE) ?_
      refine r_aload_n (x := 52) dX0_redoNext_24 rfl ?_
      refine r_getI dX0_redoNext_25 (ff_0_26_52 hE) (by decide) ?_
      refine r_iaload dX0_redoNext_28 (ar_53 hE) ?_
      refine r_aload_n (x := 52) dX0_redoNext_29 rfl ?_
      refine r_getA dX0_redoNext_30 (fa_0_17_52 hE) ?_
      refine r_aload_n (x := 52) dX0_redoNext_33 rfl ?_
      refine r_getI dX0_redoNext_34 (ff_0_26_52 hE) (by decide) ?_
      refine r_iaload dX0_redoNext_37 (ar_54 hE) ?_
      refine r_aload_n (x := 52) dX0_redoNext_38 rfl ?_
      refine r_getA dX0_redoNext_39 (fa_0_23_52 hE) ?_
      refine r_aload_n (x := 52) dX0_redoNext_42 rfl ?_
      refine r_getI dX0_redoNext_43 (ff_0_26_52 hE) (by decide) ?_
      refine r_iaload dX0_redoNext_46 (ar_56 hE) ?_
      refine r_callV (k := 0) (idx := 42) (y := 135) (as := [.ref 1, .int (q.1 53 (q.1 52 5).toNatClampNeg), .int (q.1 54 (q.1 52 5).toNatClampNeg), .int (q.1 56 (q.1 52 5).toNatClampNeg)]) (rest := []) (L0 := [(0, .ref 1), (1, .int (q.1 53 (q.1 52 5).toNatClampNeg)), (2, .int (q.1 54 (q.1 52 5).toNatClampNeg)), (3, .int (q.1 56 (q.1 52 5).toNatClampNeg))]) dX0_redoNext_47 rfl rfl rfl rfl rfl (vok_v (ob_1 hE) rfl) rfl (r_dep (by decide) (e_X10_set hE q (q.1 53 (q.1 52 5).toNatClampNeg) (q.1 54 (q.1 52 5).toNatClampNeg) (q.1 56 (q.1 52 5).toNatClampNeg))) (fun r1 => ?_)
      refine r_aload_n (x := 52) dX0_redoNext_50 rfl ?_
      refine r_dup dX0_redoNext_51 rfl ?_
      refine r_getI dX0_redoNext_52 (ff_0_26_52 hE) (by decide) ?_
      refine r_iconst (v := (1 : Int32)) dX0_redoNext_55 rfl ?_
      refine r_iadd dX0_redoNext_56 ?_
      refine r_putI dX0_redoNext_57 (ff_0_26_52 hE) ?_
      refine r_nmS fun q2 _ => ?_
      refine r_aload_n (x := 52) dX0_redoNext_60 rfl ?_
      refine r_dup dX0_redoNext_61 rfl ?_
      refine r_getI dX0_redoNext_62 (ff_0_30_52 hE) (by decide) ?_
      refine r_iconst (v := (1 : Int32)) dX0_redoNext_65 rfl ?_
      refine r_isub dX0_redoNext_66 ?_
      refine r_putI dX0_redoNext_67 (ff_0_30_52 hE) ?_
      refine r_nmS fun q3 _ => ?_
      exact r_return dX0_redoNext_70 rfl rfl
def f_X11_redo (q : SS)  : Option (Int32 × SS) :=
  (f_X0_undone q).bind fun r1 =>
  if r1 = 0 then
  (some ((-5 : Int32), q))
  else
  ((f_X0_redoNext q).bind fun r2 =>
  (f_X0_undone r2).bind fun r3 =>
  some (r3, r2))
theorem e_X11_redo {E : EE} (hE : GE E) (q : SS)  : R E (κI E) 3 177 0 [(0, .ref 0)] [] q (f_X11_redo q) := by
  unfold f_X11_redo
  refine r_aload_n (x := 0) dX11_redo_0 rfl ?_
  refine r_getA dX11_redo_1 (fa_11_83_0 hE) ?_
  refine r_calli (k := 0) (idx := 330) (y := 2) (as := [.ref 52]) (rest := []) (L0 := [(0, .ref 52)]) dX11_redo_4 rfl rfl rfl rfl rfl (vok_v (ob_52 hE) rfl) rfl (r_dep (by decide) (e_X0_undone hE q)) (fun r1 => ?_)
  refine r_if_ne (t := 13) dX11_redo_7 rfl (fun h4 => ?_) (fun h4 => ?_)
  · refine r_bipush (v := (-5 : Int32)) dX11_redo_10 rfl ?_
    exact r_ireturn dX11_redo_12 rfl rfl
  · refine r_aload_n (x := 0) dX11_redo_13 rfl ?_
    refine r_getA dX11_redo_14 (fa_11_83_0 hE) ?_
    refine r_callV (k := 0) (idx := 333) (y := 6) (as := [.ref 52]) (rest := []) (L0 := [(0, .ref 52)]) dX11_redo_17 rfl rfl rfl rfl rfl (vok_v (ob_52 hE) rfl) rfl (r_dep (by decide) (e_X0_redoNext hE q)) (fun r2 => ?_)
    refine r_aload_n (x := 0) dX11_redo_20 rfl ?_
    refine r_getA dX11_redo_21 (fa_11_83_0 hE) ?_
    refine r_calli (k := 0) (idx := 330) (y := 2) (as := [.ref 52]) (rest := []) (L0 := [(0, .ref 52)]) dX11_redo_24 rfl rfl rfl rfl rfl (vok_v (ob_52 hE) rfl) rfl (r_dep (by decide) (e_X0_undone hE r2)) (fun r3 => ?_)
    exact r_ireturn dX11_redo_27 rfl rfl
def f_X12_lays (q : SS) (a1 : Int32) (a2 : Int32) (a3 : Int32) : Option SS :=
  sw a1 [(0, (if vin a2 6 then
  nm (sI q 61 a2.toNatClampNeg a3) fun q2 =>
  some q2
  else none)), (1, (if vin a2 6 then
  nm (sI q 62 a2.toNatClampNeg a3) fun q4 =>
  some q4
  else none)), (2, (if vin a2 6 then
  nm (sI q 63 a2.toNatClampNeg a3) fun q6 =>
  some q6
  else none)), (3, (if vin a2 6 then
  nm (sI q 64 a2.toNatClampNeg a3) fun q8 =>
  some q8
  else none)), (4, (if vin a2 12 then
  nm (sI q 65 a2.toNatClampNeg a3) fun q10 =>
  some q10
  else none)), (5, (if vin a2 12 then
  nm (sI q 66 a2.toNatClampNeg a3) fun q12 =>
  some q12
  else none)), (6, (if vin a2 12 then
  nm (sI q 67 a2.toNatClampNeg a3) fun q14 =>
  some q14
  else none))]
  (if vin (a1 - (7 : Int32)) 2 then
  nm (sI q 68 (a1 - (7 : Int32)).toNatClampNeg a3) fun q15 =>
  some q15
  else none)
theorem e_X12_lays {E : EE} (hE : GE E) (q : SS) (a1 : Int32) (a2 : Int32) (a3 : Int32) : R E (κV E) 0 199 0 [(0, .ref 60), (1, .int a1), (2, .int a2), (3, .int a3)] [] q (f_X12_lays q a1 a2 a3) := by
  unfold f_X12_lays
  refine r_iload_n (x := a1) dX12_lays_0 rfl ?_
  refine r_sw1 (fun h1 => ?_) (fun h1 => ?_)
  · refine r_jmp (t := 44) dX12_lays_1 rfl (by rw [h1]; rfl) ?_
    refine r_aload_n (x := 60) dX12_lays_44 rfl ?_
    refine r_getA dX12_lays_45 (fa_12_9_60 hE) ?_
    refine r_iload_n (x := a2) dX12_lays_48 rfl ?_
    refine r_iload_n (x := a3) dX12_lays_49 rfl ?_
    refine r_iastore dX12_lays_50 (ar_61 hE) ?_
    refine r_nmS fun q2 _ => ?_
    refine r_goto (t := 124) dX12_lays_51 rfl ?_
    exact r_return dX12_lays_124 rfl rfl
  refine r_sw1 (fun h3 => ?_) (fun h3 => ?_)
  · refine r_jmp (t := 54) dX12_lays_1 rfl (by rw [h3]; rfl) ?_
    refine r_aload_n (x := 60) dX12_lays_54 rfl ?_
    refine r_getA dX12_lays_55 (fa_12_15_60 hE) ?_
    refine r_iload_n (x := a2) dX12_lays_58 rfl ?_
    refine r_iload_n (x := a3) dX12_lays_59 rfl ?_
    refine r_iastore dX12_lays_60 (ar_62 hE) ?_
    refine r_nmS fun q4 _ => ?_
    refine r_goto (t := 124) dX12_lays_61 rfl ?_
    exact r_return dX12_lays_124 rfl rfl
  refine r_sw1 (fun h5 => ?_) (fun h5 => ?_)
  · refine r_jmp (t := 64) dX12_lays_1 rfl (by rw [h5]; rfl) ?_
    refine r_aload_n (x := 60) dX12_lays_64 rfl ?_
    refine r_getA dX12_lays_65 (fa_12_18_60 hE) ?_
    refine r_iload_n (x := a2) dX12_lays_68 rfl ?_
    refine r_iload_n (x := a3) dX12_lays_69 rfl ?_
    refine r_iastore dX12_lays_70 (ar_63 hE) ?_
    refine r_nmS fun q6 _ => ?_
    refine r_goto (t := 124) dX12_lays_71 rfl ?_
    exact r_return dX12_lays_124 rfl rfl
  refine r_sw1 (fun h7 => ?_) (fun h7 => ?_)
  · refine r_jmp (t := 74) dX12_lays_1 rfl (by rw [h7]; rfl) ?_
    refine r_aload_n (x := 60) dX12_lays_74 rfl ?_
    refine r_getA dX12_lays_75 (fa_12_21_60 hE) ?_
    refine r_iload_n (x := a2) dX12_lays_78 rfl ?_
    refine r_iload_n (x := a3) dX12_lays_79 rfl ?_
    refine r_iastore dX12_lays_80 (ar_64 hE) ?_
    refine r_nmS fun q8 _ => ?_
    refine r_goto (t := 124) dX12_lays_81 rfl ?_
    exact r_return dX12_lays_124 rfl rfl
  refine r_sw1 (fun h9 => ?_) (fun h9 => ?_)
  · refine r_jmp (t := 84) dX12_lays_1 rfl (by rw [h9]; rfl) ?_
    refine r_aload_n (x := 60) dX12_lays_84 rfl ?_
    refine r_getA dX12_lays_85 (fa_12_24_60 hE) ?_
    refine r_iload_n (x := a2) dX12_lays_88 rfl ?_
    refine r_iload_n (x := a3) dX12_lays_89 rfl ?_
    refine r_iastore dX12_lays_90 (ar_65 hE) ?_
    refine r_nmS fun q10 _ => ?_
    refine r_goto (t := 124) dX12_lays_91 rfl ?_
    exact r_return dX12_lays_124 rfl rfl
  refine r_sw1 (fun h11 => ?_) (fun h11 => ?_)
  · refine r_jmp (t := 94) dX12_lays_1 rfl (by rw [h11]; rfl) ?_
    refine r_aload_n (x := 60) dX12_lays_94 rfl ?_
    refine r_getA dX12_lays_95 (fa_12_27_60 hE) ?_
    refine r_iload_n (x := a2) dX12_lays_98 rfl ?_
    refine r_iload_n (x := a3) dX12_lays_99 rfl ?_
    refine r_iastore dX12_lays_100 (ar_66 hE) ?_
    refine r_nmS fun q12 _ => ?_
    refine r_goto (t := 124) dX12_lays_101 rfl ?_
    exact r_return dX12_lays_124 rfl rfl
  refine r_sw1 (fun h13 => ?_) (fun h13 => ?_)
  · refine r_jmp (t := 104) dX12_lays_1 rfl (by rw [h13]; rfl) ?_
    refine r_aload_n (x := 60) dX12_lays_104 rfl ?_
    refine r_getA dX12_lays_105 (fa_12_30_60 hE) ?_
    refine r_iload_n (x := a2) dX12_lays_108 rfl ?_
    refine r_iload_n (x := a3) dX12_lays_109 rfl ?_
    refine r_iastore dX12_lays_110 (ar_67 hE) ?_
    refine r_nmS fun q14 _ => ?_
    refine r_goto (t := 124) dX12_lays_111 rfl ?_
    exact r_return dX12_lays_124 rfl rfl
  refine r_jmp (t := 114) dX12_lays_1 rfl ?_ ?_
  · have h16 := sw_lo (v := a1.toInt) 0
    have h16 := sw_st h16 h1
    have h16 := sw_st h16 h3
    have h16 := sw_st h16 h5
    have h16 := sw_st h16 h7
    have h16 := sw_st h16 h9
    have h16 := sw_st h16 h11
    have h16 := sw_st h16 h13
    exact sw_df h16 (by decide) rfl
  refine r_aload_n (x := 60) dX12_lays_114 rfl ?_
  refine r_getA dX12_lays_115 (fa_12_33_60 hE) ?_
  refine r_iload_n (x := a1) dX12_lays_118 rfl ?_
  refine r_bipush (v := (7 : Int32)) dX12_lays_119 rfl ?_
  refine r_isub dX12_lays_121 ?_
  refine r_iload_n (x := a3) dX12_lays_122 rfl ?_
  refine r_iastore dX12_lays_123 (ar_68 hE) ?_
  refine r_nmS fun q15 _ => ?_
  exact r_return dX12_lays_124 rfl rfl
def f_X12_redo (q : SS)  : Option (Int32 × SS) :=
  if (q.1 60 12) = 0 then
  (some ((-5 : Int32), q))
  else
  (if vin (q.1 60 11) 40 then
  if vin (q.1 60 11) 40 then
  if vin (q.1 60 11) 40 then
  (f_X12_lays q (q.1 69 (q.1 60 11).toNatClampNeg) (q.1 70 (q.1 60 11).toNatClampNeg) (q.1 72 (q.1 60 11).toNatClampNeg)).bind fun r1 =>
  nm (sI r1 60 11 ((r1.1 60 11) + (1 : Int32))) fun q2 =>
  nm (sI q2 60 12 ((q2.1 60 12) - (1 : Int32))) fun q3 =>
  some ((q3.1 60 12), q3)
  else none
  else none
  else none)
theorem e_X12_redo {E : EE} (hE : GE E) (q : SS)  : R E (κI E) 1 202 0 [(0, .ref 60)] [] q (f_X12_redo q) := by
  unfold f_X12_redo
  refine r_aload_n (x := 60) dX12_redo_0 rfl ?_
  refine r_getI dX12_redo_1 (ff_12_146_60 hE) (by decide) ?_
  refine r_if_ne (t := 10) dX12_redo_4 rfl (fun h4 => ?_) (fun h4 => ?_)
  · refine r_bipush (v := (-5 : Int32)) dX12_redo_7 rfl ?_
    exact r_ireturn dX12_redo_9 rfl rfl
  · refine r_aload_n (x := 60) dX12_redo_10 rfl ?_
    refine r_aload_n (x := 60) dX12_redo_11 rfl ?_
    refine r_getA dX12_redo_12 (fa_12_36_60 hE) ?_
    refine r_aload_n (x := 60) dX12_redo_15 rfl ?_
    refine r_getI dX12_redo_16 (ff_12_149_60 hE) (by decide) ?_
    refine r_iaload dX12_redo_19 (ar_69 hE) ?_
    refine r_aload_n (x := 60) dX12_redo_20 rfl ?_
    refine r_getA dX12_redo_21 (fa_12_39_60 hE) ?_
    refine r_aload_n (x := 60) dX12_redo_24 rfl ?_
    refine r_getI dX12_redo_25 (ff_12_149_60 hE) (by decide) ?_
    refine r_iaload dX12_redo_28 (ar_70 hE) ?_
    refine r_aload_n (x := 60) dX12_redo_29 rfl ?_
    refine r_getA dX12_redo_30 (fa_12_45_60 hE) ?_
    refine r_aload_n (x := 60) dX12_redo_33 rfl ?_
    refine r_getI dX12_redo_34 (ff_12_149_60 hE) (by decide) ?_
    refine r_iaload dX12_redo_37 (ar_72 hE) ?_
    refine r_callV (k := 0) (idx := 152) (y := 199) (as := [.ref 60, .int (q.1 69 (q.1 60 11).toNatClampNeg), .int (q.1 70 (q.1 60 11).toNatClampNeg), .int (q.1 72 (q.1 60 11).toNatClampNeg)]) (rest := []) (L0 := [(0, .ref 60), (1, .int (q.1 69 (q.1 60 11).toNatClampNeg)), (2, .int (q.1 70 (q.1 60 11).toNatClampNeg)), (3, .int (q.1 72 (q.1 60 11).toNatClampNeg))]) dX12_redo_38 rfl rfl rfl rfl rfl (vok_v (ob_60 hE) rfl) rfl (r_dep (by decide) (e_X12_lays hE q (q.1 69 (q.1 60 11).toNatClampNeg) (q.1 70 (q.1 60 11).toNatClampNeg) (q.1 72 (q.1 60 11).toNatClampNeg))) (fun r1 => ?_)
    refine r_aload_n (x := 60) dX12_redo_41 rfl ?_
    refine r_dup dX12_redo_42 rfl ?_
    refine r_getI dX12_redo_43 (ff_12_149_60 hE) (by decide) ?_
    refine r_iconst (v := (1 : Int32)) dX12_redo_46 rfl ?_
    refine r_iadd dX12_redo_47 ?_
    refine r_putI dX12_redo_48 (ff_12_149_60 hE) ?_
    refine r_nmS fun q2 _ => ?_
    refine r_aload_n (x := 60) dX12_redo_51 rfl ?_
    refine r_dup dX12_redo_52 rfl ?_
    refine r_getI dX12_redo_53 (ff_12_146_60 hE) (by decide) ?_
    refine r_iconst (v := (1 : Int32)) dX12_redo_56 rfl ?_
    refine r_isub dX12_redo_57 ?_
    refine r_putI dX12_redo_58 (ff_12_146_60 hE) ?_
    refine r_nmS fun q3 _ => ?_
    refine r_aload_n (x := 60) dX12_redo_61 rfl ?_
    refine r_getI dX12_redo_62 (ff_12_146_60 hE) (by decide) ?_
    exact r_ireturn dX12_redo_65 rfl rfl
def f_X0_undoLatest (q : SS)  : Option SS :=
  if (q.1 52 5) ≤ 0 then
  (some q)
  else
  (nm (sI q 52 5 ((q.1 52 5) - (1 : Int32))) fun q1 =>
  nm (sI q1 52 6 ((q1.1 52 6) + (1 : Int32))) fun q2 =>
  if vin (q2.1 52 5) 40 then
  if vin (q2.1 52 5) 40 then
  if vin (q2.1 52 5) 40 then
  (f_X10_set q2 (q2.1 53 (q2.1 52 5).toNatClampNeg) (q2.1 54 (q2.1 52 5).toNatClampNeg) (q2.1 55 (q2.1 52 5).toNatClampNeg)).bind fun r3 =>
  some r3
  else none
  else none
  else none)
theorem e_X0_undoLatest {E : EE} (hE : GE E) (q : SS)  : R E (κV E) 2 5 0 [(0, .ref 52)] [] q (f_X0_undoLatest q) := by
  unfold f_X0_undoLatest
  refine r_aload_n (x := 52) dX0_undoLatest_0 rfl ?_
  refine r_getI dX0_undoLatest_1 (ff_0_26_52 hE) (by decide) ?_
  refine r_if_le (t := 61) dX0_undoLatest_4 rfl (fun h4 => ?_) (fun h4 => ?_)
  · exact r_return dX0_undoLatest_61 rfl rfl
  · refine r_aload_n (x := 52) dX0_undoLatest_7 rfl ?_
    refine r_dup dX0_undoLatest_8 rfl ?_
    refine r_getI dX0_undoLatest_9 (ff_0_26_52 hE) (by decide) ?_
    refine r_iconst (v := (1 : Int32)) dX0_undoLatest_12 rfl ?_
    refine r_isub dX0_undoLatest_13 ?_
    refine r_putI dX0_undoLatest_14 (ff_0_26_52 hE) ?_
    refine r_nmS fun q1 _ => ?_
    refine r_aload_n (x := 52) dX0_undoLatest_17 rfl ?_
    refine r_dup dX0_undoLatest_18 rfl ?_
    refine r_getI dX0_undoLatest_19 (ff_0_30_52 hE) (by decide) ?_
    refine r_iconst (v := (1 : Int32)) dX0_undoLatest_22 rfl ?_
    refine r_iadd dX0_undoLatest_23 ?_
    refine r_putI dX0_undoLatest_24 (ff_0_30_52 hE) ?_
    refine r_nmS fun q2 _ => ?_
    refine r_aload_n (x := 52) dX0_undoLatest_27 rfl ?_
    refine r_getA dX0_undoLatest_28 (fa_0_7_52 hE) ?_
    refine r_aload_n (x := 52) dX0_undoLatest_31 rfl ?_
    refine r_getA dX0_undoLatest_32 (fa_0_13_52 hE) ?_
    refine r_aload_n (x := 52) dX0_undoLatest_35 rfl ?_
    refine r_getI dX0_undoLatest_36 (ff_0_26_52 hE) (by decide) ?_
    refine r_iaload dX0_undoLatest_39 (ar_53 hE) ?_
    refine r_aload_n (x := 52) dX0_undoLatest_40 rfl ?_
    refine r_getA dX0_undoLatest_41 (fa_0_17_52 hE) ?_
    refine r_aload_n (x := 52) dX0_undoLatest_44 rfl ?_
    refine r_getI dX0_undoLatest_45 (ff_0_26_52 hE) (by decide) ?_
    refine r_iaload dX0_undoLatest_48 (ar_54 hE) ?_
    refine r_aload_n (x := 52) dX0_undoLatest_49 rfl ?_
    refine r_getA dX0_undoLatest_50 (fa_0_20_52 hE) ?_
    refine r_aload_n (x := 52) dX0_undoLatest_53 rfl ?_
    refine r_getI dX0_undoLatest_54 (ff_0_26_52 hE) (by decide) ?_
    refine r_iaload dX0_undoLatest_57 (ar_55 hE) ?_
    refine r_callV (k := 0) (idx := 42) (y := 135) (as := [.ref 1, .int (q2.1 53 (q2.1 52 5).toNatClampNeg), .int (q2.1 54 (q2.1 52 5).toNatClampNeg), .int (q2.1 55 (q2.1 52 5).toNatClampNeg)]) (rest := []) (L0 := [(0, .ref 1), (1, .int (q2.1 53 (q2.1 52 5).toNatClampNeg)), (2, .int (q2.1 54 (q2.1 52 5).toNatClampNeg)), (3, .int (q2.1 55 (q2.1 52 5).toNatClampNeg))]) dX0_undoLatest_58 rfl rfl rfl rfl rfl (vok_v (ob_1 hE) rfl) rfl (r_dep (by decide) (e_X10_set hE q2 (q2.1 53 (q2.1 52 5).toNatClampNeg) (q2.1 54 (q2.1 52 5).toNatClampNeg) (q2.1 55 (q2.1 52 5).toNatClampNeg))) (fun r3 => ?_)
    exact r_return dX0_undoLatest_61 rfl rfl
def f_X11_undo (q : SS)  : Option (Int32 × SS) :=
  (f_X0_done q).bind fun r1 =>
  if r1 = 0 then
  (some ((-5 : Int32), q))
  else
  ((f_X0_undoLatest q).bind fun r2 =>
  (f_X0_done r2).bind fun r3 =>
  some (r3, r2))
theorem e_X11_undo {E : EE} (hE : GE E) (q : SS)  : R E (κI E) 3 176 0 [(0, .ref 0)] [] q (f_X11_undo q) := by
  unfold f_X11_undo
  refine r_aload_n (x := 0) dX11_undo_0 rfl ?_
  refine r_getA dX11_undo_1 (fa_11_83_0 hE) ?_
  refine r_calli (k := 0) (idx := 324) (y := 1) (as := [.ref 52]) (rest := []) (L0 := [(0, .ref 52)]) dX11_undo_4 rfl rfl rfl rfl rfl (vok_v (ob_52 hE) rfl) rfl (r_dep (by decide) (e_X0_done hE q)) (fun r1 => ?_)
  refine r_if_ne (t := 13) dX11_undo_7 rfl (fun h4 => ?_) (fun h4 => ?_)
  · refine r_bipush (v := (-5 : Int32)) dX11_undo_10 rfl ?_
    exact r_ireturn dX11_undo_12 rfl rfl
  · refine r_aload_n (x := 0) dX11_undo_13 rfl ?_
    refine r_getA dX11_undo_14 (fa_11_83_0 hE) ?_
    refine r_callV (k := 0) (idx := 327) (y := 5) (as := [.ref 52]) (rest := []) (L0 := [(0, .ref 52)]) dX11_undo_17 rfl rfl rfl rfl rfl (vok_v (ob_52 hE) rfl) rfl (r_dep (by decide) (e_X0_undoLatest hE q)) (fun r2 => ?_)
    refine r_aload_n (x := 0) dX11_undo_20 rfl ?_
    refine r_getA dX11_undo_21 (fa_11_83_0 hE) ?_
    refine r_calli (k := 0) (idx := 324) (y := 1) (as := [.ref 52]) (rest := []) (L0 := [(0, .ref 52)]) dX11_undo_24 rfl rfl rfl rfl rfl (vok_v (ob_52 hE) rfl) rfl (r_dep (by decide) (e_X0_done hE r2)) (fun r3 => ?_)
    exact r_ireturn dX11_undo_27 rfl rfl
def f_X12_undo (q : SS)  : Option (Int32 × SS) :=
  if (q.1 60 11) = 0 then
  (some ((-5 : Int32), q))
  else
  (nm (sI q 60 11 ((q.1 60 11) - (1 : Int32))) fun q1 =>
  nm (sI q1 60 12 ((q1.1 60 12) + (1 : Int32))) fun q2 =>
  if vin (q2.1 60 11) 40 then
  if vin (q2.1 60 11) 40 then
  if vin (q2.1 60 11) 40 then
  (f_X12_lays q2 (q2.1 69 (q2.1 60 11).toNatClampNeg) (q2.1 70 (q2.1 60 11).toNatClampNeg) (q2.1 71 (q2.1 60 11).toNatClampNeg)).bind fun r3 =>
  some ((r3.1 60 11), r3)
  else none
  else none
  else none)
theorem e_X12_undo {E : EE} (hE : GE E) (q : SS)  : R E (κI E) 1 201 0 [(0, .ref 60)] [] q (f_X12_undo q) := by
  unfold f_X12_undo
  refine r_aload_n (x := 60) dX12_undo_0 rfl ?_
  refine r_getI dX12_undo_1 (ff_12_149_60 hE) (by decide) ?_
  refine r_if_ne (t := 10) dX12_undo_4 rfl (fun h4 => ?_) (fun h4 => ?_)
  · refine r_bipush (v := (-5 : Int32)) dX12_undo_7 rfl ?_
    exact r_ireturn dX12_undo_9 rfl rfl
  · refine r_aload_n (x := 60) dX12_undo_10 rfl ?_
    refine r_dup dX12_undo_11 rfl ?_
    refine r_getI dX12_undo_12 (ff_12_149_60 hE) (by decide) ?_
    refine r_iconst (v := (1 : Int32)) dX12_undo_15 rfl ?_
    refine r_isub dX12_undo_16 ?_
    refine r_putI dX12_undo_17 (ff_12_149_60 hE) ?_
    refine r_nmS fun q1 _ => ?_
    refine r_aload_n (x := 60) dX12_undo_20 rfl ?_
    refine r_dup dX12_undo_21 rfl ?_
    refine r_getI dX12_undo_22 (ff_12_146_60 hE) (by decide) ?_
    refine r_iconst (v := (1 : Int32)) dX12_undo_25 rfl ?_
    refine r_iadd dX12_undo_26 ?_
    refine r_putI dX12_undo_27 (ff_12_146_60 hE) ?_
    refine r_nmS fun q2 _ => ?_
    refine r_aload_n (x := 60) dX12_undo_30 rfl ?_
    refine r_aload_n (x := 60) dX12_undo_31 rfl ?_
    refine r_getA dX12_undo_32 (fa_12_36_60 hE) ?_
    refine r_aload_n (x := 60) dX12_undo_35 rfl ?_
    refine r_getI dX12_undo_36 (ff_12_149_60 hE) (by decide) ?_
    refine r_iaload dX12_undo_39 (ar_69 hE) ?_
    refine r_aload_n (x := 60) dX12_undo_40 rfl ?_
    refine r_getA dX12_undo_41 (fa_12_39_60 hE) ?_
    refine r_aload_n (x := 60) dX12_undo_44 rfl ?_
    refine r_getI dX12_undo_45 (ff_12_149_60 hE) (by decide) ?_
    refine r_iaload dX12_undo_48 (ar_70 hE) ?_
    refine r_aload_n (x := 60) dX12_undo_49 rfl ?_
    refine r_getA dX12_undo_50 (fa_12_42_60 hE) ?_
    refine r_aload_n (x := 60) dX12_undo_53 rfl ?_
    refine r_getI dX12_undo_54 (ff_12_149_60 hE) (by decide) ?_
    refine r_iaload dX12_undo_57 (ar_71 hE) ?_
    refine r_callV (k := 0) (idx := 152) (y := 199) (as := [.ref 60, .int (q2.1 69 (q2.1 60 11).toNatClampNeg), .int (q2.1 70 (q2.1 60 11).toNatClampNeg), .int (q2.1 71 (q2.1 60 11).toNatClampNeg)]) (rest := []) (L0 := [(0, .ref 60), (1, .int (q2.1 69 (q2.1 60 11).toNatClampNeg)), (2, .int (q2.1 70 (q2.1 60 11).toNatClampNeg)), (3, .int (q2.1 71 (q2.1 60 11).toNatClampNeg))]) dX12_undo_58 rfl rfl rfl rfl rfl (vok_v (ob_60 hE) rfl) rfl (r_dep (by decide) (e_X12_lays hE q2 (q2.1 69 (q2.1 60 11).toNatClampNeg) (q2.1 70 (q2.1 60 11).toNatClampNeg) (q2.1 71 (q2.1 60 11).toNatClampNeg))) (fun r3 => ?_)
    refine r_aload_n (x := 60) dX12_undo_61 rfl ?_
    refine r_getI dX12_undo_62 (ff_12_149_60 hE) (by decide) ?_
    exact r_ireturn dX12_undo_65 rfl rfl
def f_X1_hasImage (q : SS)  : Option Int32 :=
  if (q.1 47 7) = 0 ∨ (q.1 47 7) = 1 then some (q.1 47 7) else none
theorem e_X1_hasImage {E : EE} (hE : GE E) (q : SS)  : R E (κi E q) 0 10 0 [(0, .ref 47)] [] q (f_X1_hasImage q) := by
  unfold f_X1_hasImage
  refine r_aload_n (x := 47) dX1_hasImage_0 rfl ?_
  refine r_getI dX1_hasImage_1 (ff_1_28_47 hE) (by decide) ?_
  exact r_zreturn dX1_hasImage_4 rfl rfl
def b_X1_layBack_30 : SS → Int32 → Option SS :=
  fx2 (fun (rec_30 : SS → Int32 → Option SS) (q : SS) (l1 : Int32) =>
  if (q.1 47 5) ≤ l1 then
  (some q)
  else
  (if (12 : Int32) ≤ l1 then
  (some q)
  else
  (if vin l1 12 then
  (f_X10_set q (4 : Int32) l1 (q.1 50 l1.toNatClampNeg)).bind fun r3 =>
  if vin l1 12 then
  (f_X10_set r3 (6 : Int32) l1 (r3.1 51 l1.toNatClampNeg)).bind fun r4 =>
  rec_30 r4 (l1 + (1 : Int32))
  else none
  else none))) FU
theorem rb_X1_layBack_30 {E : EE} (hE : GE E) (q : SS) (l1 : Int32) : R E (κV E) 2 12 30 [(0, .ref 47), (1, .int l1)] [] q (b_X1_layBack_30 q l1) := by
  unfold b_X1_layBack_30
  refine fx2_ok (P := fun q l1 o => R E (κV E) 2 12 30 [(0, .ref 47), (1, .int l1)] [] q o) (fun _ _ => r_no) (fun rec_30 hrec_30 q l1 => ?_) _ _ _
  refine r_iload_n (x := l1) dX1_layBack_30 rfl ?_
  refine r_aload_n (x := 47) dX1_layBack_31 rfl ?_
  refine r_getI dX1_layBack_32 (ff_1_38_47 hE) (by decide) ?_
  refine r_icmp_ge (t := 81) dX1_layBack_35 rfl (fun h6 => ?_) (fun h6 => ?_)
  · exact r_return dX1_layBack_81 rfl rfl
  · refine r_iload_n (x := l1) dX1_layBack_38 rfl ?_
    refine r_bipush (v := (12 : Int32)) dX1_layBack_39 rfl ?_
    refine r_icmp_ge (t := 81) dX1_layBack_41 rfl (fun h5 => ?_) (fun h5 => ?_)
    · exact r_return dX1_layBack_81 rfl rfl
    · refine r_aload_n (x := 47) dX1_layBack_44 rfl ?_
      refine r_getA dX1_layBack_45 (fa_1_9_47 hE) ?_
      refine r_iconst (v := (4 : Int32)) dX1_layBack_48 rfl ?_
      refine r_iload_n (x := l1) dX1_layBack_49 rfl ?_
      refine r_aload_n (x := 47) dX1_layBack_50 rfl ?_
      refine r_getA dX1_layBack_51 (fa_1_22_47 hE) ?_
      refine r_iload_n (x := l1) dX1_layBack_54 rfl ?_
      refine r_iaload dX1_layBack_55 (ar_50 hE) ?_
      refine r_callV (k := 0) (idx := 58) (y := 135) (as := [.ref 1, .int (4 : Int32), .int l1, .int (q.1 50 l1.toNatClampNeg)]) (rest := []) (L0 := [(0, .ref 1), (1, .int (4 : Int32)), (2, .int l1), (3, .int (q.1 50 l1.toNatClampNeg))]) dX1_layBack_56 rfl rfl rfl rfl rfl (vok_v (ob_1 hE) rfl) rfl (r_dep (by decide) (e_X10_set hE q (4 : Int32) l1 (q.1 50 l1.toNatClampNeg))) (fun r3 => ?_)
      refine r_aload_n (x := 47) dX1_layBack_59 rfl ?_
      refine r_getA dX1_layBack_60 (fa_1_9_47 hE) ?_
      refine r_bipush (v := (6 : Int32)) dX1_layBack_63 rfl ?_
      refine r_iload_n (x := l1) dX1_layBack_65 rfl ?_
      refine r_aload_n (x := 47) dX1_layBack_66 rfl ?_
      refine r_getA dX1_layBack_67 (fa_1_25_47 hE) ?_
      refine r_iload_n (x := l1) dX1_layBack_70 rfl ?_
      refine r_iaload dX1_layBack_71 (ar_51 hE) ?_
      refine r_callV (k := 0) (idx := 58) (y := 135) (as := [.ref 1, .int (6 : Int32), .int l1, .int (r3.1 51 l1.toNatClampNeg)]) (rest := []) (L0 := [(0, .ref 1), (1, .int (6 : Int32)), (2, .int l1), (3, .int (r3.1 51 l1.toNatClampNeg))]) dX1_layBack_72 rfl rfl rfl rfl rfl (vok_v (ob_1 hE) rfl) rfl (r_dep (by decide) (e_X10_set hE r3 (6 : Int32) l1 (r3.1 51 l1.toNatClampNeg))) (fun r4 => ?_)
      refine r_iinc (x := l1) (v := (l1 + (1 : Int32))) (L2 := [(0, .ref 47), (1, .int (l1 + (1 : Int32)))]) dX1_layBack_75 rfl rfl rfl rfl ?_
      refine r_goto (t := 30) dX1_layBack_78 rfl ?_
      exact r_sub (L' := [(0, .ref 47), (1, .int (l1 + (1 : Int32)))]) (sub_c rfl (sub_c rfl sub_n)) (hrec_30 r4 (l1 + (1 : Int32)))
def f_X1_layBack (q : SS)  : Option SS :=
  (f_X10_set q (7 : Int32) (0 : Int32) (q.1 47 6)).bind fun r1 =>
  if cpok 4 4 (0 : Int32) (0 : Int32) (4 : Int32) then
  nm (sR r1 48 (va_cpy (r1.1 49) (r1.1 48) (0 : Int32).toNatClampNeg (0 : Int32).toNatClampNeg (4 : Int32).toNatClampNeg)) fun q2 =>
  b_X1_layBack_30 q2 (0 : Int32)
  else none
theorem e_X1_layBack {E : EE} (hE : GE E) (q : SS)  : R E (κV E) 2 12 0 [(0, .ref 47)] [] q (f_X1_layBack q) := by
  unfold f_X1_layBack
  refine r_aload_n (x := 47) dX1_layBack_0 rfl ?_
  refine r_getA dX1_layBack_1 (fa_1_9_47 hE) ?_
  refine r_bipush (v := (7 : Int32)) dX1_layBack_4 rfl ?_
  refine r_iconst (v := (0 : Int32)) dX1_layBack_6 rfl ?_
  refine r_aload_n (x := 47) dX1_layBack_7 rfl ?_
  refine r_getI dX1_layBack_8 (ff_1_45_47 hE) (by decide) ?_
  refine r_callV (k := 0) (idx := 58) (y := 135) (as := [.ref 1, .int (7 : Int32), .int (0 : Int32), .int (q.1 47 6)]) (rest := []) (L0 := [(0, .ref 1), (1, .int (7 : Int32)), (2, .int (0 : Int32)), (3, .int (q.1 47 6))]) dX1_layBack_11 rfl rfl rfl rfl rfl (vok_v (ob_1 hE) rfl) rfl (r_dep (by decide) (e_X10_set hE q (7 : Int32) (0 : Int32) (q.1 47 6))) (fun r1 => ?_)
  refine r_aload_n (x := 47) dX1_layBack_14 rfl ?_
  refine r_getA dX1_layBack_15 (fa_1_19_47 hE) ?_
  refine r_iconst (v := (0 : Int32)) dX1_layBack_18 rfl ?_
  refine r_aload_n (x := 47) dX1_layBack_19 rfl ?_
  refine r_getA dX1_layBack_20 (fa_1_15_47 hE) ?_
  refine r_iconst (v := (0 : Int32)) dX1_layBack_23 rfl ?_
  refine r_iconst (v := (4 : Int32)) dX1_layBack_24 rfl ?_
  refine r_cpyI dX1_layBack_25 ⟨rfl, rfl, rfl⟩ (ar_49 hE) (ar_48 hE) rfl ?_
  refine r_nmS fun q2 _ => ?_
  refine r_iconst (v := (0 : Int32)) dX1_layBack_28 rfl ?_
  refine r_istore_n (L2 := [(0, .ref 47), (1, .int (0 : Int32))]) dX1_layBack_29 rfl rfl ?_
  exact r_sub (L' := [(0, .ref 47), (1, .int (0 : Int32))]) (sub_c rfl (sub_c rfl sub_n)) (rb_X1_layBack_30 hE q2 (0 : Int32))
def f_X1_noted (q : SS) (a1 : Int32) : Option Int32 :=
  if a1 < 0 then
  (some (0 : Int32))
  else
  (if (4 : Int32) ≤ a1 then
  (some (0 : Int32))
  else
  (if vin a1 4 then
  some (q.1 48 a1.toNatClampNeg)
  else none))
theorem e_X1_noted {E : EE} (hE : GE E) (q : SS) (a1 : Int32) : R E (κi E q) 0 9 0 [(0, .ref 47), (1, .int a1)] [] q (f_X1_noted q a1) := by
  unfold f_X1_noted
  refine r_iload_n (x := a1) dX1_noted_0 rfl ?_
  refine r_if_lt (t := 18) dX1_noted_1 rfl (fun h2 => ?_) (fun h2 => ?_)
  · refine r_iconst (v := (0 : Int32)) dX1_noted_18 rfl ?_
    exact r_ireturn dX1_noted_19 rfl rfl
  · refine r_iload_n (x := a1) dX1_noted_4 rfl ?_
    refine r_iconst (v := (4 : Int32)) dX1_noted_5 rfl ?_
    refine r_icmp_ge (t := 18) dX1_noted_6 rfl (fun h1 => ?_) (fun h1 => ?_)
    · refine r_iconst (v := (0 : Int32)) dX1_noted_18 rfl ?_
      exact r_ireturn dX1_noted_19 rfl rfl
    · refine r_aload_n (x := 47) dX1_noted_9 rfl ?_
      refine r_getA dX1_noted_10 (fa_1_15_47 hE) ?_
      refine r_iload_n (x := a1) dX1_noted_13 rfl ?_
      refine r_iaload dX1_noted_14 (ar_48 hE) ?_
      refine r_goto (t := 19) dX1_noted_15 rfl ?_
      exact r_ireturn dX1_noted_19 rfl rfl
def f_X11_back (q : SS)  : Option (Int32 × SS) :=
  (f_X1_hasImage q).bind fun r1 =>
  if r1 = 0 then
  (some ((-5 : Int32), q))
  else
  ((f_X1_layBack q).bind fun r2 =>
  (f_X1_noted r2 (0 : Int32)).bind fun r3 =>
  some (r3, r2))
theorem e_X11_back {E : EE} (hE : GE E) (q : SS)  : R E (κI E) 3 175 0 [(0, .ref 0)] [] q (f_X11_back q) := by
  unfold f_X11_back
  refine r_aload_n (x := 0) dX11_back_0 rfl ?_
  refine r_getA dX11_back_1 (fa_11_76_0 hE) ?_
  refine r_calli (k := 0) (idx := 317) (y := 10) (as := [.ref 47]) (rest := []) (L0 := [(0, .ref 47)]) dX11_back_4 rfl rfl rfl rfl rfl (vok_v (ob_47 hE) rfl) rfl (r_dep (by decide) (e_X1_hasImage hE q)) (fun r1 => ?_)
  refine r_if_ne (t := 13) dX11_back_7 rfl (fun h4 => ?_) (fun h4 => ?_)
  · refine r_bipush (v := (-5 : Int32)) dX11_back_10 rfl ?_
    exact r_ireturn dX11_back_12 rfl rfl
  · refine r_aload_n (x := 0) dX11_back_13 rfl ?_
    refine r_getA dX11_back_14 (fa_11_76_0 hE) ?_
    refine r_callV (k := 0) (idx := 321) (y := 12) (as := [.ref 47]) (rest := []) (L0 := [(0, .ref 47)]) dX11_back_17 rfl rfl rfl rfl rfl (vok_v (ob_47 hE) rfl) rfl (r_dep (by decide) (e_X1_layBack hE q)) (fun r2 => ?_)
    refine r_aload_n (x := 0) dX11_back_20 rfl ?_
    refine r_getA dX11_back_21 (fa_11_76_0 hE) ?_
    refine r_iconst (v := (0 : Int32)) dX11_back_24 rfl ?_
    refine r_calli (k := 0) (idx := 311) (y := 9) (as := [.ref 47, .int (0 : Int32)]) (rest := []) (L0 := [(0, .ref 47), (1, .int (0 : Int32))]) dX11_back_25 rfl rfl rfl rfl rfl (vok_v (ob_47 hE) rfl) rfl (r_dep (by decide) (e_X1_noted hE r2 (0 : Int32))) (fun r3 => ?_)
    exact r_ireturn dX11_back_28 rfl rfl
def b_X12_back_62 : SS → Int32 → Option (Int32 × SS) :=
  fx2 (fun (rec_62 : SS → Int32 → Option (Int32 × SS)) (q : SS) (l1 : Int32) =>
  if (4 : Int32) ≤ l1 then
  (if vin (0 : Int32) 4 then
  some ((q.1 83 (0 : Int32).toNatClampNeg), q)
  else none)
  else
  (if vin l1 4 then
  if vin l1 4 then
  nm (sI q 83 l1.toNatClampNeg (q.1 86 l1.toNatClampNeg)) fun q2 =>
  rec_62 q2 (l1 + (1 : Int32))
  else none
  else none)) FU
theorem rb_X12_back_62 {E : EE} (hE : GE E) (q : SS) (l1 : Int32) : R E (κI E) 0 269 62 [(0, .ref 60), (1, .int l1)] [] q (b_X12_back_62 q l1) := by
  unfold b_X12_back_62
  refine fx2_ok (P := fun q l1 o => R E (κI E) 0 269 62 [(0, .ref 60), (1, .int l1)] [] q o) (fun _ _ => r_no) (fun rec_62 hrec_62 q l1 => ?_) _ _ _
  refine r_iload_n (x := l1) dX12_back_62 rfl ?_
  refine r_iconst (v := (4 : Int32)) dX12_back_63 rfl ?_
  refine r_icmp_ge (t := 85) dX12_back_64 rfl (fun h3 => ?_) (fun h3 => ?_)
  · refine r_aload_n (x := 60) dX12_back_85 rfl ?_
    refine r_getA dX12_back_86 (fa_12_80_60 hE) ?_
    refine r_iconst (v := (0 : Int32)) dX12_back_89 rfl ?_
    refine r_iaload dX12_back_90 (ar_83 hE) ?_
    exact r_ireturn dX12_back_91 rfl rfl
  · refine r_aload_n (x := 60) dX12_back_67 rfl ?_
    refine r_getA dX12_back_68 (fa_12_80_60 hE) ?_
    refine r_iload_n (x := l1) dX12_back_71 rfl ?_
    refine r_aload_n (x := 60) dX12_back_72 rfl ?_
    refine r_getA dX12_back_73 (fa_12_89_60 hE) ?_
    refine r_iload_n (x := l1) dX12_back_76 rfl ?_
    refine r_iaload dX12_back_77 (ar_86 hE) ?_
    refine r_iastore dX12_back_78 (ar_83 hE) ?_
    refine r_nmS fun q2 _ => ?_
    refine r_iinc (x := l1) (v := (l1 + (1 : Int32))) (L2 := [(0, .ref 60), (1, .int (l1 + (1 : Int32)))]) dX12_back_79 rfl rfl rfl rfl ?_
    refine r_goto (t := 62) dX12_back_82 rfl ?_
    exact r_sub (L' := [(0, .ref 60), (1, .int (l1 + (1 : Int32)))]) (sub_c rfl (sub_c rfl sub_n)) (hrec_62 q2 (l1 + (1 : Int32)))
def b_X12_back_22 : SS → Int32 → Option (Int32 × SS) :=
  fx2 (fun (rec_22 : SS → Int32 → Option (Int32 × SS)) (q : SS) (l1 : Int32) =>
  if (q.1 60 47) ≤ l1 then
  (b_X12_back_62 q (0 : Int32))
  else
  (if vin l1 12 then
  if vin l1 12 then
  nm (sI q 65 l1.toNatClampNeg (q.1 84 l1.toNatClampNeg)) fun q4 =>
  if vin l1 12 then
  if vin l1 12 then
  nm (sI q4 67 l1.toNatClampNeg (q4.1 85 l1.toNatClampNeg)) fun q5 =>
  rec_22 q5 (l1 + (1 : Int32))
  else none
  else none
  else none
  else none)) FU
theorem rb_X12_back_22 {E : EE} (hE : GE E) (q : SS) (l1 : Int32) : R E (κI E) 0 269 22 [(0, .ref 60), (1, .int l1)] [] q (b_X12_back_22 q l1) := by
  unfold b_X12_back_22
  refine fx2_ok (P := fun q l1 o => R E (κI E) 0 269 22 [(0, .ref 60), (1, .int l1)] [] q o) (fun _ _ => r_no) (fun rec_22 hrec_22 q l1 => ?_) _ _ _
  refine r_iload_n (x := l1) dX12_back_22 rfl ?_
  refine r_aload_n (x := 60) dX12_back_23 rfl ?_
  refine r_getI dX12_back_24 (ff_12_359_60 hE) (by decide) ?_
  refine r_icmp_ge (t := 60) dX12_back_27 rfl (fun h6 => ?_) (fun h6 => ?_)
  · refine r_iconst (v := (0 : Int32)) dX12_back_60 rfl ?_
    refine r_istore_n (L2 := [(0, .ref 60), (1, .int (0 : Int32))]) dX12_back_61 rfl rfl ?_
    exact r_sub (L' := [(0, .ref 60), (1, .int (0 : Int32))]) (sub_c rfl (sub_c rfl sub_n)) (rb_X12_back_62 hE q (0 : Int32))
  · refine r_aload_n (x := 60) dX12_back_30 rfl ?_
    refine r_getA dX12_back_31 (fa_12_24_60 hE) ?_
    refine r_iload_n (x := l1) dX12_back_34 rfl ?_
    refine r_aload_n (x := 60) dX12_back_35 rfl ?_
    refine r_getA dX12_back_36 (fa_12_83_60 hE) ?_
    refine r_iload_n (x := l1) dX12_back_39 rfl ?_
    refine r_iaload dX12_back_40 (ar_84 hE) ?_
    refine r_iastore dX12_back_41 (ar_65 hE) ?_
    refine r_nmS fun q4 _ => ?_
    refine r_aload_n (x := 60) dX12_back_42 rfl ?_
    refine r_getA dX12_back_43 (fa_12_30_60 hE) ?_
    refine r_iload_n (x := l1) dX12_back_46 rfl ?_
    refine r_aload_n (x := 60) dX12_back_47 rfl ?_
    refine r_getA dX12_back_48 (fa_12_86_60 hE) ?_
    refine r_iload_n (x := l1) dX12_back_51 rfl ?_
    refine r_iaload dX12_back_52 (ar_85 hE) ?_
    refine r_iastore dX12_back_53 (ar_67 hE) ?_
    refine r_nmS fun q5 _ => ?_
    refine r_iinc (x := l1) (v := (l1 + (1 : Int32))) (L2 := [(0, .ref 60), (1, .int (l1 + (1 : Int32)))]) dX12_back_54 rfl rfl rfl rfl ?_
    refine r_goto (t := 22) dX12_back_57 rfl ?_
    exact r_sub (L' := [(0, .ref 60), (1, .int (l1 + (1 : Int32)))]) (sub_c rfl (sub_c rfl sub_n)) (hrec_22 q5 (l1 + (1 : Int32)))
def f_X12_back (q : SS)  : Option (Int32 × SS) :=
  if (q.1 60 46) = 0 then
  (some ((-5 : Int32), q))
  else
  (if vin (0 : Int32) 2 then
  nm (sI q 68 (0 : Int32).toNatClampNeg (q.1 60 48)) fun q1 =>
  b_X12_back_22 q1 (0 : Int32)
  else none)
theorem e_X12_back {E : EE} (hE : GE E) (q : SS)  : R E (κI E) 0 269 0 [(0, .ref 60)] [] q (f_X12_back q) := by
  unfold f_X12_back
  refine r_aload_n (x := 60) dX12_back_0 rfl ?_
  refine r_getI dX12_back_1 (ff_12_356_60 hE) (by decide) ?_
  refine r_if_ne (t := 10) dX12_back_4 rfl (fun h7 => ?_) (fun h7 => ?_)
  · refine r_bipush (v := (-5 : Int32)) dX12_back_7 rfl ?_
    exact r_ireturn dX12_back_9 rfl rfl
  · refine r_aload_n (x := 60) dX12_back_10 rfl ?_
    refine r_getA dX12_back_11 (fa_12_33_60 hE) ?_
    refine r_iconst (v := (0 : Int32)) dX12_back_14 rfl ?_
    refine r_aload_n (x := 60) dX12_back_15 rfl ?_
    refine r_getI dX12_back_16 (ff_12_362_60 hE) (by decide) ?_
    refine r_iastore dX12_back_19 (ar_68 hE) ?_
    refine r_nmS fun q1 _ => ?_
    refine r_iconst (v := (0 : Int32)) dX12_back_20 rfl ?_
    refine r_istore_n (L2 := [(0, .ref 60), (1, .int (0 : Int32))]) dX12_back_21 rfl rfl ?_
    exact r_sub (L' := [(0, .ref 60), (1, .int (0 : Int32))]) (sub_c rfl (sub_c rfl sub_n)) (rb_X12_back_22 hE q1 (0 : Int32))
def f_X10_get (q : SS) (a1 : Int32) (a2 : Int32) : Option Int32 :=
  (f_X10_hasNumber q a1 a2).bind fun r1 =>
  if r1 = 0 then
  (some (0 : Int32))
  else
  (if vin a1 9 then
  if vin a2 12 then
  some (q.1 (3 + a1.toNatClampNeg) a2.toNatClampNeg)
  else none
  else none)
theorem e_X10_get {E : EE} (hE : GE E) (q : SS) (a1 : Int32) (a2 : Int32) : R E (κi E q) 1 134 0 [(0, .ref 1), (1, .int a1), (2, .int a2)] [] q (f_X10_get q a1 a2) := by
  unfold f_X10_get
  refine r_aload_n (x := 1) dX10_get_0 rfl ?_
  refine r_iload_n (x := a1) dX10_get_1 rfl ?_
  refine r_iload_n (x := a2) dX10_get_2 rfl ?_
  refine r_calli (k := 0) (idx := 38) (y := 132) (as := [.ref 1, .int a1, .int a2]) (rest := []) (L0 := [(0, .ref 1), (1, .int a1), (2, .int a2)]) dX10_get_3 rfl rfl rfl rfl rfl (vok_v (ob_1 hE) rfl) rfl (r_dep (by decide) (e_X10_hasNumber hE q a1 a2)) (fun r1 => ?_)
  refine r_if_eq (t := 20) dX10_get_6 rfl (fun h3 => ?_) (fun h3 => ?_)
  · refine r_iconst (v := (0 : Int32)) dX10_get_20 rfl ?_
    exact r_ireturn dX10_get_21 rfl rfl
  · refine r_aload_n (x := 1) dX10_get_9 rfl ?_
    refine r_getA dX10_get_10 (fa_10_11_1 hE) ?_
    refine r_iload_n (x := a1) dX10_get_13 rfl ?_
    refine r_aaload dX10_get_14 (ar_2 hE) (by decide) (rv_2 hE) (fun h2 => ?_)
    refine r_iload_n (x := a2) dX10_get_15 rfl ?_
    refine r_iaload dX10_get_16 (aw_3 hE (vin_lt h2)) ?_
    refine r_goto (t := 21) dX10_get_17 rfl ?_
    exact r_ireturn dX10_get_21 rfl rfl
def f_X10_hourNow (q : SS)  : Option Int32 :=
  (f_X10_get q (7 : Int32) (0 : Int32)).bind fun r1 =>
  some r1
theorem e_X10_hourNow {E : EE} (hE : GE E) (q : SS)  : R E (κi E q) 2 127 0 [(0, .ref 1)] [] q (f_X10_hourNow q) := by
  unfold f_X10_hourNow
  refine r_aload_n (x := 1) dX10_hourNow_0 rfl ?_
  refine r_bipush (v := (7 : Int32)) dX10_hourNow_1 rfl ?_
  refine r_iconst (v := (0 : Int32)) dX10_hourNow_3 rfl ?_
  refine r_calli (k := 0) (idx := 23) (y := 134) (as := [.ref 1, .int (7 : Int32), .int (0 : Int32)]) (rest := []) (L0 := [(0, .ref 1), (1, .int (7 : Int32)), (2, .int (0 : Int32))]) dX10_hourNow_4 rfl rfl rfl rfl rfl (vok_v (ob_1 hE) rfl) rfl (r_dep (by decide) (e_X10_get hE q (7 : Int32) (0 : Int32))) (fun r1 => ?_)
  exact r_ireturn dX10_hourNow_7 rfl rfl
def b_X1_keepImage_43 : SS → Int32 → Option SS :=
  fx2 (fun (rec_43 : SS → Int32 → Option SS) (q : SS) (l1 : Int32) =>
  if (q.1 47 5) ≤ l1 then
  (some q)
  else
  (if (12 : Int32) ≤ l1 then
  (some q)
  else
  ((f_X10_get q (4 : Int32) l1).bind fun r7 =>
  if vin l1 12 then
  nm (sI q 50 l1.toNatClampNeg r7) fun q8 =>
  (f_X10_get q8 (6 : Int32) l1).bind fun r9 =>
  if vin l1 12 then
  nm (sI q8 51 l1.toNatClampNeg r9) fun q10 =>
  rec_43 q10 (l1 + (1 : Int32))
  else none
  else none))) FU
theorem rb_X1_keepImage_43 {E : EE} (hE : GE E) (q : SS) (l1 : Int32) : R E (κV E) 3 11 43 [(0, .ref 47), (1, .int l1)] [] q (b_X1_keepImage_43 q l1) := by
  unfold b_X1_keepImage_43
  refine fx2_ok (P := fun q l1 o => R E (κV E) 3 11 43 [(0, .ref 47), (1, .int l1)] [] q o) (fun _ _ => r_no) (fun rec_43 hrec_43 q l1 => ?_) _ _ _
  refine r_iload_n (x := l1) dX1_keepImage_43 rfl ?_
  refine r_aload_n (x := 47) dX1_keepImage_44 rfl ?_
  refine r_getI dX1_keepImage_45 (ff_1_38_47 hE) (by decide) ?_
  refine r_icmp_ge (t := 94) dX1_keepImage_48 rfl (fun h12 => ?_) (fun h12 => ?_)
  · exact r_return dX1_keepImage_94 rfl rfl
  · refine r_iload_n (x := l1) dX1_keepImage_51 rfl ?_
    refine r_bipush (v := (12 : Int32)) dX1_keepImage_52 rfl ?_
    refine r_icmp_ge (t := 94) dX1_keepImage_54 rfl (fun h11 => ?_) (fun h11 => ?_)
    · exact r_return dX1_keepImage_94 rfl rfl
    · refine r_aload_n (x := 47) dX1_keepImage_57 rfl ?_
      refine r_getA dX1_keepImage_58 (fa_1_22_47 hE) ?_
      refine r_iload_n (x := l1) dX1_keepImage_61 rfl ?_
      refine r_aload_n (x := 47) dX1_keepImage_62 rfl ?_
      refine r_getA dX1_keepImage_63 (fa_1_9_47 hE) ?_
      refine r_iconst (v := (4 : Int32)) dX1_keepImage_66 rfl ?_
      refine r_iload_n (x := l1) dX1_keepImage_67 rfl ?_
      refine r_calli (k := 0) (idx := 54) (y := 134) (as := [.ref 1, .int (4 : Int32), .int l1]) (rest := [.int l1, .ref 50]) (L0 := [(0, .ref 1), (1, .int (4 : Int32)), (2, .int l1)]) dX1_keepImage_68 rfl rfl rfl rfl rfl (vok_v (ob_1 hE) rfl) rfl (r_dep (by decide) (e_X10_get hE q (4 : Int32) l1)) (fun r7 => ?_)
      refine r_iastore dX1_keepImage_71 (ar_50 hE) ?_
      refine r_nmS fun q8 _ => ?_
      refine r_aload_n (x := 47) dX1_keepImage_72 rfl ?_
      refine r_getA dX1_keepImage_73 (fa_1_25_47 hE) ?_
      refine r_iload_n (x := l1) dX1_keepImage_76 rfl ?_
      refine r_aload_n (x := 47) dX1_keepImage_77 rfl ?_
      refine r_getA dX1_keepImage_78 (fa_1_9_47 hE) ?_
      refine r_bipush (v := (6 : Int32)) dX1_keepImage_81 rfl ?_
      refine r_iload_n (x := l1) dX1_keepImage_83 rfl ?_
      refine r_calli (k := 0) (idx := 54) (y := 134) (as := [.ref 1, .int (6 : Int32), .int l1]) (rest := [.int l1, .ref 51]) (L0 := [(0, .ref 1), (1, .int (6 : Int32)), (2, .int l1)]) dX1_keepImage_84 rfl rfl rfl rfl rfl (vok_v (ob_1 hE) rfl) rfl (r_dep (by decide) (e_X10_get hE q8 (6 : Int32) l1)) (fun r9 => ?_)
      refine r_iastore dX1_keepImage_87 (ar_51 hE) ?_
      refine r_nmS fun q10 _ => ?_
      refine r_iinc (x := l1) (v := (l1 + (1 : Int32))) (L2 := [(0, .ref 47), (1, .int (l1 + (1 : Int32)))]) dX1_keepImage_88 rfl rfl rfl rfl ?_
      refine r_goto (t := 43) dX1_keepImage_91 rfl ?_
      exact r_sub (L' := [(0, .ref 47), (1, .int (l1 + (1 : Int32)))]) (sub_c rfl (sub_c rfl sub_n)) (hrec_43 q10 (l1 + (1 : Int32)))
def f_X1_keepImage (q : SS)  : Option SS :=
  nm (sI q 47 7 (1 : Int32)) fun q1 =>
  (f_X10_tickets q1).bind fun r2 =>
  nm (sI q1 47 5 r2) fun q3 =>
  (f_X10_hourNow q3).bind fun r4 =>
  nm (sI q3 47 6 r4) fun q5 =>
  if cpok 4 4 (0 : Int32) (0 : Int32) (4 : Int32) then
  nm (sR q5 49 (va_cpy (q5.1 48) (q5.1 49) (0 : Int32).toNatClampNeg (0 : Int32).toNatClampNeg (4 : Int32).toNatClampNeg)) fun q6 =>
  b_X1_keepImage_43 q6 (0 : Int32)
  else none
theorem e_X1_keepImage {E : EE} (hE : GE E) (q : SS)  : R E (κV E) 3 11 0 [(0, .ref 47)] [] q (f_X1_keepImage q) := by
  unfold f_X1_keepImage
  refine r_aload_n (x := 47) dX1_keepImage_0 rfl ?_
  refine r_iconst (v := (1 : Int32)) dX1_keepImage_1 rfl ?_
  refine r_putZC dX1_keepImage_2 (ff_1_28_47 hE) (by decide) ?_
  refine r_nmS fun q1 _ => ?_
  refine r_aload_n (x := 47) dX1_keepImage_5 rfl ?_
  refine r_aload_n (x := 47) dX1_keepImage_6 rfl ?_
  refine r_getA dX1_keepImage_7 (fa_1_9_47 hE) ?_
  refine r_calli (k := 0) (idx := 32) (y := 126) (as := [.ref 1]) (rest := [.ref 47]) (L0 := [(0, .ref 1)]) dX1_keepImage_10 rfl rfl rfl rfl rfl (vok_v (ob_1 hE) rfl) rfl (r_dep (by decide) (e_X10_tickets hE q1)) (fun r2 => ?_)
  refine r_putI dX1_keepImage_13 (ff_1_38_47 hE) ?_
  refine r_nmS fun q3 _ => ?_
  refine r_aload_n (x := 47) dX1_keepImage_16 rfl ?_
  refine r_aload_n (x := 47) dX1_keepImage_17 rfl ?_
  refine r_getA dX1_keepImage_18 (fa_1_9_47 hE) ?_
  refine r_calli (k := 0) (idx := 42) (y := 127) (as := [.ref 1]) (rest := [.ref 47]) (L0 := [(0, .ref 1)]) dX1_keepImage_21 rfl rfl rfl rfl rfl (vok_v (ob_1 hE) rfl) rfl (r_dep (by decide) (e_X10_hourNow hE q3)) (fun r4 => ?_)
  refine r_putI dX1_keepImage_24 (ff_1_45_47 hE) ?_
  refine r_nmS fun q5 _ => ?_
  refine r_aload_n (x := 47) dX1_keepImage_27 rfl ?_
  refine r_getA dX1_keepImage_28 (fa_1_15_47 hE) ?_
  refine r_iconst (v := (0 : Int32)) dX1_keepImage_31 rfl ?_
  refine r_aload_n (x := 47) dX1_keepImage_32 rfl ?_
  refine r_getA dX1_keepImage_33 (fa_1_19_47 hE) ?_
  refine r_iconst (v := (0 : Int32)) dX1_keepImage_36 rfl ?_
  refine r_iconst (v := (4 : Int32)) dX1_keepImage_37 rfl ?_
  refine r_cpyI dX1_keepImage_38 ⟨rfl, rfl, rfl⟩ (ar_48 hE) (ar_49 hE) rfl ?_
  refine r_nmS fun q6 _ => ?_
  refine r_iconst (v := (0 : Int32)) dX1_keepImage_41 rfl ?_
  refine r_istore_n (L2 := [(0, .ref 47), (1, .int (0 : Int32))]) dX1_keepImage_42 rfl rfl ?_
  exact r_sub (L' := [(0, .ref 47), (1, .int (0 : Int32))]) (sub_c rfl (sub_c rfl sub_n)) (rb_X1_keepImage_43 hE q6 (0 : Int32))
