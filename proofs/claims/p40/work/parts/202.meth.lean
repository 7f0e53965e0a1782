def f_X12_proving (q : SS) (a1 : Int32) (a2 : Int32) : Option (Int32 × SS) :=
  if vin a1 50 then
  if (q.1 87 a1.toNatClampNeg) = (5 : Int32) then
  ((f_X12_ran q (60 : Int32)).bind fun r1 =>
  (f_X12_childProves r1 a1 a2).bind fun r2 =>
  (f_X12_slipping r2.2 a1 (2 : Int32)).bind fun r3 =>
  some ((r2.1 - r3.1), r3.2))
  else
  (if vin a1 50 then
  if (q.1 87 a1.toNatClampNeg) = (3 : Int32) then
  ((f_X12_childProves q a1 a2).bind fun r4 =>
  some (r4.1, r4.2))
  else
  ((f_X12_plainProves q a1 a2).bind fun r5 =>
  some (r5.1, r5.2))
  else none)
  else none
theorem e_X12_proving {E : EE} (hE : GE E) (q : SS) (a1 : Int32) (a2 : Int32) : R E (κI E) 4 283 0 [(0, .ref 60), (1, .int a1), (2, .int a2)] [] q (f_X12_proving q a1 a2) := by
  unfold f_X12_proving
  refine r_aload_n (x := 60) gX12_proving_0.1 rfl ?_
  refine r_getA gX12_proving_0.2.1 (fa_12_92_60 hE) ?_
  refine r_iload_n (x := a1) gX12_proving_0.2.2.1 rfl ?_
  refine r_iaload gX12_proving_0.2.2.2.1 (ar_87 hE) ?_
  refine r_iconst (v := (5 : Int32)) gX12_proving_0.2.2.2.2.1 rfl ?_
  refine r_icmp_ne (t := 32) gX12_proving_0.2.2.2.2.2.1 rfl (fun h7 => ?_) (fun h7 => ?_)
  · refine r_aload_n (x := 60) gX12_proving_0.2.2.2.2.2.2.1 rfl ?_
    refine r_bipush (v := (60 : Int32)) gX12_proving_0.2.2.2.2.2.2.2.1 rfl ?_
    refine r_callV (k := 0) (idx := 371) (y := 271) (as := [.ref 60, .int (60 : Int32)]) (rest := []) (L0 := [(0, .ref 60), (1, .int (60 : Int32))]) gX12_proving_0.2.2.2.2.2.2.2.2.1 rfl rfl rfl rfl rfl (vok_v (ob_60 hE) rfl) rfl (r_dep (by decide) (e_X12_ran hE q (60 : Int32))) (fun r1 => ?_)
    refine r_aload_n (x := 60) gX12_proving_0.2.2.2.2.2.2.2.2.2.1 rfl ?_
    refine r_iload_n (x := a1) gX12_proving_0.2.2.2.2.2.2.2.2.2.2.1 rfl ?_
    refine r_iload_n (x := a2) gX12_proving_0.2.2.2.2.2.2.2.2.2.2.2.1 rfl ?_
    refine r_callI (k := 0) (idx := 399) (y := 282) (as := [.ref 60, .int a1, .int a2]) (rest := []) (L0 := [(0, .ref 60), (1, .int a1), (2, .int a2)]) gX12_proving_0.2.2.2.2.2.2.2.2.2.2.2.2.1 rfl rfl rfl rfl rfl (vok_v (ob_60 hE) rfl) rfl (r_dep (by decide) (e_X12_childProves hE r1 a1 a2)) (fun r2 => ?_)
    refine r_istore_n (L2 := [(0, .ref 60), (1, .int a1), (2, .int a2), (3, .int r2.1)]) gX12_proving_0.2.2.2.2.2.2.2.2.2.2.2.2.2.1 rfl rfl ?_
    refine r_iload_n (x := r2.1) gX12_proving_0.2.2.2.2.2.2.2.2.2.2.2.2.2.2.1 rfl ?_
    refine r_aload_n (x := 60) gX12_proving_0.2.2.2.2.2.2.2.2.2.2.2.2.2.2.2.1 rfl ?_
    refine r_iload_n (x := a1) gX12_proving_25.1 rfl ?_
    refine r_iconst (v := (2 : Int32)) gX12_proving_25.2.1 rfl ?_
    refine r_callI (k := 0) (idx := 384) (y := 277) (as := [.ref 60, .int a1, .int (2 : Int32)]) (rest := [.int r2.1]) (L0 := [(0, .ref 60), (1, .int a1), (2, .int (2 : Int32))]) gX12_proving_25.2.2.1 rfl rfl rfl rfl rfl (vok_v (ob_60 hE) rfl) rfl (r_dep (by decide) (e_X12_slipping hE r2.2 a1 (2 : Int32))) (fun r3 => ?_)
    refine r_isub gX12_proving_25.2.2.2.1 ?_
    exact r_ireturn gX12_proving_25.2.2.2.2.1 rfl rfl
  · refine r_aload_n (x := 60) gX12_proving_25.2.2.2.2.2.1 rfl ?_
    refine r_getA gX12_proving_25.2.2.2.2.2.2.1 (fa_12_92_60 hE) ?_
    refine r_iload_n (x := a1) gX12_proving_25.2.2.2.2.2.2.2.1 rfl ?_
    refine r_iaload gX12_proving_25.2.2.2.2.2.2.2.2.1 (ar_87 hE) ?_
    refine r_iconst (v := (3 : Int32)) gX12_proving_25.2.2.2.2.2.2.2.2.2.1 rfl ?_
    refine r_icmp_ne (t := 51) gX12_proving_25.2.2.2.2.2.2.2.2.2.2.1 rfl (fun h6 => ?_) (fun h6 => ?_)
    · refine r_aload_n (x := 60) gX12_proving_25.2.2.2.2.2.2.2.2.2.2.2.1 rfl ?_
      refine r_iload_n (x := a1) gX12_proving_25.2.2.2.2.2.2.2.2.2.2.2.2.1 rfl ?_
      refine r_iload_n (x := a2) gX12_proving_25.2.2.2.2.2.2.2.2.2.2.2.2.2.1 rfl ?_
      refine r_callI (k := 0) (idx := 399) (y := 282) (as := [.ref 60, .int a1, .int a2]) (rest := []) (L0 := [(0, .ref 60), (1, .int a1), (2, .int a2)]) gX12_proving_25.2.2.2.2.2.2.2.2.2.2.2.2.2.2.1 rfl rfl rfl rfl rfl (vok_v (ob_60 hE) rfl) rfl (r_dep (by decide) (e_X12_childProves hE q a1 a2)) (fun r4 => ?_)
      refine r_goto (t := 57) gX12_proving_25.2.2.2.2.2.2.2.2.2.2.2.2.2.2.2.1 rfl ?_
      exact r_ireturn gX12_proving_51.2.2.2.2.1 rfl rfl
    · refine r_aload_n (x := 60) gX12_proving_51.1 rfl ?_
      refine r_iload_n (x := a1) gX12_proving_51.2.1 rfl ?_
      refine r_iload_n (x := a2) gX12_proving_51.2.2.1 rfl ?_
      refine r_callI (k := 0) (idx := 396) (y := 281) (as := [.ref 60, .int a1, .int a2]) (rest := []) (L0 := [(0, .ref 60), (1, .int a1), (2, .int a2)]) gX12_proving_51.2.2.2.1 rfl rfl rfl rfl rfl (vok_v (ob_60 hE) rfl) rfl (r_dep (by decide) (e_X12_plainProves hE q a1 a2)) (fun r5 => ?_)
      exact r_ireturn gX12_proving_51.2.2.2.2.1 rfl rfl
def f_X12_folding (q : SS) (a1 : Int32) (a2 : Int32) : Option (Int32 × SS) :=
  if vin a1 50 then
  (f_X12_isUnder q (q.1 87 a1.toNatClampNeg) (3 : Int32)).bind fun r1 =>
  if r1 = 0 then
  (if vin a1 50 then
  if (q.1 87 a1.toNatClampNeg) = (7 : Int32) then
  ((f_X12_ran q (80 : Int32)).bind fun r2 =>
  (f_X12_plainFolds r2 a1 a2).bind fun r3 =>
  (f_X12_proving r3.2 a1 (2 : Int32)).bind fun r4 =>
  some ((r3.1 + r4.1), r4.2))
  else
  (if vin a1 50 then
  if (q.1 87 a1.toNatClampNeg) = (2 : Int32) then
  ((f_X12_brideFolds q a1 a2).bind fun r5 =>
  some (r5.1, r5.2))
  else
  ((f_X12_plainFolds q a1 a2).bind fun r6 =>
  some (r6.1, r6.2))
  else none)
  else none)
  else
  ((f_X12_ran q (41 : Int32)).bind fun r9 =>
  (f_X12_brideFolds r9 a1 (a2 + (1 : Int32))).bind fun r10 =>
  some (r10.1, r10.2))
  else none
theorem e_X12_folding {E : EE} (hE : GE E) (q : SS) (a1 : Int32) (a2 : Int32) : R E (κI E) 6 280 0 [(0, .ref 60), (1, .int a1), (2, .int a2)] [] q (f_X12_folding q a1 a2) := by
  unfold f_X12_folding
  refine r_aload_n (x := 60) gX12_folding_0.1 rfl ?_
  refine r_getA gX12_folding_0.2.1 (fa_12_92_60 hE) ?_
  refine r_iload_n (x := a1) gX12_folding_0.2.2.1 rfl ?_
  refine r_iaload gX12_folding_0.2.2.2.1 (ar_87 hE) ?_
  refine r_iconst (v := (3 : Int32)) gX12_folding_0.2.2.2.2.1 rfl ?_
  refine r_calli (k := 2) (idx := 378) (y := 274) (as := [.int (q.1 87 a1.toNatClampNeg), .int (3 : Int32)]) (rest := []) (L0 := [(0, .int (q.1 87 a1.toNatClampNeg)), (1, .int (3 : Int32))]) gX12_folding_0.2.2.2.2.2.1 rfl rfl rfl rfl rfl vok_s rfl (r_dep (by decide) (e_X12_isUnder hE q (q.1 87 a1.toNatClampNeg) (3 : Int32))) (fun r1 => ?_)
  refine r_if_eq (t := 28) gX12_folding_0.2.2.2.2.2.2.1 rfl (fun h11 => ?_) (fun h11 => ?_)
  · refine r_aload_n (x := 60) gX12_folding_27.2.1 rfl ?_
    refine r_getA gX12_folding_27.2.2.1 (fa_12_92_60 hE) ?_
    refine r_iload_n (x := a1) gX12_folding_27.2.2.2.1 rfl ?_
    refine r_iaload gX12_folding_27.2.2.2.2.1 (ar_87 hE) ?_
    refine r_bipush (v := (7 : Int32)) gX12_folding_27.2.2.2.2.2.1 rfl ?_
    refine r_icmp_ne (t := 61) gX12_folding_27.2.2.2.2.2.2.1 rfl (fun h8 => ?_) (fun h8 => ?_)
    · refine r_aload_n (x := 60) gX12_folding_27.2.2.2.2.2.2.2.1 rfl ?_
      refine r_bipush (v := (80 : Int32)) gX12_folding_27.2.2.2.2.2.2.2.2.1 rfl ?_
      refine r_callV (k := 0) (idx := 371) (y := 271) (as := [.ref 60, .int (80 : Int32)]) (rest := []) (L0 := [(0, .ref 60), (1, .int (80 : Int32))]) gX12_folding_27.2.2.2.2.2.2.2.2.2.1 rfl rfl rfl rfl rfl (vok_v (ob_60 hE) rfl) rfl (r_dep (by decide) (e_X12_ran hE q (80 : Int32))) (fun r2 => ?_)
      refine r_aload_n (x := 60) gX12_folding_27.2.2.2.2.2.2.2.2.2.2.1 rfl ?_
      refine r_iload_n (x := a1) gX12_folding_27.2.2.2.2.2.2.2.2.2.2.2.1 rfl ?_
      refine r_iload_n (x := a2) gX12_folding_27.2.2.2.2.2.2.2.2.2.2.2.2.1 rfl ?_
      refine r_callI (k := 0) (idx := 387) (y := 278) (as := [.ref 60, .int a1, .int a2]) (rest := []) (L0 := [(0, .ref 60), (1, .int a1), (2, .int a2)]) gX12_folding_27.2.2.2.2.2.2.2.2.2.2.2.2.2.1 rfl rfl rfl rfl rfl (vok_v (ob_60 hE) rfl) rfl (r_dep (by decide) (e_X12_plainFolds hE r2 a1 a2)) (fun r3 => ?_)
      refine r_istore_n (L2 := [(0, .ref 60), (1, .int a1), (2, .int a2), (3, .int r3.1)]) gX12_folding_27.2.2.2.2.2.2.2.2.2.2.2.2.2.2.1 rfl rfl ?_
      refine r_iload_n (x := r3.1) gX12_folding_27.2.2.2.2.2.2.2.2.2.2.2.2.2.2.2.1 rfl ?_
      refine r_aload_n (x := 60) gX12_folding_53.1 rfl ?_
      refine r_iload_n (x := a1) gX12_folding_53.2.1 rfl ?_
      refine r_iconst (v := (2 : Int32)) gX12_folding_53.2.2.1 rfl ?_
      refine r_callI (k := 0) (idx := 393) (y := 283) (as := [.ref 60, .int a1, .int (2 : Int32)]) (rest := [.int r3.1]) (L0 := [(0, .ref 60), (1, .int a1), (2, .int (2 : Int32))]) gX12_folding_53.2.2.2.1 rfl rfl rfl rfl rfl (vok_v (ob_60 hE) rfl) rfl (r_dep (by decide) (e_X12_proving hE r3.2 a1 (2 : Int32))) (fun r4 => ?_)
      refine r_iadd gX12_folding_53.2.2.2.2.1 ?_
      exact r_ireturn gX12_folding_53.2.2.2.2.2.1 rfl rfl
    · refine r_aload_n (x := 60) gX12_folding_53.2.2.2.2.2.2.1 rfl ?_
      refine r_getA gX12_folding_53.2.2.2.2.2.2.2.1 (fa_12_92_60 hE) ?_
      refine r_iload_n (x := a1) gX12_folding_53.2.2.2.2.2.2.2.2.1 rfl ?_
      refine r_iaload gX12_folding_53.2.2.2.2.2.2.2.2.2.1 (ar_87 hE) ?_
      refine r_iconst (v := (2 : Int32)) gX12_folding_53.2.2.2.2.2.2.2.2.2.2.1 rfl ?_
      refine r_icmp_ne (t := 80) gX12_folding_53.2.2.2.2.2.2.2.2.2.2.2.1 rfl (fun h7 => ?_) (fun h7 => ?_)
      · refine r_aload_n (x := 60) gX12_folding_53.2.2.2.2.2.2.2.2.2.2.2.2.1 rfl ?_
        refine r_iload_n (x := a1) gX12_folding_53.2.2.2.2.2.2.2.2.2.2.2.2.2.1 rfl ?_
        refine r_iload_n (x := a2) gX12_folding_53.2.2.2.2.2.2.2.2.2.2.2.2.2.2.1 rfl ?_
        refine r_callI (k := 0) (idx := 390) (y := 279) (as := [.ref 60, .int a1, .int a2]) (rest := []) (L0 := [(0, .ref 60), (1, .int a1), (2, .int a2)]) gX12_folding_53.2.2.2.2.2.2.2.2.2.2.2.2.2.2.2.1 rfl rfl rfl rfl rfl (vok_v (ob_60 hE) rfl) rfl (r_dep (by decide) (e_X12_brideFolds hE q a1 a2)) (fun r5 => ?_)
        refine r_goto (t := 86) gX12_folding_77.1 rfl ?_
        exact r_ireturn gX12_folding_77.2.2.2.2.2.1 rfl rfl
      · refine r_aload_n (x := 60) gX12_folding_77.2.1 rfl ?_
        refine r_iload_n (x := a1) gX12_folding_77.2.2.1 rfl ?_
        refine r_iload_n (x := a2) gX12_folding_77.2.2.2.1 rfl ?_
        refine r_callI (k := 0) (idx := 387) (y := 278) (as := [.ref 60, .int a1, .int a2]) (rest := []) (L0 := [(0, .ref 60), (1, .int a1), (2, .int a2)]) gX12_folding_77.2.2.2.2.1 rfl rfl rfl rfl rfl (vok_v (ob_60 hE) rfl) rfl (r_dep (by decide) (e_X12_plainFolds hE q a1 a2)) (fun r6 => ?_)
        exact r_ireturn gX12_folding_77.2.2.2.2.2.1 rfl rfl
  · refine r_aload_n (x := 60) gX12_folding_0.2.2.2.2.2.2.2.1 rfl ?_
    refine r_bipush (v := (41 : Int32)) gX12_folding_0.2.2.2.2.2.2.2.2.1 rfl ?_
    refine r_callV (k := 0) (idx := 371) (y := 271) (as := [.ref 60, .int (41 : Int32)]) (rest := []) (L0 := [(0, .ref 60), (1, .int (41 : Int32))]) gX12_folding_0.2.2.2.2.2.2.2.2.2.1 rfl rfl rfl rfl rfl (vok_v (ob_60 hE) rfl) rfl (r_dep (by decide) (e_X12_ran hE q (41 : Int32))) (fun r9 => ?_)
    refine r_aload_n (x := 60) gX12_folding_0.2.2.2.2.2.2.2.2.2.2.1 rfl ?_
    refine r_iload_n (x := a1) gX12_folding_0.2.2.2.2.2.2.2.2.2.2.2.1 rfl ?_
    refine r_iload_n (x := a2) gX12_folding_0.2.2.2.2.2.2.2.2.2.2.2.2.1 rfl ?_
    refine r_iconst (v := (1 : Int32)) gX12_folding_0.2.2.2.2.2.2.2.2.2.2.2.2.2.1 rfl ?_
    refine r_iadd gX12_folding_0.2.2.2.2.2.2.2.2.2.2.2.2.2.2.1 ?_
    refine r_callI (k := 0) (idx := 390) (y := 279) (as := [.ref 60, .int a1, .int (a2 + (1 : Int32))]) (rest := []) (L0 := [(0, .ref 60), (1, .int a1), (2, .int (a2 + (1 : Int32)))]) gX12_folding_0.2.2.2.2.2.2.2.2.2.2.2.2.2.2.2.1 rfl rfl rfl rfl rfl (vok_v (ob_60 hE) rfl) rfl (r_dep (by decide) (e_X12_brideFolds hE r9 a1 (a2 + (1 : Int32)))) (fun r10 => ?_)
    exact r_ireturn gX12_folding_27.1 rfl rfl
def f_X12_plainTells (q : SS) (a1 : Int32) (a2 : Int32) : Option (Int32 × SS) :=
  (f_X12_ran q (2 : Int32)).bind fun r1 =>
  (f_X12_folding r1 a1 a2).bind fun r2 =>
  (f_X12_proving r2.2 a1 (1 : Int32)).bind fun r3 =>
  some ((r2.1 - r3.1), r3.2)
theorem e_X12_plainTells {E : EE} (hE : GE E) (q : SS) (a1 : Int32) (a2 : Int32) : R E (κI E) 7 284 0 [(0, .ref 60), (1, .int a1), (2, .int a2)] [] q (f_X12_plainTells q a1 a2) := by
  unfold f_X12_plainTells
  refine r_aload_n (x := 60) gX12_plainTells_0.1 rfl ?_
  refine r_iconst (v := (2 : Int32)) gX12_plainTells_0.2.1 rfl ?_
  refine r_callV (k := 0) (idx := 371) (y := 271) (as := [.ref 60, .int (2 : Int32)]) (rest := []) (L0 := [(0, .ref 60), (1, .int (2 : Int32))]) gX12_plainTells_0.2.2.1 rfl rfl rfl rfl rfl (vok_v (ob_60 hE) rfl) rfl (r_dep (by decide) (e_X12_ran hE q (2 : Int32))) (fun r1 => ?_)
  refine r_aload_n (x := 60) gX12_plainTells_0.2.2.2.1 rfl ?_
  refine r_iload_n (x := a1) gX12_plainTells_0.2.2.2.2.1 rfl ?_
  refine r_iload_n (x := a2) gX12_plainTells_0.2.2.2.2.2.1 rfl ?_
  refine r_callI (k := 0) (idx := 402) (y := 280) (as := [.ref 60, .int a1, .int a2]) (rest := []) (L0 := [(0, .ref 60), (1, .int a1), (2, .int a2)]) gX12_plainTells_0.2.2.2.2.2.2.1 rfl rfl rfl rfl rfl (vok_v (ob_60 hE) rfl) rfl (r_dep (by decide) (e_X12_folding hE r1 a1 a2)) (fun r2 => ?_)
  refine r_istore_n (L2 := [(0, .ref 60), (1, .int a1), (2, .int a2), (3, .int r2.1)]) gX12_plainTells_0.2.2.2.2.2.2.2.1 rfl rfl ?_
  refine r_iload_n (x := r2.1) gX12_plainTells_0.2.2.2.2.2.2.2.2.1 rfl ?_
  refine r_aload_n (x := 60) gX12_plainTells_0.2.2.2.2.2.2.2.2.2.1 rfl ?_
  refine r_iload_n (x := a1) gX12_plainTells_0.2.2.2.2.2.2.2.2.2.2.1 rfl ?_
  refine r_iconst (v := (1 : Int32)) gX12_plainTells_0.2.2.2.2.2.2.2.2.2.2.2.1 rfl ?_
  refine r_callI (k := 0) (idx := 393) (y := 283) (as := [.ref 60, .int a1, .int (1 : Int32)]) (rest := [.int r2.1]) (L0 := [(0, .ref 60), (1, .int a1), (2, .int (1 : Int32))]) gX12_plainTells_0.2.2.2.2.2.2.2.2.2.2.2.2.1 rfl rfl rfl rfl rfl (vok_v (ob_60 hE) rfl) rfl (r_dep (by decide) (e_X12_proving hE r2.2 a1 (1 : Int32))) (fun r3 => ?_)
  refine r_isub gX12_plainTells_0.2.2.2.2.2.2.2.2.2.2.2.2.2.1 ?_
  exact r_ireturn gX12_plainTells_0.2.2.2.2.2.2.2.2.2.2.2.2.2.2.1 rfl rfl
def f_X12_telling (q : SS) (a1 : Int32) (a2 : Int32) : Option (Int32 × SS) :=
  if vin a1 50 then
  if (q.1 87 a1.toNatClampNeg) = (4 : Int32) then
  ((f_X12_ran q (50 : Int32)).bind fun r1 =>
  (f_X12_plainTells r1 a1 a2).bind fun r2 =>
  some ((r2.1 ^^^ (5 : Int32)), r2.2))
  else
  (if vin a1 50 then
  if (q.1 87 a1.toNatClampNeg) = (5 : Int32) then
  ((f_X12_ran q (61 : Int32)).bind fun r3 =>
  (f_X12_plainTells r3 a1 a2).bind fun r4 =>
  some ((r4.1 + (1 : Int32)), r4.2))
  else
  ((f_X12_plainTells q a1 a2).bind fun r5 =>
  some (r5.1, r5.2))
  else none)
  else none
theorem e_X12_telling {E : EE} (hE : GE E) (q : SS) (a1 : Int32) (a2 : Int32) : R E (κI E) 8 285 0 [(0, .ref 60), (1, .int a1), (2, .int a2)] [] q (f_X12_telling q a1 a2) := by
  unfold f_X12_telling
  refine r_aload_n (x := 60) gX12_telling_0.1 rfl ?_
  refine r_getA gX12_telling_0.2.1 (fa_12_92_60 hE) ?_
  refine r_iload_n (x := a1) gX12_telling_0.2.2.1 rfl ?_
  refine r_iaload gX12_telling_0.2.2.2.1 (ar_87 hE) ?_
  refine r_iconst (v := (4 : Int32)) gX12_telling_0.2.2.2.2.1 rfl ?_
  refine r_icmp_ne (t := 25) gX12_telling_0.2.2.2.2.2.1 rfl (fun h7 => ?_) (fun h7 => ?_)
  · refine r_aload_n (x := 60) gX12_telling_0.2.2.2.2.2.2.1 rfl ?_
    refine r_bipush (v := (50 : Int32)) gX12_telling_0.2.2.2.2.2.2.2.1 rfl ?_
    refine r_callV (k := 0) (idx := 371) (y := 271) (as := [.ref 60, .int (50 : Int32)]) (rest := []) (L0 := [(0, .ref 60), (1, .int (50 : Int32))]) gX12_telling_0.2.2.2.2.2.2.2.2.1 rfl rfl rfl rfl rfl (vok_v (ob_60 hE) rfl) rfl (r_dep (by decide) (e_X12_ran hE q (50 : Int32))) (fun r1 => ?_)
    refine r_aload_n (x := 60) gX12_telling_0.2.2.2.2.2.2.2.2.2.1 rfl ?_
    refine r_iload_n (x := a1) gX12_telling_0.2.2.2.2.2.2.2.2.2.2.1 rfl ?_
    refine r_iload_n (x := a2) gX12_telling_0.2.2.2.2.2.2.2.2.2.2.2.1 rfl ?_
    refine r_callI (k := 0) (idx := 405) (y := 284) (as := [.ref 60, .int a1, .int a2]) (rest := []) (L0 := [(0, .ref 60), (1, .int a1), (2, .int a2)]) gX12_telling_0.2.2.2.2.2.2.2.2.2.2.2.2.1 rfl rfl rfl rfl rfl (vok_v (ob_60 hE) rfl) rfl (r_dep (by decide) (e_X12_plainTells hE r1 a1 a2)) (fun r2 => ?_)
    refine r_iconst (v := (5 : Int32)) gX12_telling_0.2.2.2.2.2.2.2.2.2.2.2.2.2.1 rfl ?_
    refine r_ixor gX12_telling_0.2.2.2.2.2.2.2.2.2.2.2.2.2.2.1 ?_
    exact r_ireturn gX12_telling_0.2.2.2.2.2.2.2.2.2.2.2.2.2.2.2.1 rfl rfl
  · refine r_aload_n (x := 60) gX12_telling_25.1 rfl ?_
    refine r_getA gX12_telling_25.2.1 (fa_12_92_60 hE) ?_
    refine r_iload_n (x := a1) gX12_telling_25.2.2.1 rfl ?_
    refine r_iaload gX12_telling_25.2.2.2.1 (ar_87 hE) ?_
    refine r_iconst (v := (5 : Int32)) gX12_telling_25.2.2.2.2.1 rfl ?_
    refine r_icmp_ne (t := 50) gX12_telling_25.2.2.2.2.2.1 rfl (fun h6 => ?_) (fun h6 => ?_)
    · refine r_aload_n (x := 60) gX12_telling_25.2.2.2.2.2.2.1 rfl ?_
      refine r_bipush (v := (61 : Int32)) gX12_telling_25.2.2.2.2.2.2.2.1 rfl ?_
      refine r_callV (k := 0) (idx := 371) (y := 271) (as := [.ref 60, .int (61 : Int32)]) (rest := []) (L0 := [(0, .ref 60), (1, .int (61 : Int32))]) gX12_telling_25.2.2.2.2.2.2.2.2.1 rfl rfl rfl rfl rfl (vok_v (ob_60 hE) rfl) rfl (r_dep (by decide) (e_X12_ran hE q (61 : Int32))) (fun r3 => ?_)
      refine r_aload_n (x := 60) gX12_telling_25.2.2.2.2.2.2.2.2.2.1 rfl ?_
      refine r_iload_n (x := a1) gX12_telling_25.2.2.2.2.2.2.2.2.2.2.1 rfl ?_
      refine r_iload_n (x := a2) gX12_telling_25.2.2.2.2.2.2.2.2.2.2.2.1 rfl ?_
      refine r_callI (k := 0) (idx := 405) (y := 284) (as := [.ref 60, .int a1, .int a2]) (rest := []) (L0 := [(0, .ref 60), (1, .int a1), (2, .int a2)]) gX12_telling_25.2.2.2.2.2.2.2.2.2.2.2.2.1 rfl rfl rfl rfl rfl (vok_v (ob_60 hE) rfl) rfl (r_dep (by decide) (e_X12_plainTells hE r3 a1 a2)) (fun r4 => ?_)
      refine r_iconst (v := (1 : Int32)) gX12_telling_25.2.2.2.2.2.2.2.2.2.2.2.2.2.1 rfl ?_
      refine r_iadd gX12_telling_25.2.2.2.2.2.2.2.2.2.2.2.2.2.2.1 ?_
      exact r_ireturn gX12_telling_25.2.2.2.2.2.2.2.2.2.2.2.2.2.2.2.1 rfl rfl
    · refine r_aload_n (x := 60) gX12_telling_50.1 rfl ?_
      refine r_iload_n (x := a1) gX12_telling_50.2.1 rfl ?_
      refine r_iload_n (x := a2) gX12_telling_50.2.2.1 rfl ?_
      refine r_callI (k := 0) (idx := 405) (y := 284) (as := [.ref 60, .int a1, .int a2]) (rest := []) (L0 := [(0, .ref 60), (1, .int a1), (2, .int a2)]) gX12_telling_50.2.2.2.1 rfl rfl rfl rfl rfl (vok_v (ob_60 hE) rfl) rfl (r_dep (by decide) (e_X12_plainTells hE q a1 a2)) (fun r5 => ?_)
      exact r_ireturn gX12_telling_50.2.2.2.2.1 rfl rfl
def f_X12_act (q : SS) (a1 : Int32) (a2 : Int32) (a3 : Int32) : Option (Int32 × SS) :=
  nm (sI q 60 54 (0 : Int32)) fun q1 =>
  (f_X12_isBody q1 a1).bind fun r2 =>
  if r2 = 0 then
  (some ((0 : Int32), q1))
  else
  ((f_X12_in q1 a2 (0 : Int32) (3 : Int32)).bind fun r3 =>
  if r3 = 0 then
  (some ((0 : Int32), q1))
  else
  (if a2 = 0 then
  ((f_X12_slipping q1 a1 a3).bind fun r4 =>
  some (r4.1, r4.2))
  else
  (if a2 = (1 : Int32) then
  ((f_X12_folding q1 a1 a3).bind fun r5 =>
  some (r5.1, r5.2))
  else
  (if a2 = (2 : Int32) then
  ((f_X12_proving q1 a1 a3).bind fun r6 =>
  some (r6.1, r6.2))
  else
  ((f_X12_telling q1 a1 a3).bind fun r7 =>
  some (r7.1, r7.2))))))
theorem e_X12_act {E : EE} (hE : GE E) (q : SS) (a1 : Int32) (a2 : Int32) (a3 : Int32) : R E (κI E) 9 286 0 [(0, .ref 60), (1, .int a1), (2, .int a2), (3, .int a3)] [] q (f_X12_act q a1 a2 a3) := by
  unfold f_X12_act
  refine r_aload_n (x := 60) gX12_act_0.1 rfl ?_
  refine r_iconst (v := (0 : Int32)) gX12_act_0.2.1 rfl ?_
  refine r_putI gX12_act_0.2.2.1 (ff_12_368_60 hE) ?_
  refine r_nmS fun q1 _ => ?_
  refine r_aload_n (x := 60) gX12_act_0.2.2.2.1 rfl ?_
  refine r_iload_n (x := a1) gX12_act_0.2.2.2.2.1 rfl ?_
  refine r_calli (k := 0) (idx := 408) (y := 270) (as := [.ref 60, .int a1]) (rest := []) (L0 := [(0, .ref 60), (1, .int a1)]) gX12_act_0.2.2.2.2.2.1 rfl rfl rfl rfl rfl (vok_v (ob_60 hE) rfl) rfl (r_dep (by decide) (e_X12_isBody hE q1 a1)) (fun r2 => ?_)
  refine r_if_eq (t := 22) gX12_act_0.2.2.2.2.2.2.1 rfl (fun h12 => ?_) (fun h12 => ?_)
  · refine r_iconst (v := (0 : Int32)) gX12_act_0.2.2.2.2.2.2.2.2.2.2.2.2.1 rfl ?_
    exact r_ireturn gX12_act_0.2.2.2.2.2.2.2.2.2.2.2.2.2.1 rfl rfl
  · refine r_iload_n (x := a2) gX12_act_0.2.2.2.2.2.2.2.1 rfl ?_
    refine r_iconst (v := (0 : Int32)) gX12_act_0.2.2.2.2.2.2.2.2.1 rfl ?_
    refine r_iconst (v := (3 : Int32)) gX12_act_0.2.2.2.2.2.2.2.2.2.1 rfl ?_
    refine r_calli (k := 2) (idx := 118) (y := 189) (as := [.int a2, .int (0 : Int32), .int (3 : Int32)]) (rest := []) (L0 := [(0, .int a2), (1, .int (0 : Int32)), (2, .int (3 : Int32))]) gX12_act_0.2.2.2.2.2.2.2.2.2.2.1 rfl rfl rfl rfl rfl vok_s rfl (r_dep (by decide) (e_X12_in hE q1 a2 (0 : Int32) (3 : Int32))) (fun r3 => ?_)
    refine r_if_ne (t := 24) gX12_act_0.2.2.2.2.2.2.2.2.2.2.2.1 rfl (fun h11 => ?_) (fun h11 => ?_)
    · refine r_iconst (v := (0 : Int32)) gX12_act_0.2.2.2.2.2.2.2.2.2.2.2.2.1 rfl ?_
      exact r_ireturn gX12_act_0.2.2.2.2.2.2.2.2.2.2.2.2.2.1 rfl rfl
    · refine r_iload_n (x := a2) gX12_act_0.2.2.2.2.2.2.2.2.2.2.2.2.2.2.1 rfl ?_
      refine r_if_ne (t := 37) gX12_act_0.2.2.2.2.2.2.2.2.2.2.2.2.2.2.2.1 rfl (fun h10 => ?_) (fun h10 => ?_)
      · refine r_aload_n (x := 60) gX12_act_28.1 rfl ?_
        refine r_iload_n (x := a1) gX12_act_28.2.1 rfl ?_
        refine r_iload_n (x := a3) gX12_act_28.2.2.1 rfl ?_
        refine r_callI (k := 0) (idx := 384) (y := 277) (as := [.ref 60, .int a1, .int a3]) (rest := []) (L0 := [(0, .ref 60), (1, .int a1), (2, .int a3)]) gX12_act_28.2.2.2.1 rfl rfl rfl rfl rfl (vok_v (ob_60 hE) rfl) rfl (r_dep (by decide) (e_X12_slipping hE q1 a1 a3)) (fun r4 => ?_)
        refine r_goto (t := 71) gX12_act_28.2.2.2.2.1 rfl ?_
        exact r_ireturn gX12_act_56.2.2.2.2.2.2.2.2.2.1 rfl rfl
      · refine r_iload_n (x := a2) gX12_act_28.2.2.2.2.2.1 rfl ?_
        refine r_iconst (v := (1 : Int32)) gX12_act_28.2.2.2.2.2.2.1 rfl ?_
        refine r_icmp_ne (t := 51) gX12_act_28.2.2.2.2.2.2.2.1 rfl (fun h9 => ?_) (fun h9 => ?_)
        · refine r_aload_n (x := 60) gX12_act_28.2.2.2.2.2.2.2.2.1 rfl ?_
          refine r_iload_n (x := a1) gX12_act_28.2.2.2.2.2.2.2.2.2.1 rfl ?_
          refine r_iload_n (x := a3) gX12_act_28.2.2.2.2.2.2.2.2.2.2.1 rfl ?_
          refine r_callI (k := 0) (idx := 402) (y := 280) (as := [.ref 60, .int a1, .int a3]) (rest := []) (L0 := [(0, .ref 60), (1, .int a1), (2, .int a3)]) gX12_act_28.2.2.2.2.2.2.2.2.2.2.2.1 rfl rfl rfl rfl rfl (vok_v (ob_60 hE) rfl) rfl (r_dep (by decide) (e_X12_folding hE q1 a1 a3)) (fun r5 => ?_)
          refine r_goto (t := 71) gX12_act_28.2.2.2.2.2.2.2.2.2.2.2.2.1 rfl ?_
          exact r_ireturn gX12_act_56.2.2.2.2.2.2.2.2.2.1 rfl rfl
        · refine r_iload_n (x := a2) gX12_act_28.2.2.2.2.2.2.2.2.2.2.2.2.2.1 rfl ?_
          refine r_iconst (v := (2 : Int32)) gX12_act_28.2.2.2.2.2.2.2.2.2.2.2.2.2.2.1 rfl ?_
          refine r_icmp_ne (t := 65) gX12_act_28.2.2.2.2.2.2.2.2.2.2.2.2.2.2.2.1 rfl (fun h8 => ?_) (fun h8 => ?_)
          · refine r_aload_n (x := 60) gX12_act_56.1 rfl ?_
            refine r_iload_n (x := a1) gX12_act_56.2.1 rfl ?_
            refine r_iload_n (x := a3) gX12_act_56.2.2.1 rfl ?_
            refine r_callI (k := 0) (idx := 393) (y := 283) (as := [.ref 60, .int a1, .int a3]) (rest := []) (L0 := [(0, .ref 60), (1, .int a1), (2, .int a3)]) gX12_act_56.2.2.2.1 rfl rfl rfl rfl rfl (vok_v (ob_60 hE) rfl) rfl (r_dep (by decide) (e_X12_proving hE q1 a1 a3)) (fun r6 => ?_)
            refine r_goto (t := 71) gX12_act_56.2.2.2.2.1 rfl ?_
            exact r_ireturn gX12_act_56.2.2.2.2.2.2.2.2.2.1 rfl rfl
          · refine r_aload_n (x := 60) gX12_act_56.2.2.2.2.2.1 rfl ?_
            refine r_iload_n (x := a1) gX12_act_56.2.2.2.2.2.2.1 rfl ?_
            refine r_iload_n (x := a3) gX12_act_56.2.2.2.2.2.2.2.1 rfl ?_
            refine r_callI (k := 0) (idx := 411) (y := 285) (as := [.ref 60, .int a1, .int a3]) (rest := []) (L0 := [(0, .ref 60), (1, .int a1), (2, .int a3)]) gX12_act_56.2.2.2.2.2.2.2.2.1 rfl rfl rfl rfl rfl (vok_v (ob_60 hE) rfl) rfl (r_dep (by decide) (e_X12_telling hE q1 a1 a3)) (fun r7 => ?_)
            exact r_ireturn gX12_act_56.2.2.2.2.2.2.2.2.2.1 rfl rfl
def f_X3_addBody (q : SS) (a1 : Int32) : Option (Int32 × SS) :=
  if (q.1 57 2) < (50 : Int32) then
  (if vin (q.1 57 2) 50 then
  nm (sI q 58 (q.1 57 2).toNatClampNeg a1) fun q1 =>
  nm (sI q1 57 2 ((q1.1 57 2) + (1 : Int32))) fun q2 =>
  some (((q2.1 57 2) - (1 : Int32)), q2)
  else none)
  else
  (some ((-3 : Int32), q))
theorem e_X3_addBody {E : EE} (hE : GE E) (q : SS) (a1 : Int32) : R E (κI E) 0 31 0 [(0, .ref 57), (1, .int a1)] [] q (f_X3_addBody q a1) := by
  unfold f_X3_addBody
  refine r_aload_n (x := 57) gX3_addBody_0.1 rfl ?_
  refine r_getI gX3_addBody_0.2.1 (ff_3_25_57 hE) (by decide) ?_
  refine r_bipush (v := (50 : Int32)) gX3_addBody_0.2.2.1 rfl ?_
  refine r_icmp_lt (t := 12) gX3_addBody_0.2.2.2.1 rfl (fun h3 => ?_) (fun h3 => ?_)
  · refine r_aload_n (x := 57) gX3_addBody_0.2.2.2.2.2.2.1 rfl ?_
    refine r_getA gX3_addBody_0.2.2.2.2.2.2.2.1 (fa_3_11_57 hE) ?_
    refine r_aload_n (x := 57) gX3_addBody_0.2.2.2.2.2.2.2.2.1 rfl ?_
    refine r_getI gX3_addBody_0.2.2.2.2.2.2.2.2.2.1 (ff_3_25_57 hE) (by decide) ?_
    refine r_iload_n (x := a1) gX3_addBody_0.2.2.2.2.2.2.2.2.2.2.1 rfl ?_
    refine r_iastore gX3_addBody_0.2.2.2.2.2.2.2.2.2.2.2.1 (ar_58 hE) ?_
    refine r_nmS fun q1 _ => ?_
    refine r_aload_n (x := 57) gX3_addBody_0.2.2.2.2.2.2.2.2.2.2.2.2.1 rfl ?_
    refine r_dup gX3_addBody_0.2.2.2.2.2.2.2.2.2.2.2.2.2.1 rfl ?_
    refine r_getI gX3_addBody_0.2.2.2.2.2.2.2.2.2.2.2.2.2.2.1 (ff_3_25_57 hE) (by decide) ?_
    refine r_iconst (v := (1 : Int32)) gX3_addBody_0.2.2.2.2.2.2.2.2.2.2.2.2.2.2.2.1 rfl ?_
    refine r_iadd gX3_addBody_28.1 ?_
    refine r_putI gX3_addBody_28.2.1 (ff_3_25_57 hE) ?_
    refine r_nmS fun q2 _ => ?_
    refine r_aload_n (x := 57) gX3_addBody_28.2.2.1 rfl ?_
    refine r_getI gX3_addBody_28.2.2.2.1 (ff_3_25_57 hE) (by decide) ?_
    refine r_iconst (v := (1 : Int32)) gX3_addBody_28.2.2.2.2.1 rfl ?_
    refine r_isub gX3_addBody_28.2.2.2.2.2.1 ?_
    exact r_ireturn gX3_addBody_28.2.2.2.2.2.2.1 rfl rfl
  · refine r_bipush (v := (-3 : Int32)) gX3_addBody_0.2.2.2.2.1 rfl ?_
    exact r_ireturn gX3_addBody_0.2.2.2.2.2.1 rfl rfl
def f_X11_body (q : SS) (a1 : Int32) : Option (Int32 × SS) :=
  (f_X3_isKind q a1).bind fun r1 =>
  if r1 = 0 then
  (some ((-1 : Int32), q))
  else
  ((f_X3_addBody q a1).bind fun r2 =>
  some (r2.1, r2.2))
theorem e_X11_body {E : EE} (hE : GE E) (q : SS) (a1 : Int32) : R E (κI E) 1 178 0 [(0, .ref 0), (1, .int a1)] [] q (f_X11_body q a1) := by
  unfold f_X11_body
  refine r_iload_n (x := a1) gX11_body_0.1 rfl ?_
  refine r_calli (k := 2) (idx := 336) (y := 27) (as := [.int a1]) (rest := []) (L0 := [(0, .int a1)]) gX11_body_0.2.1 rfl rfl rfl rfl rfl vok_s rfl (r_dep (by decide) (e_X3_isKind hE q a1)) (fun r1 => ?_)
  refine r_if_eq (t := 18) gX11_body_0.2.2.1 rfl (fun h3 => ?_) (fun h3 => ?_)
  · refine r_iconst (v := (-1 : Int32)) gX11_body_0.2.2.2.2.2.2.2.2.1 rfl ?_
    exact r_ireturn gX11_body_0.2.2.2.2.2.2.2.2.2.1 rfl rfl
  · refine r_aload_n (x := 0) gX11_body_0.2.2.2.1 rfl ?_
    refine r_getA gX11_body_0.2.2.2.2.1 (fa_11_90_0 hE) ?_
    refine r_iload_n (x := a1) gX11_body_0.2.2.2.2.2.1 rfl ?_
    refine r_callI (k := 0) (idx := 339) (y := 31) (as := [.ref 57, .int a1]) (rest := []) (L0 := [(0, .ref 57), (1, .int a1)]) gX11_body_0.2.2.2.2.2.2.1 rfl rfl rfl rfl rfl (vok_v (ob_57 hE) rfl) rfl (r_dep (by decide) (e_X3_addBody hE q a1)) (fun r2 => ?_)
    refine r_goto (t := 19) gX11_body_0.2.2.2.2.2.2.2.1 rfl ?_
    exact r_ireturn gX11_body_0.2.2.2.2.2.2.2.2.2.1 rfl rfl
def f_X12_body (q : SS) (a1 : Int32) : Option (Int32 × SS) :=
  (f_X12_in q a1 (0 : Int32) (7 : Int32)).bind fun r1 =>
  if r1 = 0 then
  (some ((-1 : Int32), q))
  else
  (if (q.1 60 52) = (50 : Int32) then
  (some ((-3 : Int32), q))
  else
  (if vin (q.1 60 52) 50 then
  nm (sI q 87 (q.1 60 52).toNatClampNeg a1) fun q2 =>
  nm (sI q2 60 52 ((q2.1 60 52) + (1 : Int32))) fun q3 =>
  some (((q3.1 60 52) - (1 : Int32)), q3)
  else none))
theorem e_X12_body {E : EE} (hE : GE E) (q : SS) (a1 : Int32) : R E (κI E) 1 273 0 [(0, .ref 60), (1, .int a1)] [] q (f_X12_body q a1) := by
  unfold f_X12_body
  refine r_iload_n (x := a1) gX12_body_0.1 rfl ?_
  refine r_iconst (v := (0 : Int32)) gX12_body_0.2.1 rfl ?_
  refine r_bipush (v := (7 : Int32)) gX12_body_0.2.2.1 rfl ?_
  refine r_calli (k := 2) (idx := 118) (y := 189) (as := [.int a1, .int (0 : Int32), .int (7 : Int32)]) (rest := []) (L0 := [(0, .int a1), (1, .int (0 : Int32)), (2, .int (7 : Int32))]) gX12_body_0.2.2.2.1 rfl rfl rfl rfl rfl vok_s rfl (r_dep (by decide) (e_X12_in hE q a1 (0 : Int32) (7 : Int32))) (fun r1 => ?_)
  refine r_if_ne (t := 12) gX12_body_0.2.2.2.2.1 rfl (fun h5 => ?_) (fun h5 => ?_)
  · refine r_iconst (v := (-1 : Int32)) gX12_body_0.2.2.2.2.2.1 rfl ?_
    exact r_ireturn gX12_body_0.2.2.2.2.2.2.1 rfl rfl
  · refine r_aload_n (x := 60) gX12_body_0.2.2.2.2.2.2.2.1 rfl ?_
    refine r_getI gX12_body_0.2.2.2.2.2.2.2.2.1 (ff_12_365_60 hE) (by decide) ?_
    refine r_bipush (v := (50 : Int32)) gX12_body_0.2.2.2.2.2.2.2.2.2.1 rfl ?_
    refine r_icmp_ne (t := 24) gX12_body_0.2.2.2.2.2.2.2.2.2.2.1 rfl (fun h4 => ?_) (fun h4 => ?_)
    · refine r_bipush (v := (-3 : Int32)) gX12_body_0.2.2.2.2.2.2.2.2.2.2.2.1 rfl ?_
      exact r_ireturn gX12_body_0.2.2.2.2.2.2.2.2.2.2.2.2.1 rfl rfl
    · refine r_aload_n (x := 60) gX12_body_0.2.2.2.2.2.2.2.2.2.2.2.2.2.1 rfl ?_
      refine r_getA gX12_body_0.2.2.2.2.2.2.2.2.2.2.2.2.2.2.1 (fa_12_92_60 hE) ?_
      refine r_aload_n (x := 60) gX12_body_0.2.2.2.2.2.2.2.2.2.2.2.2.2.2.2.1 rfl ?_
      refine r_getI gX12_body_29.1 (ff_12_365_60 hE) (by decide) ?_
      refine r_iload_n (x := a1) gX12_body_29.2.1 rfl ?_
      refine r_iastore gX12_body_29.2.2.1 (ar_87 hE) ?_
      refine r_nmS fun q2 _ => ?_
      refine r_aload_n (x := 60) gX12_body_29.2.2.2.1 rfl ?_
      refine r_dup gX12_body_29.2.2.2.2.1 rfl ?_
      refine r_getI gX12_body_29.2.2.2.2.2.1 (ff_12_365_60 hE) (by decide) ?_
      refine r_iconst (v := (1 : Int32)) gX12_body_29.2.2.2.2.2.2.1 rfl ?_
      refine r_iadd gX12_body_29.2.2.2.2.2.2.2.1 ?_
      refine r_putI gX12_body_29.2.2.2.2.2.2.2.2.1 (ff_12_365_60 hE) ?_
      refine r_nmS fun q3 _ => ?_
      refine r_aload_n (x := 60) gX12_body_29.2.2.2.2.2.2.2.2.2.1 rfl ?_
      refine r_getI gX12_body_29.2.2.2.2.2.2.2.2.2.2.1 (ff_12_365_60 hE) (by decide) ?_
      refine r_iconst (v := (1 : Int32)) gX12_body_29.2.2.2.2.2.2.2.2.2.2.2.1 rfl ?_
      refine r_isub gX12_body_29.2.2.2.2.2.2.2.2.2.2.2.2.1 ?_
      exact r_ireturn gX12_body_29.2.2.2.2.2.2.2.2.2.2.2.2.2.1 rfl rfl
def f_X0_undone (q : SS)  : Option Int32 :=
  some (q.1 52 6)
theorem e_X0_undone {E : EE} (hE : GE E) (q : SS)  : R E (κi E q) 0 2 0 [(0, .ref 52)] [] q (f_X0_undone q) := by
  unfold f_X0_undone
  refine r_aload_n (x := 52) gX0_undone_0.1 rfl ?_
  refine r_getI gX0_undone_0.2.1 (ff_0_30_52 hE) (by decide) ?_
  exact r_ireturn gX0_undone_0.2.2.1 rfl rfl
def b_X10_hasNumber_49 (q : SS) (s0 : Int32) (s1 : Int32) : Option Int32 :=
  if s0 ≤ s1 then
  (some (0 : Int32))
  else
  (some (1 : Int32))
theorem rb_X10_hasNumber_49 {E : EE} (hE : GE E) (q : SS) (s0 : Int32) (s1 : Int32) : R E (κi E q) 0 132 49 [] [.int s0, .int s1] q (b_X10_hasNumber_49 q s0 s1) := by
  unfold b_X10_hasNumber_49
  refine r_icmp_ge (t := 56) gX10_hasNumber_30.2.2.2.2.2.2.2.2.2.2.2.1 rfl (fun h1 => ?_) (fun h1 => ?_)
  · refine r_iconst (v := (0 : Int32)) gX10_hasNumber_30.2.2.2.2.2.2.2.2.2.2.2.2.2.2.1 rfl ?_
    exact r_ireturn gX10_hasNumber_30.2.2.2.2.2.2.2.2.2.2.2.2.2.2.2.1 rfl rfl
  · refine r_iconst (v := (1 : Int32)) gX10_hasNumber_30.2.2.2.2.2.2.2.2.2.2.2.2.1 rfl ?_
    refine r_goto (t := 57) gX10_hasNumber_30.2.2.2.2.2.2.2.2.2.2.2.2.2.1 rfl ?_
    exact r_ireturn gX10_hasNumber_30.2.2.2.2.2.2.2.2.2.2.2.2.2.2.2.1 rfl rfl
def f_X10_hasNumber (q : SS) (a1 : Int32) (a2 : Int32) : Option Int32 :=
  if a1 < 0 then
  (some (0 : Int32))
  else
  (if (8 : Int32) < a1 then
  (some (0 : Int32))
  else
  (if 0 ≤ a2 then
  (if a1 < (7 : Int32) then
  (if a1 < (4 : Int32) then
  (b_X10_hasNumber_49 q (q.1 1 1) a2)
  else
  (b_X10_hasNumber_49 q (q.1 1 2) a2))
  else
  (if a2 = 0 then
  (some (1 : Int32))
  else
  (some (0 : Int32))))
  else
  (some (0 : Int32))))
theorem e_X10_hasNumber {E : EE} (hE : GE E) (q : SS) (a1 : Int32) (a2 : Int32) : R E (κi E q) 0 132 0 [(0, .ref 1), (1, .int a1), (2, .int a2)] [] q (f_X10_hasNumber q a1 a2) := by
  unfold f_X10_hasNumber
  refine r_iload_n (x := a1) gX10_hasNumber_0.1 rfl ?_
  refine r_if_lt (t := 14) gX10_hasNumber_0.2.1 rfl (fun h7 => ?_) (fun h7 => ?_)
  · refine r_iconst (v := (0 : Int32)) gX10_hasNumber_0.2.2.2.2.2.2.2.1 rfl ?_
    exact r_ireturn gX10_hasNumber_0.2.2.2.2.2.2.2.2.1 rfl rfl
  · refine r_iload_n (x := a1) gX10_hasNumber_0.2.2.1 rfl ?_
    refine r_bipush (v := (8 : Int32)) gX10_hasNumber_0.2.2.2.1 rfl ?_
    refine r_icmp_gt (t := 14) gX10_hasNumber_0.2.2.2.2.1 rfl (fun h6 => ?_) (fun h6 => ?_)
    · refine r_iconst (v := (0 : Int32)) gX10_hasNumber_0.2.2.2.2.2.2.2.1 rfl ?_
      exact r_ireturn gX10_hasNumber_0.2.2.2.2.2.2.2.2.1 rfl rfl
    · refine r_iload_n (x := a2) gX10_hasNumber_0.2.2.2.2.2.1 rfl ?_
      refine r_if_ge (t := 16) gX10_hasNumber_0.2.2.2.2.2.2.1 rfl (fun h5 => ?_) (fun h5 => ?_)
      · refine r_iload_n (x := a1) gX10_hasNumber_0.2.2.2.2.2.2.2.2.2.1 rfl ?_
        refine r_bipush (v := (7 : Int32)) gX10_hasNumber_0.2.2.2.2.2.2.2.2.2.2.1 rfl ?_
        refine r_icmp_lt (t := 32) gX10_hasNumber_0.2.2.2.2.2.2.2.2.2.2.2.1 rfl (fun h4 => ?_) (fun h4 => ?_)
        · refine r_iload_n (x := a2) gX10_hasNumber_30.2.2.1 rfl ?_
          refine r_iload_n (x := a1) gX10_hasNumber_30.2.2.2.1 rfl ?_
          refine r_iconst (v := (4 : Int32)) gX10_hasNumber_30.2.2.2.2.1 rfl ?_
          refine r_icmp_lt (t := 45) gX10_hasNumber_30.2.2.2.2.2.1 rfl (fun h2 => ?_) (fun h2 => ?_)
          · refine r_aload_n (x := 1) gX10_hasNumber_30.2.2.2.2.2.2.2.2.2.1 rfl ?_
            refine r_getI gX10_hasNumber_30.2.2.2.2.2.2.2.2.2.2.1 (ff_10_16_1 hE) (by decide) ?_
            exact r_sub (L' := []) sub_n (rb_X10_hasNumber_49 hE q (q.1 1 1) a2)
          · refine r_aload_n (x := 1) gX10_hasNumber_30.2.2.2.2.2.2.1 rfl ?_
            refine r_getI gX10_hasNumber_30.2.2.2.2.2.2.2.1 (ff_10_20_1 hE) (by decide) ?_
            refine r_goto (t := 49) gX10_hasNumber_30.2.2.2.2.2.2.2.2.1 rfl ?_
            exact r_sub (L' := []) sub_n (rb_X10_hasNumber_49 hE q (q.1 1 2) a2)
        · refine r_iload_n (x := a2) gX10_hasNumber_0.2.2.2.2.2.2.2.2.2.2.2.2.1 rfl ?_
          refine r_if_ne (t := 30) gX10_hasNumber_0.2.2.2.2.2.2.2.2.2.2.2.2.2.1 rfl (fun h3 => ?_) (fun h3 => ?_)
          · refine r_iconst (v := (1 : Int32)) gX10_hasNumber_0.2.2.2.2.2.2.2.2.2.2.2.2.2.2.1 rfl ?_
            refine r_goto (t := 31) gX10_hasNumber_0.2.2.2.2.2.2.2.2.2.2.2.2.2.2.2.1 rfl ?_
            exact r_ireturn gX10_hasNumber_30.2.1 rfl rfl
          · refine r_iconst (v := (0 : Int32)) gX10_hasNumber_30.1 rfl ?_
            exact r_ireturn gX10_hasNumber_30.2.1 rfl rfl
      · refine r_iconst (v := (0 : Int32)) gX10_hasNumber_0.2.2.2.2.2.2.2.1 rfl ?_
        exact r_ireturn gX10_hasNumber_0.2.2.2.2.2.2.2.2.1 rfl rfl
def f_X10_set (q : SS) (a1 : Int32) (a2 : Int32) (a3 : Int32) : Option SS :=
  (f_X10_hasNumber q a1 a2).bind fun r1 =>
  if r1 = 0 then
  (some q)
  else
  (if vin a1 9 then
  if vin a2 12 then
  nm (sI q (3 + a1.toNatClampNeg) a2.toNatClampNeg a3) fun q3 =>
  some q3
  else none
  else none)
theorem e_X10_set {E : EE} (hE : GE E) (q : SS) (a1 : Int32) (a2 : Int32) (a3 : Int32) : R E (κV E) 1 135 0 [(0, .ref 1), (1, .int a1), (2, .int a2), (3, .int a3)] [] q (f_X10_set q a1 a2 a3) := by
  unfold f_X10_set
  refine r_aload_n (x := 1) gX10_set_0.1 rfl ?_
  refine r_iload_n (x := a1) gX10_set_0.2.1 rfl ?_
  refine r_iload_n (x := a2) gX10_set_0.2.2.1 rfl ?_
  refine r_calli (k := 0) (idx := 38) (y := 132) (as := [.ref 1, .int a1, .int a2]) (rest := []) (L0 := [(0, .ref 1), (1, .int a1), (2, .int a2)]) gX10_set_0.2.2.2.1 rfl rfl rfl rfl rfl (vok_v (ob_1 hE) rfl) rfl (r_dep (by decide) (e_X10_hasNumber hE q a1 a2)) (fun r1 => ?_)
  refine r_if_eq (t := 18) gX10_set_0.2.2.2.2.1 rfl (fun h4 => ?_) (fun h4 => ?_)
  · exact r_return gX10_set_0.2.2.2.2.2.2.2.2.2.2.2.2.1 rfl rfl
  · refine r_aload_n (x := 1) gX10_set_0.2.2.2.2.2.1 rfl ?_
    refine r_getA gX10_set_0.2.2.2.2.2.2.1 (fa_10_11_1 hE) ?_
    refine r_iload_n (x := a1) gX10_set_0.2.2.2.2.2.2.2.1 rfl ?_
    refine r_aaload gX10_set_0.2.2.2.2.2.2.2.2.1 (ar_2 hE) (by decide) (rv_2 hE) (fun h2 => ?_)
    refine r_iload_n (x := a2) gX10_set_0.2.2.2.2.2.2.2.2.2.1 rfl ?_
    refine r_iload_n (x := a3) gX10_set_0.2.2.2.2.2.2.2.2.2.2.1 rfl ?_
    refine r_iastore gX10_set_0.2.2.2.2.2.2.2.2.2.2.2.1 (aw_3 hE (vin_lt h2)) ?_
    refine r_nmS fun q3 _ => ?_
    exact r_return gX10_set_0.2.2.2.2.2.2.2.2.2.2.2.2.1 rfl rfl
def f_X0_redoNext (q : SS)  : Option SS :=
  if (q.1 52 6) ≤ 0 then
  (some q)
  else
  (if (40 : Int32) ≤ (q.1 52 5) then
  (some q)
  else
  (if vin (q.1 52 5) 40 then
  if vin (q.1 52 5) 40 then
  if vin (q.1 52 5) 40 then
  (f_X10_set q (q.1 53 (q.1 52 5).toNatClampNeg) (q.1 54 (q.1 52 5).toNatClampNeg) (q.1 56 (q.1 52 5).toNatClampNeg)).bind fun r1 =>
  nm (sI r1 52 5 ((r1.1 52 5) + (1 : Int32))) fun q2 =>
  nm (sI q2 52 6 ((q2.1 52 6) - (1 : Int32))) fun q3 =>
  some q3
  else none
  else none
  else none))
theorem e_X0_redoNext {E : EE} (hE : GE E) (q : SS)  : R E (κV E) 2 6 0 [(0, .ref 52)] [] q (f_X0_redoNext q) := by
  unfold f_X0_redoNext
  refine r_aload_n (x := 52) gX0_redoNext_0.1 rfl ?_
  refine r_getI gX0_redoNext_0.2.1 (ff_0_30_52 hE) (by decide) ?_
  refine r_if_le (t := 70) gX0_redoNext_0.2.2.1 rfl (fun h5 => ?_) (fun h5 => ?_)
  · exact r_return gX0_redoNext_61.2.2.2.2.2.1 rfl rfl
  · refine r_aload_n (x := 52) gX0_redoNext_0.2.2.2.1 rfl ?_
    refine r_getI gX0_redoNext_0.2.2.2.2.1 (ff_0_26_52 hE) (by decide) ?_
    refine r_bipush (v := (40 : Int32)) gX0_redoNext_0.2.2.2.2.2.1 rfl ?_
    refine r_icmp_ge (t := 70) gX0_redoNext_0.2.2.2.2.2.2.1 rfl (fun h4 => ?_) (fun h4 => ?_)
    · exact r_return gX0_redoNext_61.2.2.2.2.2.1 rfl rfl
    · refine r_aload_n (x := 52) gX0_redoNext_0.2.2.2.2.2.2.2.1 rfl ?_
      refine r_getA gX0_redoNext_0.2.2.2.2.2.2.2.2.1 (fa_0_7_52 hE) ?_
      refine r_aload_n (x := 52) gX0_redoNext_0.2.2.2.2.2.2.2.2.2.1 rfl ?_
      refine r_getA gX0_redoNext_0.2.2.2.2.2.2.2.2.2.2.1 (fa_0_13_52 hE) ?_
      refine r_aload_n (x := 52) gX0_redoNext_0.2.2.2.2.2.2.2.2.2.2.2.1 rfl ?_
      refine r_getI gX0_redoNext_0.2.2.2.2.2.2.2.2.2.2.2.2.1 (ff_0_26_52 hE) (by decide) ?_
      refine r_iaload gX0_redoNext_0.2.2.2.2.2.2.2.2.2.2.2.2.2.1 (ar_53 hE) ?_
      refine r_aload_n (x := 52) gX0_redoNext_0.2.2.2.2.2.2.2.2.2.2.2.2.2.2.1 rfl ?_
      refine r_getA gX0_redoNext_0.2.2.2.2.2.2.2.2.2.2.2.2.2.2.2.1 (fa_0_17_52 hE) ?_
      refine r_aload_n (x := 52) gX0_redoNext_33.1 rfl ?_
      refine r_getI gX0_redoNext_33.2.1 (ff_0_26_52 hE) (by decide) ?_
      refine r_iaload gX0_redoNext_33.2.2.1 (ar_54 hE) ?_
      refine r_aload_n (x := 52) gX0_redoNext_33.2.2.2.1 rfl ?_
      refine r_getA gX0_redoNext_33.2.2.2.2.1 (fa_0_23_52 hE) ?_
      refine r_aload_n (x := 52) gX0_redoNext_33.2.2.2.2.2.1 rfl ?_
      refine r_getI gX0_redoNext_33.2.2.2.2.2.2.1 (ff_0_26_52 hE) (by decide) ?_
      refine r_iaload gX0_redoNext_33.2.2.2.2.2.2.2.1 (ar_56 hE) ?_
      refine r_callV (k := 0) (idx := 42) (y := 135) (as := [.ref 1, .int (q.1 53 (q.1 52 5).toNatClampNeg), .int (q.1 54 (q.1 52 5).toNatClampNeg), .int (q.1 56 (q.1 52 5).toNatClampNeg)]) (rest := []) (L0 := [(0, .ref 1), (1, .int (q.1 53 (q.1 52 5).toNatClampNeg)), (2, .int (q.1 54 (q.1 52 5).toNatClampNeg)), (3, .int (q.1 56 (q.1 52 5).toNatClampNeg))]) gX0_redoNext_33.2.2.2.2.2.2.2.2.1 rfl rfl rfl rfl rfl (vok_v (ob_1 hE) rfl) rfl (r_dep (by decide) (e_X10_set hE q (q.1 53 (q.1 52 5).toNatClampNeg) (q.1 54 (q.1 52 5).toNatClampNeg) (q.1 56 (q.1 52 5).toNatClampNeg))) (fun r1 => ?_)
      refine r_aload_n (x := 52) gX0_redoNext_33.2.2.2.2.2.2.2.2.2.1 rfl ?_
      refine r_dup gX0_redoNext_33.2.2.2.2.2.2.2.2.2.2.1 rfl ?_
      refine r_getI gX0_redoNext_33.2.2.2.2.2.2.2.2.2.2.2.1 (ff_0_26_52 hE) (by decide) ?_
      refine r_iconst (v := (1 : Int32)) gX0_redoNext_33.2.2.2.2.2.2.2.2.2.2.2.2.1 rfl ?_
      refine r_iadd gX0_redoNext_33.2.2.2.2.2.2.2.2.2.2.2.2.2.1 ?_
      refine r_putI gX0_redoNext_33.2.2.2.2.2.2.2.2.2.2.2.2.2.2.1 (ff_0_26_52 hE) ?_
      refine r_nmS fun q2 _ => ?_
      refine r_aload_n (x := 52) gX0_redoNext_33.2.2.2.2.2.2.2.2.2.2.2.2.2.2.2.1 rfl ?_
      refine r_dup gX0_redoNext_61.1 rfl ?_
      refine r_getI gX0_redoNext_61.2.1 (ff_0_30_52 hE) (by decide) ?_
      refine r_iconst (v := (1 : Int32)) gX0_redoNext_61.2.2.1 rfl ?_
      refine r_isub gX0_redoNext_61.2.2.2.1 ?_
      refine r_putI gX0_redoNext_61.2.2.2.2.1 (ff_0_30_52 hE) ?_
      refine r_nmS fun q3 _ => ?_
      exact r_return gX0_redoNext_61.2.2.2.2.2.1 rfl rfl
def f_X11_redo (q : SS)  : Option (Int32 × SS) :=
  (f_X0_undone q).bind fun r1 =>
  if r1 = 0 then
  (some ((-5 : Int32), q))
  else
  ((f_X0_redoNext q).bind fun r2 =>
  (f_X0_undone r2).bind fun r3 =>
  some (r3, r2))
theorem e_X11_redo {E : EE} (hE : GE E) (q : SS)  : R E (κI E) 3 177 0 [(0, .ref 0)] [] q (f_X11_redo q) := by
  unfold f_X11_redo
  refine r_aload_n (x := 0) gX11_redo_0.1 rfl ?_
  refine r_getA gX11_redo_0.2.1 (fa_11_83_0 hE) ?_
  refine r_calli (k := 0) (idx := 330) (y := 2) (as := [.ref 52]) (rest := []) (L0 := [(0, .ref 52)]) gX11_redo_0.2.2.1 rfl rfl rfl rfl rfl (vok_v (ob_52 hE) rfl) rfl (r_dep (by decide) (e_X0_undone hE q)) (fun r1 => ?_)
  refine r_if_ne (t := 13) gX11_redo_0.2.2.2.1 rfl (fun h4 => ?_) (fun h4 => ?_)
  · refine r_bipush (v := (-5 : Int32)) gX11_redo_0.2.2.2.2.1 rfl ?_
    exact r_ireturn gX11_redo_0.2.2.2.2.2.1 rfl rfl
  · refine r_aload_n (x := 0) gX11_redo_0.2.2.2.2.2.2.1 rfl ?_
    refine r_getA gX11_redo_0.2.2.2.2.2.2.2.1 (fa_11_83_0 hE) ?_
    refine r_callV (k := 0) (idx := 333) (y := 6) (as := [.ref 52]) (rest := []) (L0 := [(0, .ref 52)]) gX11_redo_0.2.2.2.2.2.2.2.2.1 rfl rfl rfl rfl rfl (vok_v (ob_52 hE) rfl) rfl (r_dep (by decide) (e_X0_redoNext hE q)) (fun r2 => ?_)
    refine r_aload_n (x := 0) gX11_redo_0.2.2.2.2.2.2.2.2.2.1 rfl ?_
    refine r_getA gX11_redo_0.2.2.2.2.2.2.2.2.2.2.1 (fa_11_83_0 hE) ?_
    refine r_calli (k := 0) (idx := 330) (y := 2) (as := [.ref 52]) (rest := []) (L0 := [(0, .ref 52)]) gX11_redo_0.2.2.2.2.2.2.2.2.2.2.2.1 rfl rfl rfl rfl rfl (vok_v (ob_52 hE) rfl) rfl (r_dep (by decide) (e_X0_undone hE r2)) (fun r3 => ?_)
    exact r_ireturn gX11_redo_0.2.2.2.2.2.2.2.2.2.2.2.2.1 rfl rfl
def f_X12_lays (q : SS) (a1 : Int32) (a2 : Int32) (a3 : Int32) : Option SS :=
  sw a1 [(0, (if vin a2 6 then
  nm (sI q 61 a2.toNatClampNeg a3) fun q2 =>
  some q2
  else none)), (1, (if vin a2 6 then
  nm (sI q 62 a2.toNatClampNeg a3) fun q4 =>
  some q4
  else none)), (2, (if vin a2 6 then
  nm (sI q 63 a2.toNatClampNeg a3) fun q6 =>
  some q6
  else none)), (3, (if vin a2 6 then
  nm (sI q 64 a2.toNatClampNeg a3) fun q8 =>
  some q8
  else none)), (4, (if vin a2 12 then
  nm (sI q 65 a2.toNatClampNeg a3) fun q10 =>
  some q10
  else none)), (5, (if vin a2 12 then
  nm (sI q 66 a2.toNatClampNeg a3) fun q12 =>
  some q12
  else none)), (6, (if vin a2 12 then
  nm (sI q 67 a2.toNatClampNeg a3) fun q14 =>
  some q14
  else none))]
  (if vin (a1 - (7 : Int32)) 2 then
  nm (sI q 68 (a1 - (7 : Int32)).toNatClampNeg a3) fun q15 =>
  some q15
  else none)
theorem e_X12_lays {E : EE} (hE : GE E) (q : SS) (a1 : Int32) (a2 : Int32) (a3 : Int32) : R E (κV E) 0 199 0 [(0, .ref 60), (1, .int a1), (2, .int a2), (3, .int a3)] [] q (f_X12_lays q a1 a2 a3) := by
  unfold f_X12_lays
  refine r_iload_n (x := a1) gX12_lays_0.1 rfl ?_
  refine r_sw1 (fun h1 => ?_) (fun h1 => ?_)
  · refine r_jmp (t := 44) dX12_lays_1 rfl (by rw [h1]; rfl) ?_
    refine r_aload_n (x := 60) gX12_lays_44.1 rfl ?_
    refine r_getA gX12_lays_44.2.1 (fa_12_9_60 hE) ?_
    refine r_iload_n (x := a2) gX12_lays_44.2.2.1 rfl ?_
    refine r_iload_n (x := a3) gX12_lays_44.2.2.2.1 rfl ?_
    refine r_iastore gX12_lays_44.2.2.2.2.1 (ar_61 hE) ?_
    refine r_nmS fun q2 _ => ?_
    refine r_goto (t := 124) gX12_lays_44.2.2.2.2.2.1 rfl ?_
    exact r_return gX12_lays_123.2.1 rfl rfl
  refine r_sw1 (fun h3 => ?_) (fun h3 => ?_)
  · refine r_jmp (t := 54) dX12_lays_1 rfl (by rw [h3]; rfl) ?_
    refine r_aload_n (x := 60) gX12_lays_44.2.2.2.2.2.2.1 rfl ?_
    refine r_getA gX12_lays_44.2.2.2.2.2.2.2.1 (fa_12_15_60 hE) ?_
    refine r_iload_n (x := a2) gX12_lays_44.2.2.2.2.2.2.2.2.1 rfl ?_
    refine r_iload_n (x := a3) gX12_lays_44.2.2.2.2.2.2.2.2.2.1 rfl ?_
    refine r_iastore gX12_lays_44.2.2.2.2.2.2.2.2.2.2.1 (ar_62 hE) ?_
    refine r_nmS fun q4 _ => ?_
    refine r_goto (t := 124) gX12_lays_44.2.2.2.2.2.2.2.2.2.2.2.1 rfl ?_
    exact r_return gX12_lays_123.2.1 rfl rfl
  refine r_sw1 (fun h5 => ?_) (fun h5 => ?_)
  · refine r_jmp (t := 64) dX12_lays_1 rfl (by rw [h5]; rfl) ?_
    refine r_aload_n (x := 60) gX12_lays_44.2.2.2.2.2.2.2.2.2.2.2.2.1 rfl ?_
    refine r_getA gX12_lays_44.2.2.2.2.2.2.2.2.2.2.2.2.2.1 (fa_12_18_60 hE) ?_
    refine r_iload_n (x := a2) gX12_lays_44.2.2.2.2.2.2.2.2.2.2.2.2.2.2.1 rfl ?_
    refine r_iload_n (x := a3) gX12_lays_44.2.2.2.2.2.2.2.2.2.2.2.2.2.2.2.1 rfl ?_
    refine r_iastore gX12_lays_70.1 (ar_63 hE) ?_
    refine r_nmS fun q6 _ => ?_
    refine r_goto (t := 124) gX12_lays_70.2.1 rfl ?_
    exact r_return gX12_lays_123.2.1 rfl rfl
  refine r_sw1 (fun h7 => ?_) (fun h7 => ?_)
  · refine r_jmp (t := 74) dX12_lays_1 rfl (by rw [h7]; rfl) ?_
    refine r_aload_n (x := 60) gX12_lays_70.2.2.1 rfl ?_
    refine r_getA gX12_lays_70.2.2.2.1 (fa_12_21_60 hE) ?_
    refine r_iload_n (x := a2) gX12_lays_70.2.2.2.2.1 rfl ?_
    refine r_iload_n (x := a3) gX12_lays_70.2.2.2.2.2.1 rfl ?_
    refine r_iastore gX12_lays_70.2.2.2.2.2.2.1 (ar_64 hE) ?_
    refine r_nmS fun q8 _ => ?_
    refine r_goto (t := 124) gX12_lays_70.2.2.2.2.2.2.2.1 rfl ?_
    exact r_return gX12_lays_123.2.1 rfl rfl
  refine r_sw1 (fun h9 => ?_) (fun h9 => ?_)
  · refine r_jmp (t := 84) dX12_lays_1 rfl (by rw [h9]; rfl) ?_
    refine r_aload_n (x := 60) gX12_lays_70.2.2.2.2.2.2.2.2.1 rfl ?_
    refine r_getA gX12_lays_70.2.2.2.2.2.2.2.2.2.1 (fa_12_24_60 hE) ?_
    refine r_iload_n (x := a2) gX12_lays_70.2.2.2.2.2.2.2.2.2.2.1 rfl ?_
    refine r_iload_n (x := a3) gX12_lays_70.2.2.2.2.2.2.2.2.2.2.2.1 rfl ?_
    refine r_iastore gX12_lays_70.2.2.2.2.2.2.2.2.2.2.2.2.1 (ar_65 hE) ?_
    refine r_nmS fun q10 _ => ?_
    refine r_goto (t := 124) gX12_lays_70.2.2.2.2.2.2.2.2.2.2.2.2.2.1 rfl ?_
    exact r_return gX12_lays_123.2.1 rfl rfl
  refine r_sw1 (fun h11 => ?_) (fun h11 => ?_)
  · refine r_jmp (t := 94) dX12_lays_1 rfl (by rw [h11]; rfl) ?_
    refine r_aload_n (x := 60) gX12_lays_70.2.2.2.2.2.2.2.2.2.2.2.2.2.2.1 rfl ?_
    refine r_getA gX12_lays_70.2.2.2.2.2.2.2.2.2.2.2.2.2.2.2.1 (fa_12_27_60 hE) ?_
    refine r_iload_n (x := a2) gX12_lays_98.1 rfl ?_
    refine r_iload_n (x := a3) gX12_lays_98.2.1 rfl ?_
    refine r_iastore gX12_lays_98.2.2.1 (ar_66 hE) ?_
    refine r_nmS fun q12 _ => ?_
    refine r_goto (t := 124) gX12_lays_98.2.2.2.1 rfl ?_
    exact r_return gX12_lays_123.2.1 rfl rfl
  refine r_sw1 (fun h13 => ?_) (fun h13 => ?_)
  · refine r_jmp (t := 104) dX12_lays_1 rfl (by rw [h13]; rfl) ?_
    refine r_aload_n (x := 60) gX12_lays_98.2.2.2.2.1 rfl ?_
    refine r_getA gX12_lays_98.2.2.2.2.2.1 (fa_12_30_60 hE) ?_
    refine r_iload_n (x := a2) gX12_lays_98.2.2.2.2.2.2.1 rfl ?_
    refine r_iload_n (x := a3) gX12_lays_98.2.2.2.2.2.2.2.1 rfl ?_
    refine r_iastore gX12_lays_98.2.2.2.2.2.2.2.2.1 (ar_67 hE) ?_
    refine r_nmS fun q14 _ => ?_
    refine r_goto (t := 124) gX12_lays_98.2.2.2.2.2.2.2.2.2.1 rfl ?_
    exact r_return gX12_lays_123.2.1 rfl rfl
  refine r_jmp (t := 114) dX12_lays_1 rfl ?_ ?_
  · have h16 := sw_lo (v := a1.toInt) 0
    have h16 := sw_st h16 h1
    have h16 := sw_st h16 h3
    have h16 := sw_st h16 h5
    have h16 := sw_st h16 h7
    have h16 := sw_st h16 h9
    have h16 := sw_st h16 h11
    have h16 := sw_st h16 h13
    exact sw_df h16 (by decide) rfl
  refine r_aload_n (x := 60) gX12_lays_98.2.2.2.2.2.2.2.2.2.2.1 rfl ?_
  refine r_getA gX12_lays_98.2.2.2.2.2.2.2.2.2.2.2.1 (fa_12_33_60 hE) ?_
  refine r_iload_n (x := a1) gX12_lays_98.2.2.2.2.2.2.2.2.2.2.2.2.1 rfl ?_
  refine r_bipush (v := (7 : Int32)) gX12_lays_98.2.2.2.2.2.2.2.2.2.2.2.2.2.1 rfl ?_
  refine r_isub gX12_lays_98.2.2.2.2.2.2.2.2.2.2.2.2.2.2.1 ?_
  refine r_iload_n (x := a3) gX12_lays_98.2.2.2.2.2.2.2.2.2.2.2.2.2.2.2.1 rfl ?_
  refine r_iastore gX12_lays_123.1 (ar_68 hE) ?_
  refine r_nmS fun q15 _ => ?_
  exact r_return gX12_lays_123.2.1 rfl rfl
def f_X12_redo (q : SS)  : Option (Int32 × SS) :=
  if (q.1 60 12) = 0 then
  (some ((-5 : Int32), q))
  else
  (if vin (q.1 60 11) 40 then
  if vin (q.1 60 11) 40 then
  if vin (q.1 60 11) 40 then
  (f_X12_lays q (q.1 69 (q.1 60 11).toNatClampNeg) (q.1 70 (q.1 60 11).toNatClampNeg) (q.1 72 (q.1 60 11).toNatClampNeg)).bind fun r1 =>
  nm (sI r1 60 11 ((r1.1 60 11) + (1 : Int32))) fun q2 =>
  nm (sI q2 60 12 ((q2.1 60 12) - (1 : Int32))) fun q3 =>
  some ((q3.1 60 12), q3)
  else none
  else none
  else none)
theorem e_X12_redo {E : EE} (hE : GE E) (q : SS)  : R E (κI E) 1 202 0 [(0, .ref 60)] [] q (f_X12_redo q) := by
  unfold f_X12_redo
  refine r_aload_n (x := 60) gX12_redo_0.1 rfl ?_
  refine r_getI gX12_redo_0.2.1 (ff_12_146_60 hE) (by decide) ?_
  refine r_if_ne (t := 10) gX12_redo_0.2.2.1 rfl (fun h4 => ?_) (fun h4 => ?_)
  · refine r_bipush (v := (-5 : Int32)) gX12_redo_0.2.2.2.1 rfl ?_
    exact r_ireturn gX12_redo_0.2.2.2.2.1 rfl rfl
  · refine r_aload_n (x := 60) gX12_redo_0.2.2.2.2.2.1 rfl ?_
    refine r_aload_n (x := 60) gX12_redo_0.2.2.2.2.2.2.1 rfl ?_
    refine r_getA gX12_redo_0.2.2.2.2.2.2.2.1 (fa_12_36_60 hE) ?_
    refine r_aload_n (x := 60) gX12_redo_0.2.2.2.2.2.2.2.2.1 rfl ?_
    refine r_getI gX12_redo_0.2.2.2.2.2.2.2.2.2.1 (ff_12_149_60 hE) (by decide) ?_
    refine r_iaload gX12_redo_0.2.2.2.2.2.2.2.2.2.2.1 (ar_69 hE) ?_
    refine r_aload_n (x := 60) gX12_redo_0.2.2.2.2.2.2.2.2.2.2.2.1 rfl ?_
    refine r_getA gX12_redo_0.2.2.2.2.2.2.2.2.2.2.2.2.1 (fa_12_39_60 hE) ?_
    refine r_aload_n (x := 60) gX12_redo_0.2.2.2.2.2.2.2.2.2.2.2.2.2.1 rfl ?_
    refine r_getI gX12_redo_0.2.2.2.2.2.2.2.2.2.2.2.2.2.2.1 (ff_12_149_60 hE) (by decide) ?_
    refine r_iaload gX12_redo_0.2.2.2.2.2.2.2.2.2.2.2.2.2.2.2.1 (ar_70 hE) ?_
    refine r_aload_n (x := 60) gX12_redo_29.1 rfl ?_
    refine r_getA gX12_redo_29.2.1 (fa_12_45_60 hE) ?_
    refine r_aload_n (x := 60) gX12_redo_29.2.2.1 rfl ?_
    refine r_getI gX12_redo_29.2.2.2.1 (ff_12_149_60 hE) (by decide) ?_
    refine r_iaload gX12_redo_29.2.2.2.2.1 (ar_72 hE) ?_
    refine r_callV (k := 0) (idx := 152) (y := 199) (as := [.ref 60, .int (q.1 69 (q.1 60 11).toNatClampNeg), .int (q.1 70 (q.1 60 11).toNatClampNeg), .int (q.1 72 (q.1 60 11).toNatClampNeg)]) (rest := []) (L0 := [(0, .ref 60), (1, .int (q.1 69 (q.1 60 11).toNatClampNeg)), (2, .int (q.1 70 (q.1 60 11).toNatClampNeg)), (3, .int (q.1 72 (q.1 60 11).toNatClampNeg))]) gX12_redo_29.2.2.2.2.2.1 rfl rfl rfl rfl rfl (vok_v (ob_60 hE) rfl) rfl (r_dep (by decide) (e_X12_lays hE q (q.1 69 (q.1 60 11).toNatClampNeg) (q.1 70 (q.1 60 11).toNatClampNeg) (q.1 72 (q.1 60 11).toNatClampNeg))) (fun r1 => ?_)
    refine r_aload_n (x := 60) gX12_redo_29.2.2.2.2.2.2.1 rfl ?_
    refine r_dup gX12_redo_29.2.2.2.2.2.2.2.1 rfl ?_
    refine r_getI gX12_redo_29.2.2.2.2.2.2.2.2.1 (ff_12_149_60 hE) (by decide) ?_
    refine r_iconst (v := (1 : Int32)) gX12_redo_29.2.2.2.2.2.2.2.2.2.1 rfl ?_
    refine r_iadd gX12_redo_29.2.2.2.2.2.2.2.2.2.2.1 ?_
    refine r_putI gX12_redo_29.2.2.2.2.2.2.2.2.2.2.2.1 (ff_12_149_60 hE) ?_
    refine r_nmS fun q2 _ => ?_
    refine r_aload_n (x := 60) gX12_redo_29.2.2.2.2.2.2.2.2.2.2.2.2.1 rfl ?_
    refine r_dup gX12_redo_29.2.2.2.2.2.2.2.2.2.2.2.2.2.1 rfl ?_
    refine r_getI gX12_redo_29.2.2.2.2.2.2.2.2.2.2.2.2.2.2.1 (ff_12_146_60 hE) (by decide) ?_
    refine r_iconst (v := (1 : Int32)) gX12_redo_29.2.2.2.2.2.2.2.2.2.2.2.2.2.2.2.1 rfl ?_
    refine r_isub gX12_redo_57.1 ?_
    refine r_putI gX12_redo_57.2.1 (ff_12_146_60 hE) ?_
    refine r_nmS fun q3 _ => ?_
    refine r_aload_n (x := 60) gX12_redo_57.2.2.1 rfl ?_
    refine r_getI gX12_redo_57.2.2.2.1 (ff_12_146_60 hE) (by decide) ?_
    exact r_ireturn gX12_redo_57.2.2.2.2.1 rfl rfl
def f_X0_undoLatest (q : SS)  : Option SS :=
  if (q.1 52 5) ≤ 0 then
  (some q)
  else
  (nm (sI q 52 5 ((q.1 52 5) - (1 : Int32))) fun q1 =>
  nm (sI q1 52 6 ((q1.1 52 6) + (1 : Int32))) fun q2 =>
  if vin (q2.1 52 5) 40 then
  if vin (q2.1 52 5) 40 then
  if vin (q2.1 52 5) 40 then
  (f_X10_set q2 (q2.1 53 (q2.1 52 5).toNatClampNeg) (q2.1 54 (q2.1 52 5).toNatClampNeg) (q2.1 55 (q2.1 52 5).toNatClampNeg)).bind fun r3 =>
  some r3
  else none
  else none
  else none)
theorem e_X0_undoLatest {E : EE} (hE : GE E) (q : SS)  : R E (κV E) 2 5 0 [(0, .ref 52)] [] q (f_X0_undoLatest q) := by
  unfold f_X0_undoLatest
  refine r_aload_n (x := 52) gX0_undoLatest_0.1 rfl ?_
  refine r_getI gX0_undoLatest_0.2.1 (ff_0_26_52 hE) (by decide) ?_
  refine r_if_le (t := 61) gX0_undoLatest_0.2.2.1 rfl (fun h4 => ?_) (fun h4 => ?_)
  · exact r_return gX0_undoLatest_58.2.1 rfl rfl
  · refine r_aload_n (x := 52) gX0_undoLatest_0.2.2.2.1 rfl ?_
    refine r_dup gX0_undoLatest_0.2.2.2.2.1 rfl ?_
    refine r_getI gX0_undoLatest_0.2.2.2.2.2.1 (ff_0_26_52 hE) (by decide) ?_
    refine r_iconst (v := (1 : Int32)) gX0_undoLatest_0.2.2.2.2.2.2.1 rfl ?_
    refine r_isub gX0_undoLatest_0.2.2.2.2.2.2.2.1 ?_
    refine r_putI gX0_undoLatest_0.2.2.2.2.2.2.2.2.1 (ff_0_26_52 hE) ?_
    refine r_nmS fun q1 _ => ?_
    refine r_aload_n (x := 52) gX0_undoLatest_0.2.2.2.2.2.2.2.2.2.1 rfl ?_
    refine r_dup gX0_undoLatest_0.2.2.2.2.2.2.2.2.2.2.1 rfl ?_
    refine r_getI gX0_undoLatest_0.2.2.2.2.2.2.2.2.2.2.2.1 (ff_0_30_52 hE) (by decide) ?_
    refine r_iconst (v := (1 : Int32)) gX0_undoLatest_0.2.2.2.2.2.2.2.2.2.2.2.2.1 rfl ?_
    refine r_iadd gX0_undoLatest_0.2.2.2.2.2.2.2.2.2.2.2.2.2.1 ?_
    refine r_putI gX0_undoLatest_0.2.2.2.2.2.2.2.2.2.2.2.2.2.2.1 (ff_0_30_52 hE) ?_
    refine r_nmS fun q2 _ => ?_
    refine r_aload_n (x := 52) gX0_undoLatest_0.2.2.2.2.2.2.2.2.2.2.2.2.2.2.2.1 rfl ?_
    refine r_getA gX0_undoLatest_28.1 (fa_0_7_52 hE) ?_
    refine r_aload_n (x := 52) gX0_undoLatest_28.2.1 rfl ?_
    refine r_getA gX0_undoLatest_28.2.2.1 (fa_0_13_52 hE) ?_
    refine r_aload_n (x := 52) gX0_undoLatest_28.2.2.2.1 rfl ?_
    refine r_getI gX0_undoLatest_28.2.2.2.2.1 (ff_0_26_52 hE) (by decide) ?_
    refine r_iaload gX0_undoLatest_28.2.2.2.2.2.1 (ar_53 hE) ?_
    refine r_aload_n (x := 52) gX0_undoLatest_28.2.2.2.2.2.2.1 rfl ?_
    refine r_getA gX0_undoLatest_28.2.2.2.2.2.2.2.1 (fa_0_17_52 hE) ?_
    refine r_aload_n (x := 52) gX0_undoLatest_28.2.2.2.2.2.2.2.2.1 rfl ?_
    refine r_getI gX0_undoLatest_28.2.2.2.2.2.2.2.2.2.1 (ff_0_26_52 hE) (by decide) ?_
    refine r_iaload gX0_undoLatest_28.2.2.2.2.2.2.2.2.2.2.1 (ar_54 hE) ?_
    refine r_aload_n (x := 52) gX0_undoLatest_28.2.2.2.2.2.2.2.2.2.2.2.1 rfl ?_
    refine r_getA gX0_undoLatest_28.2.2.2.2.2.2.2.2.2.2.2.2.1 (fa_0_20_52 hE) ?_
    refine r_aload_n (x := 52) gX0_undoLatest_28.2.2.2.2.2.2.2.2.2.2.2.2.2.1 rfl ?_
    refine r_getI gX0_undoLatest_28.2.2.2.2.2.2.2.2.2.2.2.2.2.2.1 (ff_0_26_52 hE) (by decide) ?_
    refine r_iaload gX0_undoLatest_28.2.2.2.2.2.2.2.2.2.2.2.2.2.2.2.1 (ar_55 hE) ?_
    refine r_callV (k := 0) (idx := 42) (y := 135) (as := [.ref 1, .int (q2.1 53 (q2.1 52 5).toNatClampNeg), .int (q2.1 54 (q2.1 52 5).toNatClampNeg), .int (q2.1 55 (q2.1 52 5).toNatClampNeg)]) (rest := []) (L0 := [(0, .ref 1), (1, .int (q2.1 53 (q2.1 52 5).toNatClampNeg)), (2, .int (q2.1 54 (q2.1 52 5).toNatClampNeg)), (3, .int (q2.1 55 (q2.1 52 5).toNatClampNeg))]) gX0_undoLatest_58.1 rfl rfl rfl rfl rfl (vok_v (ob_1 hE) rfl) rfl (r_dep (by decide) (e_X10_set hE q2 (q2.1 53 (q2.1 52 5).toNatClampNeg) (q2.1 54 (q2.1 52 5).toNatClampNeg) (q2.1 55 (q2.1 52 5).toNatClampNeg))) (fun r3 => ?_)
    exact r_return gX0_undoLatest_58.2.1 rfl rfl
def f_X11_undo (q : SS)  : Option (Int32 × SS) :=
  (f_X0_done q).bind fun r1 =>
  if r1 = 0 then
  (some ((-5 : Int32), q))
  else
  ((f_X0_undoLatest q).bind fun r2 =>
  (f_X0_done r2).bind fun r3 =>
  some (r3, r2))
theorem e_X11_undo {E : EE} (hE : GE E) (q : SS)  : R E (κI E) 3 176 0 [(0, .ref 0)] [] q (f_X11_undo q) := by
  unfold f_X11_undo
  refine r_aload_n (x := 0) gX11_undo_0.1 rfl ?_
  refine r_getA gX11_undo_0.2.1 (fa_11_83_0 hE) ?_
  refine r_calli (k := 0) (idx := 324) (y := 1) (as := [.ref 52]) (rest := []) (L0 := [(0, .ref 52)]) gX11_undo_0.2.2.1 rfl rfl rfl rfl rfl (vok_v (ob_52 hE) rfl) rfl (r_dep (by decide) (e_X0_done hE q)) (fun r1 => ?_)
  refine r_if_ne (t := 13) gX11_undo_0.2.2.2.1 rfl (fun h4 => ?_) (fun h4 => ?_)
  · refine r_bipush (v := (-5 : Int32)) gX11_undo_0.2.2.2.2.1 rfl ?_
    exact r_ireturn gX11_undo_0.2.2.2.2.2.1 rfl rfl
  · refine r_aload_n (x := 0) gX11_undo_0.2.2.2.2.2.2.1 rfl ?_
    refine r_getA gX11_undo_0.2.2.2.2.2.2.2.1 (fa_11_83_0 hE) ?_
    refine r_callV (k := 0) (idx := 327) (y := 5) (as := [.ref 52]) (rest := []) (L0 := [(0, .ref 52)]) gX11_undo_0.2.2.2.2.2.2.2.2.1 rfl rfl rfl rfl rfl (vok_v (ob_52 hE) rfl) rfl (r_dep (by decide) (e_X0_undoLatest hE q)) (fun r2 => ?_)
    refine r_aload_n (x := 0) gX11_undo_0.2.2.2.2.2.2.2.2.2.1 rfl ?_
    refine r_getA gX11_undo_0.2.2.2.2.2.2.2.2.2.2.1 (fa_11_83_0 hE) ?_
    refine r_calli (k := 0) (idx := 324) (y := 1) (as := [.ref 52]) (rest := []) (L0 := [(0, .ref 52)]) gX11_undo_0.2.2.2.2.2.2.2.2.2.2.2.1 rfl rfl rfl rfl rfl (vok_v (ob_52 hE) rfl) rfl (r_dep (by decide) (e_X0_done hE r2)) (fun r3 => ?_)
    exact r_ireturn gX11_undo_0.2.2.2.2.2.2.2.2.2.2.2.2.1 rfl rfl
def f_X12_undo (q : SS)  : Option (Int32 × SS) :=
  if (q.1 60 11) = 0 then
  (some ((-5 : Int32), q))
  else
  (nm (sI q 60 11 ((q.1 60 11) - (1 : Int32))) fun q1 =>
  nm (sI q1 60 12 ((q1.1 60 12) + (1 : Int32))) fun q2 =>
  if vin (q2.1 60 11) 40 then
  if vin (q2.1 60 11) 40 then
  if vin (q2.1 60 11) 40 then
  (f_X12_lays q2 (q2.1 69 (q2.1 60 11).toNatClampNeg) (q2.1 70 (q2.1 60 11).toNatClampNeg) (q2.1 71 (q2.1 60 11).toNatClampNeg)).bind fun r3 =>
  some ((r3.1 60 11), r3)
  else none
  else none
  else none)
theorem e_X12_undo {E : EE} (hE : GE E) (q : SS)  : R E (κI E) 1 201 0 [(0, .ref 60)] [] q (f_X12_undo q) := by
  unfold f_X12_undo
  refine r_aload_n (x := 60) gX12_undo_0.1 rfl ?_
  refine r_getI gX12_undo_0.2.1 (ff_12_149_60 hE) (by decide) ?_
  refine r_if_ne (t := 10) gX12_undo_0.2.2.1 rfl (fun h4 => ?_) (fun h4 => ?_)
  · refine r_bipush (v := (-5 : Int32)) gX12_undo_0.2.2.2.1 rfl ?_
    exact r_ireturn gX12_undo_0.2.2.2.2.1 rfl rfl
  · refine r_aload_n (x := 60) gX12_undo_0.2.2.2.2.2.1 rfl ?_
    refine r_dup gX12_undo_0.2.2.2.2.2.2.1 rfl ?_
    refine r_getI gX12_undo_0.2.2.2.2.2.2.2.1 (ff_12_149_60 hE) (by decide) ?_
    refine r_iconst (v := (1 : Int32)) gX12_undo_0.2.2.2.2.2.2.2.2.1 rfl ?_
    refine r_isub gX12_undo_0.2.2.2.2.2.2.2.2.2.1 ?_
    refine r_putI gX12_undo_0.2.2.2.2.2.2.2.2.2.2.1 (ff_12_149_60 hE) ?_
    refine r_nmS fun q1 _ => ?_
    refine r_aload_n (x := 60) gX12_undo_0.2.2.2.2.2.2.2.2.2.2.2.1 rfl ?_
    refine r_dup gX12_undo_0.2.2.2.2.2.2.2.2.2.2.2.2.1 rfl ?_
    refine r_getI gX12_undo_0.2.2.2.2.2.2.2.2.2.2.2.2.2.1 (ff_12_146_60 hE) (by decide) ?_
    refine r_iconst (v := (1 : Int32)) gX12_undo_0.2.2.2.2.2.2.2.2.2.2.2.2.2.2.1 rfl ?_
    refine r_iadd gX12_undo_0.2.2.2.2.2.2.2.2.2.2.2.2.2.2.2.1 ?_
    refine r_putI gX12_undo_27.1 (ff_12_146_60 hE) ?_
    refine r_nmS fun q2 _ => ?_
    refine r_aload_n (x := 60) gX12_undo_27.2.1 rfl ?_
    refine r_aload_n (x := 60) gX12_undo_27.2.2.1 rfl ?_
    refine r_getA gX12_undo_27.2.2.2.1 (fa_12_36_60 hE) ?_
    refine r_aload_n (x := 60) gX12_undo_27.2.2.2.2.1 rfl ?_
    refine r_getI gX12_undo_27.2.2.2.2.2.1 (ff_12_149_60 hE) (by decide) ?_
    refine r_iaload gX12_undo_27.2.2.2.2.2.2.1 (ar_69 hE) ?_
    refine r_aload_n (x := 60) gX12_undo_27.2.2.2.2.2.2.2.1 rfl ?_
    refine r_getA gX12_undo_27.2.2.2.2.2.2.2.2.1 (fa_12_39_60 hE) ?_
    refine r_aload_n (x := 60) gX12_undo_27.2.2.2.2.2.2.2.2.2.1 rfl ?_
    refine r_getI gX12_undo_27.2.2.2.2.2.2.2.2.2.2.1 (ff_12_149_60 hE) (by decide) ?_
    refine r_iaload gX12_undo_27.2.2.2.2.2.2.2.2.2.2.2.1 (ar_70 hE) ?_
    refine r_aload_n (x := 60) gX12_undo_27.2.2.2.2.2.2.2.2.2.2.2.2.1 rfl ?_
    refine r_getA gX12_undo_27.2.2.2.2.2.2.2.2.2.2.2.2.2.1 (fa_12_42_60 hE) ?_
    refine r_aload_n (x := 60) gX12_undo_27.2.2.2.2.2.2.2.2.2.2.2.2.2.2.1 rfl ?_
    refine r_getI gX12_undo_27.2.2.2.2.2.2.2.2.2.2.2.2.2.2.2.1 (ff_12_149_60 hE) (by decide) ?_
    refine r_iaload gX12_undo_57.1 (ar_71 hE) ?_
    refine r_callV (k := 0) (idx := 152) (y := 199) (as := [.ref 60, .int (q2.1 69 (q2.1 60 11).toNatClampNeg), .int (q2.1 70 (q2.1 60 11).toNatClampNeg), .int (q2.1 71 (q2.1 60 11).toNatClampNeg)]) (rest := []) (L0 := [(0, .ref 60), (1, .int (q2.1 69 (q2.1 60 11).toNatClampNeg)), (2, .int (q2.1 70 (q2.1 60 11).toNatClampNeg)), (3, .int (q2.1 71 (q2.1 60 11).toNatClampNeg))]) gX12_undo_57.2.1 rfl rfl rfl rfl rfl (vok_v (ob_60 hE) rfl) rfl (r_dep (by decide) (e_X12_lays hE q2 (q2.1 69 (q2.1 60 11).toNatClampNeg) (q2.1 70 (q2.1 60 11).toNatClampNeg) (q2.1 71 (q2.1 60 11).toNatClampNeg))) (fun r3 => ?_)
    refine r_aload_n (x := 60) gX12_undo_57.2.2.1 rfl ?_
    refine r_getI gX12_undo_57.2.2.2.1 (ff_12_149_60 hE) (by decide) ?_
    exact r_ireturn gX12_undo_57.2.2.2.2.1 rfl rfl
def f_X1_hasImage (q : SS)  : Option Int32 :=
  if (q.1 47 7) = 0 ∨ (q.1 47 7) = 1 then some (q.1 47 7) else none
theorem e_X1_hasImage {E : EE} (hE : GE E) (q : SS)  : R E (κi E q) 0 10 0 [(0, .ref 47)] [] q (f_X1_hasImage q) := by
  unfold f_X1_hasImage
  refine r_aload_n (x := 47) gX1_hasImage_0.1 rfl ?_
  refine r_getI gX1_hasImage_0.2.1 (ff_1_28_47 hE) (by decide) ?_
  exact r_zreturn gX1_hasImage_0.2.2.1 rfl rfl
def b_X1_layBack_30 : SS → Int32 → Option SS :=
  fx2 (fun (rec_30 : SS → Int32 → Option SS) (q : SS) (l1 : Int32) =>
  if (q.1 47 5) ≤ l1 then
  (some q)
  else
  (if (12 : Int32) ≤ l1 then
  (some q)
  else
  (if vin l1 12 then
  (f_X10_set q (4 : Int32) l1 (q.1 50 l1.toNatClampNeg)).bind fun r3 =>
  if vin l1 12 then
  (f_X10_set r3 (6 : Int32) l1 (r3.1 51 l1.toNatClampNeg)).bind fun r4 =>
  rec_30 r4 (l1 + (1 : Int32))
  else none
  else none))) FU
theorem rb_X1_layBack_30 {E : EE} (hE : GE E) (q : SS) (l1 : Int32) : R E (κV E) 2 12 30 [(0, .ref 47), (1, .int l1)] [] q (b_X1_layBack_30 q l1) := by
  unfold b_X1_layBack_30
  refine fx2_ok (P := fun q l1 o => R E (κV E) 2 12 30 [(0, .ref 47), (1, .int l1)] [] q o) (fun _ _ => r_no) (fun rec_30 hrec_30 q l1 => ?_) _ _ _
  refine r_iload_n (x := l1) gX1_layBack_29.2.1 rfl ?_
  refine r_aload_n (x := 47) gX1_layBack_29.2.2.1 rfl ?_
  refine r_getI gX1_layBack_29.2.2.2.1 (ff_1_38_47 hE) (by decide) ?_
  refine r_icmp_ge (t := 81) gX1_layBack_29.2.2.2.2.1 rfl (fun h6 => ?_) (fun h6 => ?_)
  · exact r_return gX1_layBack_56.2.2.2.2.2.2.2.2.2.2.2.2.1 rfl rfl
  · refine r_iload_n (x := l1) gX1_layBack_29.2.2.2.2.2.1 rfl ?_
    refine r_bipush (v := (12 : Int32)) gX1_layBack_29.2.2.2.2.2.2.1 rfl ?_
    refine r_icmp_ge (t := 81) gX1_layBack_29.2.2.2.2.2.2.2.1 rfl (fun h5 => ?_) (fun h5 => ?_)
    · exact r_return gX1_layBack_56.2.2.2.2.2.2.2.2.2.2.2.2.1 rfl rfl
    · refine r_aload_n (x := 47) gX1_layBack_29.2.2.2.2.2.2.2.2.1 rfl ?_
      refine r_getA gX1_layBack_29.2.2.2.2.2.2.2.2.2.1 (fa_1_9_47 hE) ?_
      refine r_iconst (v := (4 : Int32)) gX1_layBack_29.2.2.2.2.2.2.2.2.2.2.1 rfl ?_
      refine r_iload_n (x := l1) gX1_layBack_29.2.2.2.2.2.2.2.2.2.2.2.1 rfl ?_
      refine r_aload_n (x := 47) gX1_layBack_29.2.2.2.2.2.2.2.2.2.2.2.2.1 rfl ?_
      refine r_getA gX1_layBack_29.2.2.2.2.2.2.2.2.2.2.2.2.2.1 (fa_1_22_47 hE) ?_
      refine r_iload_n (x := l1) gX1_layBack_29.2.2.2.2.2.2.2.2.2.2.2.2.2.2.1 rfl ?_
      refine r_iaload gX1_layBack_29.2.2.2.2.2.2.2.2.2.2.2.2.2.2.2.1 (ar_50 hE) ?_
      refine r_callV (k := 0) (idx := 58) (y := 135) (as := [.ref 1, .int (4 : Int32), .int l1, .int (q.1 50 l1.toNatClampNeg)]) (rest := []) (L0 := [(0, .ref 1), (1, .int (4 : Int32)), (2, .int l1), (3, .int (q.1 50 l1.toNatClampNeg))]) gX1_layBack_56.1 rfl rfl rfl rfl rfl (vok_v (ob_1 hE) rfl) rfl (r_dep (by decide) (e_X10_set hE q (4 : Int32) l1 (q.1 50 l1.toNatClampNeg))) (fun r3 => ?_)
      refine r_aload_n (x := 47) gX1_layBack_56.2.1 rfl ?_
      refine r_getA gX1_layBack_56.2.2.1 (fa_1_9_47 hE) ?_
      refine r_bipush (v := (6 : Int32)) gX1_layBack_56.2.2.2.1 rfl ?_
      refine r_iload_n (x := l1) gX1_layBack_56.2.2.2.2.1 rfl ?_
      refine r_aload_n (x := 47) gX1_layBack_56.2.2.2.2.2.1 rfl ?_
      refine r_getA gX1_layBack_56.2.2.2.2.2.2.1 (fa_1_25_47 hE) ?_
      refine r_iload_n (x := l1) gX1_layBack_56.2.2.2.2.2.2.2.1 rfl ?_
      refine r_iaload gX1_layBack_56.2.2.2.2.2.2.2.2.1 (ar_51 hE) ?_
      refine r_callV (k := 0) (idx := 58) (y := 135) (as := [.ref 1, .int (6 : Int32), .int l1, .int (r3.1 51 l1.toNatClampNeg)]) (rest := []) (L0 := [(0, .ref 1), (1, .int (6 : Int32)), (2, .int l1), (3, .int (r3.1 51 l1.toNatClampNeg))]) gX1_layBack_56.2.2.2.2.2.2.2.2.2.1 rfl rfl rfl rfl rfl (vok_v (ob_1 hE) rfl) rfl (r_dep (by decide) (e_X10_set hE r3 (6 : Int32) l1 (r3.1 51 l1.toNatClampNeg))) (fun r4 => ?_)
      refine r_iinc (x := l1) (v := (l1 + (1 : Int32))) (L2 := [(0, .ref 47), (1, .int (l1 + (1 : Int32)))]) gX1_layBack_56.2.2.2.2.2.2.2.2.2.2.1 rfl rfl rfl rfl ?_
      refine r_goto (t := 30) gX1_layBack_56.2.2.2.2.2.2.2.2.2.2.2.1 rfl ?_
      exact r_sub (L' := [(0, .ref 47), (1, .int (l1 + (1 : Int32)))]) (sub_c rfl (sub_c rfl sub_n)) (hrec_30 r4 (l1 + (1 : Int32)))
def f_X1_layBack (q : SS)  : Option SS :=
  (f_X10_set q (7 : Int32) (0 : Int32) (q.1 47 6)).bind fun r1 =>
  if cpok 4 4 (0 : Int32) (0 : Int32) (4 : Int32) then
  nm (sR r1 48 (va_cpy (r1.1 49) (r1.1 48) (0 : Int32).toNatClampNeg (0 : Int32).toNatClampNeg (4 : Int32).toNatClampNeg)) fun q2 =>
  b_X1_layBack_30 q2 (0 : Int32)
  else none
theorem e_X1_layBack {E : EE} (hE : GE E) (q : SS)  : R E (κV E) 2 12 0 [(0, .ref 47)] [] q (f_X1_layBack q) := by
  unfold f_X1_layBack
  refine r_aload_n (x := 47) gX1_layBack_0.1 rfl ?_
  refine r_getA gX1_layBack_0.2.1 (fa_1_9_47 hE) ?_
  refine r_bipush (v := (7 : Int32)) gX1_layBack_0.2.2.1 rfl ?_
  refine r_iconst (v := (0 : Int32)) gX1_layBack_0.2.2.2.1 rfl ?_
  refine r_aload_n (x := 47) gX1_layBack_0.2.2.2.2.1 rfl ?_
  refine r_getI gX1_layBack_0.2.2.2.2.2.1 (ff_1_45_47 hE) (by decide) ?_
  refine r_callV (k := 0) (idx := 58) (y := 135) (as := [.ref 1, .int (7 : Int32), .int (0 : Int32), .int (q.1 47 6)]) (rest := []) (L0 := [(0, .ref 1), (1, .int (7 : Int32)), (2, .int (0 : Int32)), (3, .int (q.1 47 6))]) gX1_layBack_0.2.2.2.2.2.2.1 rfl rfl rfl rfl rfl (vok_v (ob_1 hE) rfl) rfl (r_dep (by decide) (e_X10_set hE q (7 : Int32) (0 : Int32) (q.1 47 6))) (fun r1 => ?_)
  refine r_aload_n (x := 47) gX1_layBack_0.2.2.2.2.2.2.2.1 rfl ?_
  refine r_getA gX1_layBack_0.2.2.2.2.2.2.2.2.1 (fa_1_19_47 hE) ?_
  refine r_iconst (v := (0 : Int32)) gX1_layBack_0.2.2.2.2.2.2.2.2.2.1 rfl ?_
  refine r_aload_n (x := 47) gX1_layBack_0.2.2.2.2.2.2.2.2.2.2.1 rfl ?_
  refine r_getA gX1_layBack_0.2.2.2.2.2.2.2.2.2.2.2.1 (fa_1_15_47 hE) ?_
  refine r_iconst (v := (0 : Int32)) gX1_layBack_0.2.2.2.2.2.2.2.2.2.2.2.2.1 rfl ?_
  refine r_iconst (v := (4 : Int32)) gX1_layBack_0.2.2.2.2.2.2.2.2.2.2.2.2.2.1 rfl ?_
  refine r_cpyI gX1_layBack_0.2.2.2.2.2.2.2.2.2.2.2.2.2.2.1 ⟨rfl, rfl, rfl⟩ (ar_49 hE) (ar_48 hE) rfl ?_
  refine r_nmS fun q2 _ => ?_
  refine r_iconst (v := (0 : Int32)) gX1_layBack_0.2.2.2.2.2.2.2.2.2.2.2.2.2.2.2.1 rfl ?_
  refine r_istore_n (L2 := [(0, .ref 47), (1, .int (0 : Int32))]) gX1_layBack_29.1 rfl rfl ?_
  exact r_sub (L' := [(0, .ref 47), (1, .int (0 : Int32))]) (sub_c rfl (sub_c rfl sub_n)) (rb_X1_layBack_30 hE q2 (0 : Int32))
def f_X1_noted (q : SS) (a1 : Int32) : Option Int32 :=
  if a1 < 0 then
  (some (0 : Int32))
  else
  (if (4 : Int32) ≤ a1 then
  (some (0 : Int32))
  else
  (if vin a1 4 then
  some (q.1 48 a1.toNatClampNeg)
  else none))
theorem e_X1_noted {E : EE} (hE : GE E) (q : SS) (a1 : Int32) : R E (κi E q) 0 9 0 [(0, .ref 47), (1, .int a1)] [] q (f_X1_noted q a1) := by
  unfold f_X1_noted
  refine r_iload_n (x := a1) gX1_noted_0.1 rfl ?_
  refine r_if_lt (t := 18) gX1_noted_0.2.1 rfl (fun h2 => ?_) (fun h2 => ?_)
  · refine r_iconst (v := (0 : Int32)) gX1_noted_0.2.2.2.2.2.2.2.2.2.2.1 rfl ?_
    exact r_ireturn gX1_noted_0.2.2.2.2.2.2.2.2.2.2.2.1 rfl rfl
  · refine r_iload_n (x := a1) gX1_noted_0.2.2.1 rfl ?_
    refine r_iconst (v := (4 : Int32)) gX1_noted_0.2.2.2.1 rfl ?_
    refine r_icmp_ge (t := 18) gX1_noted_0.2.2.2.2.1 rfl (fun h1 => ?_) (fun h1 => ?_)
    · refine r_iconst (v := (0 : Int32)) gX1_noted_0.2.2.2.2.2.2.2.2.2.2.1 rfl ?_
      exact r_ireturn gX1_noted_0.2.2.2.2.2.2.2.2.2.2.2.1 rfl rfl
    · refine r_aload_n (x := 47) gX1_noted_0.2.2.2.2.2.1 rfl ?_
      refine r_getA gX1_noted_0.2.2.2.2.2.2.1 (fa_1_15_47 hE) ?_
      refine r_iload_n (x := a1) gX1_noted_0.2.2.2.2.2.2.2.1 rfl ?_
      refine r_iaload gX1_noted_0.2.2.2.2.2.2.2.2.1 (ar_48 hE) ?_
      refine r_goto (t := 19) gX1_noted_0.2.2.2.2.2.2.2.2.2.1 rfl ?_
      exact r_ireturn gX1_noted_0.2.2.2.2.2.2.2.2.2.2.2.1 rfl rfl
def f_X11_back (q : SS)  : Option (Int32 × SS) :=
  (f_X1_hasImage q).bind fun r1 =>
  if r1 = 0 then
  (some ((-5 : Int32), q))
  else
  ((f_X1_layBack q).bind fun r2 =>
  (f_X1_noted r2 (0 : Int32)).bind fun r3 =>
  some (r3, r2))
theorem e_X11_back {E : EE} (hE : GE E) (q : SS)  : R E (κI E) 3 175 0 [(0, .ref 0)] [] q (f_X11_back q) := by
  unfold f_X11_back
  refine r_aload_n (x := 0) gX11_back_0.1 rfl ?_
  refine r_getA gX11_back_0.2.1 (fa_11_76_0 hE) ?_
  refine r_calli (k := 0) (idx := 317) (y := 10) (as := [.ref 47]) (rest := []) (L0 := [(0, .ref 47)]) gX11_back_0.2.2.1 rfl rfl rfl rfl rfl (vok_v (ob_47 hE) rfl) rfl (r_dep (by decide) (e_X1_hasImage hE q)) (fun r1 => ?_)
  refine r_if_ne (t := 13) gX11_back_0.2.2.2.1 rfl (fun h4 => ?_) (fun h4 => ?_)
  · refine r_bipush (v := (-5 : Int32)) gX11_back_0.2.2.2.2.1 rfl ?_
    exact r_ireturn gX11_back_0.2.2.2.2.2.1 rfl rfl
  · refine r_aload_n (x := 0) gX11_back_0.2.2.2.2.2.2.1 rfl ?_
    refine r_getA gX11_back_0.2.2.2.2.2.2.2.1 (fa_11_76_0 hE) ?_
    refine r_callV (k := 0) (idx := 321) (y := 12) (as := [.ref 47]) (rest := []) (L0 := [(0, .ref 47)]) gX11_back_0.2.2.2.2.2.2.2.2.1 rfl rfl rfl rfl rfl (vok_v (ob_47 hE) rfl) rfl (r_dep (by decide) (e_X1_layBack hE q)) (fun r2 => ?_)
    refine r_aload_n (x := 0) gX11_back_0.2.2.2.2.2.2.2.2.2.1 rfl ?_
    refine r_getA gX11_back_0.2.2.2.2.2.2.2.2.2.2.1 (fa_11_76_0 hE) ?_
    refine r_iconst (v := (0 : Int32)) gX11_back_0.2.2.2.2.2.2.2.2.2.2.2.1 rfl ?_
    refine r_calli (k := 0) (idx := 311) (y := 9) (as := [.ref 47, .int (0 : Int32)]) (rest := []) (L0 := [(0, .ref 47), (1, .int (0 : Int32))]) gX11_back_0.2.2.2.2.2.2.2.2.2.2.2.2.1 rfl rfl rfl rfl rfl (vok_v (ob_47 hE) rfl) rfl (r_dep (by decide) (e_X1_noted hE r2 (0 : Int32))) (fun r3 => ?_)
    exact r_ireturn gX11_back_0.2.2.2.2.2.2.2.2.2.2.2.2.2.1 rfl rfl
def b_X12_back_62 : SS → Int32 → Option (Int32 × SS) :=
  fx2 (fun (rec_62 : SS → Int32 → Option (Int32 × SS)) (q : SS) (l1 : Int32) =>
  if (4 : Int32) ≤ l1 then
  (if vin (0 : Int32) 4 then
  some ((q.1 83 (0 : Int32).toNatClampNeg), q)
  else none)
  else
  (if vin l1 4 then
  if vin l1 4 then
  nm (sI q 83 l1.toNatClampNeg (q.1 86 l1.toNatClampNeg)) fun q2 =>
  rec_62 q2 (l1 + (1 : Int32))
  else none
  else none)) FU
theorem rb_X12_back_62 {E : EE} (hE : GE E) (q : SS) (l1 : Int32) : R E (κI E) 0 269 62 [(0, .ref 60), (1, .int l1)] [] q (b_X12_back_62 q l1) := by
  unfold b_X12_back_62
  refine fx2_ok (P := fun q l1 o => R E (κI E) 0 269 62 [(0, .ref 60), (1, .int l1)] [] q o) (fun _ _ => r_no) (fun rec_62 hrec_62 q l1 => ?_) _ _ _
  refine r_iload_n (x := l1) gX12_back_53.2.2.2.2.2.1 rfl ?_
  refine r_iconst (v := (4 : Int32)) gX12_back_53.2.2.2.2.2.2.1 rfl ?_
  refine r_icmp_ge (t := 85) gX12_back_53.2.2.2.2.2.2.2.1 rfl (fun h3 => ?_) (fun h3 => ?_)
  · refine r_aload_n (x := 60) gX12_back_79.2.2.1 rfl ?_
    refine r_getA gX12_back_79.2.2.2.1 (fa_12_80_60 hE) ?_
    refine r_iconst (v := (0 : Int32)) gX12_back_79.2.2.2.2.1 rfl ?_
    refine r_iaload gX12_back_79.2.2.2.2.2.1 (ar_83 hE) ?_
    exact r_ireturn gX12_back_79.2.2.2.2.2.2.1 rfl rfl
  · refine r_aload_n (x := 60) gX12_back_53.2.2.2.2.2.2.2.2.1 rfl ?_
    refine r_getA gX12_back_53.2.2.2.2.2.2.2.2.2.1 (fa_12_80_60 hE) ?_
    refine r_iload_n (x := l1) gX12_back_53.2.2.2.2.2.2.2.2.2.2.1 rfl ?_
    refine r_aload_n (x := 60) gX12_back_53.2.2.2.2.2.2.2.2.2.2.2.1 rfl ?_
    refine r_getA gX12_back_53.2.2.2.2.2.2.2.2.2.2.2.2.1 (fa_12_89_60 hE) ?_
    refine r_iload_n (x := l1) gX12_back_53.2.2.2.2.2.2.2.2.2.2.2.2.2.1 rfl ?_
    refine r_iaload gX12_back_53.2.2.2.2.2.2.2.2.2.2.2.2.2.2.1 (ar_86 hE) ?_
    refine r_iastore gX12_back_53.2.2.2.2.2.2.2.2.2.2.2.2.2.2.2.1 (ar_83 hE) ?_
    refine r_nmS fun q2 _ => ?_
    refine r_iinc (x := l1) (v := (l1 + (1 : Int32))) (L2 := [(0, .ref 60), (1, .int (l1 + (1 : Int32)))]) gX12_back_79.1 rfl rfl rfl rfl ?_
    refine r_goto (t := 62) gX12_back_79.2.1 rfl ?_
    exact r_sub (L' := [(0, .ref 60), (1, .int (l1 + (1 : Int32)))]) (sub_c rfl (sub_c rfl sub_n)) (hrec_62 q2 (l1 + (1 : Int32)))
def b_X12_back_22 : SS → Int32 → Option (Int32 × SS) :=
  fx2 (fun (rec_22 : SS → Int32 → Option (Int32 × SS)) (q : SS) (l1 : Int32) =>
  if (q.1 60 47) ≤ l1 then
  (b_X12_back_62 q (0 : Int32))
  else
  (if vin l1 12 then
  if vin l1 12 then
  nm (sI q 65 l1.toNatClampNeg (q.1 84 l1.toNatClampNeg)) fun q4 =>
  if vin l1 12 then
  if vin l1 12 then
  nm (sI q4 67 l1.toNatClampNeg (q4.1 85 l1.toNatClampNeg)) fun q5 =>
  rec_22 q5 (l1 + (1 : Int32))
  else none
  else none
  else none
  else none)) FU
theorem rb_X12_back_22 {E : EE} (hE : GE E) (q : SS) (l1 : Int32) : R E (κI E) 0 269 22 [(0, .ref 60), (1, .int l1)] [] q (b_X12_back_22 q l1) := by
  unfold b_X12_back_22
  refine fx2_ok (P := fun q l1 o => R E (κI E) 0 269 22 [(0, .ref 60), (1, .int l1)] [] q o) (fun _ _ => r_no) (fun rec_22 hrec_22 q l1 => ?_) _ _ _
  refine r_iload_n (x := l1) gX12_back_0.2.2.2.2.2.2.2.2.2.2.2.2.2.1 rfl ?_
  refine r_aload_n (x := 60) gX12_back_0.2.2.2.2.2.2.2.2.2.2.2.2.2.2.1 rfl ?_
  refine r_getI gX12_back_0.2.2.2.2.2.2.2.2.2.2.2.2.2.2.2.1 (ff_12_359_60 hE) (by decide) ?_
  refine r_icmp_ge (t := 60) gX12_back_27.1 rfl (fun h6 => ?_) (fun h6 => ?_)
  · refine r_iconst (v := (0 : Int32)) gX12_back_53.2.2.2.1 rfl ?_
    refine r_istore_n (L2 := [(0, .ref 60), (1, .int (0 : Int32))]) gX12_back_53.2.2.2.2.1 rfl rfl ?_
    exact r_sub (L' := [(0, .ref 60), (1, .int (0 : Int32))]) (sub_c rfl (sub_c rfl sub_n)) (rb_X12_back_62 hE q (0 : Int32))
  · refine r_aload_n (x := 60) gX12_back_27.2.1 rfl ?_
    refine r_getA gX12_back_27.2.2.1 (fa_12_24_60 hE) ?_
    refine r_iload_n (x := l1) gX12_back_27.2.2.2.1 rfl ?_
    refine r_aload_n (x := 60) gX12_back_27.2.2.2.2.1 rfl ?_
    refine r_getA gX12_back_27.2.2.2.2.2.1 (fa_12_83_60 hE) ?_
    refine r_iload_n (x := l1) gX12_back_27.2.2.2.2.2.2.1 rfl ?_
    refine r_iaload gX12_back_27.2.2.2.2.2.2.2.1 (ar_84 hE) ?_
    refine r_iastore gX12_back_27.2.2.2.2.2.2.2.2.1 (ar_65 hE) ?_
    refine r_nmS fun q4 _ => ?_
    refine r_aload_n (x := 60) gX12_back_27.2.2.2.2.2.2.2.2.2.1 rfl ?_
    refine r_getA gX12_back_27.2.2.2.2.2.2.2.2.2.2.1 (fa_12_30_60 hE) ?_
    refine r_iload_n (x := l1) gX12_back_27.2.2.2.2.2.2.2.2.2.2.2.1 rfl ?_
    refine r_aload_n (x := 60) gX12_back_27.2.2.2.2.2.2.2.2.2.2.2.2.1 rfl ?_
    refine r_getA gX12_back_27.2.2.2.2.2.2.2.2.2.2.2.2.2.1 (fa_12_86_60 hE) ?_
    refine r_iload_n (x := l1) gX12_back_27.2.2.2.2.2.2.2.2.2.2.2.2.2.2.1 rfl ?_
    refine r_iaload gX12_back_27.2.2.2.2.2.2.2.2.2.2.2.2.2.2.2.1 (ar_85 hE) ?_
    refine r_iastore gX12_back_53.1 (ar_67 hE) ?_
    refine r_nmS fun q5 _ => ?_
    refine r_iinc (x := l1) (v := (l1 + (1 : Int32))) (L2 := [(0, .ref 60), (1, .int (l1 + (1 : Int32)))]) gX12_back_53.2.1 rfl rfl rfl rfl ?_
    refine r_goto (t := 22) gX12_back_53.2.2.1 rfl ?_
    exact r_sub (L' := [(0, .ref 60), (1, .int (l1 + (1 : Int32)))]) (sub_c rfl (sub_c rfl sub_n)) (hrec_22 q5 (l1 + (1 : Int32)))
def f_X12_back (q : SS)  : Option (Int32 × SS) :=
  if (q.1 60 46) = 0 then
  (some ((-5 : Int32), q))
  else
  (if vin (0 : Int32) 2 then
  nm (sI q 68 (0 : Int32).toNatClampNeg (q.1 60 48)) fun q1 =>
  b_X12_back_22 q1 (0 : Int32)
  else none)
theorem e_X12_back {E : EE} (hE : GE E) (q : SS)  : R E (κI E) 0 269 0 [(0, .ref 60)] [] q (f_X12_back q) := by
  unfold f_X12_back
  refine r_aload_n (x := 60) gX12_back_0.1 rfl ?_
  refine r_getI gX12_back_0.2.1 (ff_12_356_60 hE) (by decide) ?_
  refine r_if_ne (t := 10) gX12_back_0.2.2.1 rfl (fun h7 => ?_) (fun h7 => ?_)
  · refine r_bipush (v := (-5 : Int32)) gX12_back_0.2.2.2.1 rfl ?_
    exact r_ireturn gX12_back_0.2.2.2.2.1 rfl rfl
  · refine r_aload_n (x := 60) gX12_back_0.2.2.2.2.2.1 rfl ?_
    refine r_getA gX12_back_0.2.2.2.2.2.2.1 (fa_12_33_60 hE) ?_
    refine r_iconst (v := (0 : Int32)) gX12_back_0.2.2.2.2.2.2.2.1 rfl ?_
    refine r_aload_n (x := 60) gX12_back_0.2.2.2.2.2.2.2.2.1 rfl ?_
    refine r_getI gX12_back_0.2.2.2.2.2.2.2.2.2.1 (ff_12_362_60 hE) (by decide) ?_
    refine r_iastore gX12_back_0.2.2.2.2.2.2.2.2.2.2.1 (ar_68 hE) ?_
    refine r_nmS fun q1 _ => ?_
    refine r_iconst (v := (0 : Int32)) gX12_back_0.2.2.2.2.2.2.2.2.2.2.2.1 rfl ?_
    refine r_istore_n (L2 := [(0, .ref 60), (1, .int (0 : Int32))]) gX12_back_0.2.2.2.2.2.2.2.2.2.2.2.2.1 rfl rfl ?_
    exact r_sub (L' := [(0, .ref 60), (1, .int (0 : Int32))]) (sub_c rfl (sub_c rfl sub_n)) (rb_X12_back_22 hE q1 (0 : Int32))
def f_X10_get (q : SS) (a1 : Int32) (a2 : Int32) : Option Int32 :=
  (f_X10_hasNumber q a1 a2).bind fun r1 =>
  if r1 = 0 then
  (some (0 : Int32))
  else
  (if vin a1 9 then
  if vin a2 12 then
  some (q.1 (3 + a1.toNatClampNeg) a2.toNatClampNeg)
  else none
  else none)
theorem e_X10_get {E : EE} (hE : GE E) (q : SS) (a1 : Int32) (a2 : Int32) : R E (κi E q) 1 134 0 [(0, .ref 1), (1, .int a1), (2, .int a2)] [] q (f_X10_get q a1 a2) := by
  unfold f_X10_get
  refine r_aload_n (x := 1) gX10_get_0.1 rfl ?_
  refine r_iload_n (x := a1) gX10_get_0.2.1 rfl ?_
  refine r_iload_n (x := a2) gX10_get_0.2.2.1 rfl ?_
  refine r_calli (k := 0) (idx := 38) (y := 132) (as := [.ref 1, .int a1, .int a2]) (rest := []) (L0 := [(0, .ref 1), (1, .int a1), (2, .int a2)]) gX10_get_0.2.2.2.1 rfl rfl rfl rfl rfl (vok_v (ob_1 hE) rfl) rfl (r_dep (by decide) (e_X10_hasNumber hE q a1 a2)) (fun r1 => ?_)
  refine r_if_eq (t := 20) gX10_get_0.2.2.2.2.1 rfl (fun h3 => ?_) (fun h3 => ?_)
  · refine r_iconst (v := (0 : Int32)) gX10_get_0.2.2.2.2.2.2.2.2.2.2.2.2.1 rfl ?_
    exact r_ireturn gX10_get_0.2.2.2.2.2.2.2.2.2.2.2.2.2.1 rfl rfl
  · refine r_aload_n (x := 1) gX10_get_0.2.2.2.2.2.1 rfl ?_
    refine r_getA gX10_get_0.2.2.2.2.2.2.1 (fa_10_11_1 hE) ?_
    refine r_iload_n (x := a1) gX10_get_0.2.2.2.2.2.2.2.1 rfl ?_
    refine r_aaload gX10_get_0.2.2.2.2.2.2.2.2.1 (ar_2 hE) (by decide) (rv_2 hE) (fun h2 => ?_)
    refine r_iload_n (x := a2) gX10_get_0.2.2.2.2.2.2.2.2.2.1 rfl ?_
    refine r_iaload gX10_get_0.2.2.2.2.2.2.2.2.2.2.1 (aw_3 hE (vin_lt h2)) ?_
    refine r_goto (t := 21) gX10_get_0.2.2.2.2.2.2.2.2.2.2.2.1 rfl ?_
    exact r_ireturn gX10_get_0.2.2.2.2.2.2.2.2.2.2.2.2.2.1 rfl rfl
def f_X10_hourNow (q : SS)  : Option Int32 :=
  (f_X10_get q (7 : Int32) (0 : Int32)).bind fun r1 =>
  some r1
theorem e_X10_hourNow {E : EE} (hE : GE E) (q : SS)  : R E (κi E q) 2 127 0 [(0, .ref 1)] [] q (f_X10_hourNow q) := by
  unfold f_X10_hourNow
  refine r_aload_n (x := 1) gX10_hourNow_0.1 rfl ?_
  refine r_bipush (v := (7 : Int32)) gX10_hourNow_0.2.1 rfl ?_
  refine r_iconst (v := (0 : Int32)) gX10_hourNow_0.2.2.1 rfl ?_
  refine r_calli (k := 0) (idx := 23) (y := 134) (as := [.ref 1, .int (7 : Int32), .int (0 : Int32)]) (rest := []) (L0 := [(0, .ref 1), (1, .int (7 : Int32)), (2, .int (0 : Int32))]) gX10_hourNow_0.2.2.2.1 rfl rfl rfl rfl rfl (vok_v (ob_1 hE) rfl) rfl (r_dep (by decide) (e_X10_get hE q (7 : Int32) (0 : Int32))) (fun r1 => ?_)
  exact r_ireturn gX10_hourNow_0.2.2.2.2.1 rfl rfl
def b_X1_keepImage_43 : SS → Int32 → Option SS :=
  fx2 (fun (rec_43 : SS → Int32 → Option SS) (q : SS) (l1 : Int32) =>
  if (q.1 47 5) ≤ l1 then
  (some q)
  else
  (if (12 : Int32) ≤ l1 then
  (some q)
  else
  ((f_X10_get q (4 : Int32) l1).bind fun r7 =>
  if vin l1 12 then
  nm (sI q 50 l1.toNatClampNeg r7) fun q8 =>
  (f_X10_get q8 (6 : Int32) l1).bind fun r9 =>
  if vin l1 12 then
  nm (sI q8 51 l1.toNatClampNeg r9) fun q10 =>
  rec_43 q10 (l1 + (1 : Int32))
  else none
  else none))) FU
theorem rb_X1_keepImage_43 {E : EE} (hE : GE E) (q : SS) (l1 : Int32) : R E (κV E) 3 11 43 [(0, .ref 47), (1, .int l1)] [] q (b_X1_keepImage_43 q l1) := by
  unfold b_X1_keepImage_43
  refine fx2_ok (P := fun q l1 o => R E (κV E) 3 11 43 [(0, .ref 47), (1, .int l1)] [] q o) (fun _ _ => r_no) (fun rec_43 hrec_43 q l1 => ?_) _ _ _
  refine r_iload_n (x := l1) gX1_keepImage_32.2.2.2.2.2.2.2.1 rfl ?_
  refine r_aload_n (x := 47) gX1_keepImage_32.2.2.2.2.2.2.2.2.1 rfl ?_
  refine r_getI gX1_keepImage_32.2.2.2.2.2.2.2.2.2.1 (ff_1_38_47 hE) (by decide) ?_
  refine r_icmp_ge (t := 94) gX1_keepImage_32.2.2.2.2.2.2.2.2.2.2.1 rfl (fun h12 => ?_) (fun h12 => ?_)
  · exact r_return gX1_keepImage_88.2.2.1 rfl rfl
  · refine r_iload_n (x := l1) gX1_keepImage_32.2.2.2.2.2.2.2.2.2.2.2.1 rfl ?_
    refine r_bipush (v := (12 : Int32)) gX1_keepImage_32.2.2.2.2.2.2.2.2.2.2.2.2.1 rfl ?_
    refine r_icmp_ge (t := 94) gX1_keepImage_32.2.2.2.2.2.2.2.2.2.2.2.2.2.1 rfl (fun h11 => ?_) (fun h11 => ?_)
    · exact r_return gX1_keepImage_88.2.2.1 rfl rfl
    · refine r_aload_n (x := 47) gX1_keepImage_32.2.2.2.2.2.2.2.2.2.2.2.2.2.2.1 rfl ?_
      refine r_getA gX1_keepImage_32.2.2.2.2.2.2.2.2.2.2.2.2.2.2.2.1 (fa_1_22_47 hE) ?_
      refine r_iload_n (x := l1) gX1_keepImage_61.1 rfl ?_
      refine r_aload_n (x := 47) gX1_keepImage_61.2.1 rfl ?_
      refine r_getA gX1_keepImage_61.2.2.1 (fa_1_9_47 hE) ?_
      refine r_iconst (v := (4 : Int32)) gX1_keepImage_61.2.2.2.1 rfl ?_
      refine r_iload_n (x := l1) gX1_keepImage_61.2.2.2.2.1 rfl ?_
      refine r_calli (k := 0) (idx := 54) (y := 134) (as := [.ref 1, .int (4 : Int32), .int l1]) (rest := [.int l1, .ref 50]) (L0 := [(0, .ref 1), (1, .int (4 : Int32)), (2, .int l1)]) gX1_keepImage_61.2.2.2.2.2.1 rfl rfl rfl rfl rfl (vok_v (ob_1 hE) rfl) rfl (r_dep (by decide) (e_X10_get hE q (4 : Int32) l1)) (fun r7 => ?_)
      refine r_iastore gX1_keepImage_61.2.2.2.2.2.2.1 (ar_50 hE) ?_
      refine r_nmS fun q8 _ => ?_
      refine r_aload_n (x := 47) gX1_keepImage_61.2.2.2.2.2.2.2.1 rfl ?_
      refine r_getA gX1_keepImage_61.2.2.2.2.2.2.2.2.1 (fa_1_25_47 hE) ?_
      refine r_iload_n (x := l1) gX1_keepImage_61.2.2.2.2.2.2.2.2.2.1 rfl ?_
      refine r_aload_n (x := 47) gX1_keepImage_61.2.2.2.2.2.2.2.2.2.2.1 rfl ?_
      refine r_getA gX1_keepImage_61.2.2.2.2.2.2.2.2.2.2.2.1 (fa_1_9_47 hE) ?_
      refine r_bipush (v := (6 : Int32)) gX1_keepImage_61.2.2.2.2.2.2.2.2.2.2.2.2.1 rfl ?_
      refine r_iload_n (x := l1) gX1_keepImage_61.2.2.2.2.2.2.2.2.2.2.2.2.2.1 rfl ?_
      refine r_calli (k := 0) (idx := 54) (y := 134) (as := [.ref 1, .int (6 : Int32), .int l1]) (rest := [.int l1, .ref 51]) (L0 := [(0, .ref 1), (1, .int (6 : Int32)), (2, .int l1)]) gX1_keepImage_61.2.2.2.2.2.2.2.2.2.2.2.2.2.2.1 rfl rfl rfl rfl rfl (vok_v (ob_1 hE) rfl) rfl (r_dep (by decide) (e_X10_get hE q8 (6 : Int32) l1)) (fun r9 => ?_)
      refine r_iastore gX1_keepImage_61.2.2.2.2.2.2.2.2.2.2.2.2.2.2.2.1 (ar_51 hE) ?_
      refine r_nmS fun q10 _ => ?_
      refine r_iinc (x := l1) (v := (l1 + (1 : Int32))) (L2 := [(0, .ref 47), (1, .int (l1 + (1 : Int32)))]) gX1_keepImage_88.1 rfl rfl rfl rfl ?_
      refine r_goto (t := 43) gX1_keepImage_88.2.1 rfl ?_
      exact r_sub (L' := [(0, .ref 47), (1, .int (l1 + (1 : Int32)))]) (sub_c rfl (sub_c rfl sub_n)) (hrec_43 q10 (l1 + (1 : Int32)))
def f_X1_keepImage (q : SS)  : Option SS :=
  nm (sI q 47 7 (1 : Int32)) fun q1 =>
  (f_X10_tickets q1).bind fun r2 =>
  nm (sI q1 47 5 r2) fun q3 =>
  (f_X10_hourNow q3).bind fun r4 =>
  nm (sI q3 47 6 r4) fun q5 =>
  if cpok 4 4 (0 : Int32) (0 : Int32) (4 : Int32) then
  nm (sR q5 49 (va_cpy (q5.1 48) (q5.1 49) (0 : Int32).toNatClampNeg (0 : Int32).toNatClampNeg (4 : Int32).toNatClampNeg)) fun q6 =>
  b_X1_keepImage_43 q6 (0 : Int32)
  else none
theorem e_X1_keepImage {E : EE} (hE : GE E) (q : SS)  : R E (κV E) 3 11 0 [(0, .ref 47)] [] q (f_X1_keepImage q) := by
  unfold f_X1_keepImage
  refine r_aload_n (x := 47) gX1_keepImage_0.1 rfl ?_
  refine r_iconst (v := (1 : Int32)) gX1_keepImage_0.2.1 rfl ?_
  refine r_putZC gX1_keepImage_0.2.2.1 (ff_1_28_47 hE) (by decide) ?_
  refine r_nmS fun q1 _ => ?_
  refine r_aload_n (x := 47) gX1_keepImage_0.2.2.2.1 rfl ?_
  refine r_aload_n (x := 47) gX1_keepImage_0.2.2.2.2.1 rfl ?_
  refine r_getA gX1_keepImage_0.2.2.2.2.2.1 (fa_1_9_47 hE) ?_
  refine r_calli (k := 0) (idx := 32) (y := 126) (as := [.ref 1]) (rest := [.ref 47]) (L0 := [(0, .ref 1)]) gX1_keepImage_0.2.2.2.2.2.2.1 rfl rfl rfl rfl rfl (vok_v (ob_1 hE) rfl) rfl (r_dep (by decide) (e_X10_tickets hE q1)) (fun r2 => ?_)
  refine r_putI gX1_keepImage_0.2.2.2.2.2.2.2.1 (ff_1_38_47 hE) ?_
  refine r_nmS fun q3 _ => ?_
  refine r_aload_n (x := 47) gX1_keepImage_0.2.2.2.2.2.2.2.2.1 rfl ?_
  refine r_aload_n (x := 47) gX1_keepImage_0.2.2.2.2.2.2.2.2.2.1 rfl ?_
  refine r_getA gX1_keepImage_0.2.2.2.2.2.2.2.2.2.2.1 (fa_1_9_47 hE) ?_
  refine r_calli (k := 0) (idx := 42) (y := 127) (as := [.ref 1]) (rest := [.ref 47]) (L0 := [(0, .ref 1)]) gX1_keepImage_0.2.2.2.2.2.2.2.2.2.2.2.1 rfl rfl rfl rfl rfl (vok_v (ob_1 hE) rfl) rfl (r_dep (by decide) (e_X10_hourNow hE q3)) (fun r4 => ?_)
  refine r_putI gX1_keepImage_0.2.2.2.2.2.2.2.2.2.2.2.2.1 (ff_1_45_47 hE) ?_
  refine r_nmS fun q5 _ => ?_
  refine r_aload_n (x := 47) gX1_keepImage_0.2.2.2.2.2.2.2.2.2.2.2.2.2.1 rfl ?_
  refine r_getA gX1_keepImage_0.2.2.2.2.2.2.2.2.2.2.2.2.2.2.1 (fa_1_15_47 hE) ?_
  refine r_iconst (v := (0 : Int32)) gX1_keepImage_0.2.2.2.2.2.2.2.2.2.2.2.2.2.2.2.1 rfl ?_
  refine r_aload_n (x := 47) gX1_keepImage_32.1 rfl ?_
  refine r_getA gX1_keepImage_32.2.1 (fa_1_19_47 hE) ?_
  refine r_iconst (v := (0 : Int32)) gX1_keepImage_32.2.2.1 rfl ?_
  refine r_iconst (v := (4 : Int32)) gX1_keepImage_32.2.2.2.1 rfl ?_
  refine r_cpyI gX1_keepImage_32.2.2.2.2.1 ⟨rfl, rfl, rfl⟩ (ar_48 hE) (ar_49 hE) rfl ?_
  refine r_nmS fun q6 _ => ?_
  refine r_iconst (v := (0 : Int32)) gX1_keepImage_32.2.2.2.2.2.1 rfl ?_
  refine r_istore_n (L2 := [(0, .ref 47), (1, .int (0 : Int32))]) gX1_keepImage_32.2.2.2.2.2.2.1 rfl rfl ?_
  exact r_sub (L' := [(0, .ref 47), (1, .int (0 : Int32))]) (sub_c rfl (sub_c rfl sub_n)) (rb_X1_keepImage_43 hE q6 (0 : Int32))
