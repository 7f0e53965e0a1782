/-! ===== walking a function ===== -/
theorem T_ltp {ρ : Type} {a b : Int32} {x y : Option ρ} {P : ρ → Prop} (h : a.toInt < b.toInt) (k : T x P) : T (if a < b then x else y) P := by
  rw [if_pos (Int32.lt_iff_toInt_lt.mpr h)]; exact k
theorem T_ltn {ρ : Type} {a b : Int32} {x y : Option ρ} {P : ρ → Prop} (h : b.toInt ≤ a.toInt) (k : T y P) : T (if a < b then x else y) P := by
  rw [if_neg (fun g => absurd (Int32.lt_iff_toInt_lt.mp g) (by omega))]; exact k
theorem T_lep {ρ : Type} {a b : Int32} {x y : Option ρ} {P : ρ → Prop} (h : a.toInt ≤ b.toInt) (k : T x P) : T (if a ≤ b then x else y) P := by
  rw [if_pos (Int32.le_iff_toInt_le.mpr h)]; exact k
theorem T_len {ρ : Type} {a b : Int32} {x y : Option ρ} {P : ρ → Prop} (h : b.toInt < a.toInt) (k : T y P) : T (if a ≤ b then x else y) P := by
  rw [if_neg (fun g => absurd (Int32.le_iff_toInt_le.mp g) (by omega))]; exact k
theorem T_p {ρ : Type} {c : Prop} [Decidable c] {x y : Option ρ} {P : ρ → Prop} (h : c) (k : T x P) : T (if c then x else y) P := by
  rw [if_pos h]; exact k
theorem T_q {ρ : Type} {c : Prop} [Decidable c] {x y : Option ρ} {P : ρ → Prop} (h : ¬ c) (k : T y P) : T (if c then x else y) P := by
  rw [if_neg h]; exact k
theorem T_lt {ρ : Type} {a b : Int32} {x y : Option ρ} {P : ρ → Prop} (h : a.toInt < b.toInt → T x P) (k : b.toInt ≤ a.toInt → T y P) : T (if a < b then x else y) P := by
  by_cases g : a < b
  · rw [if_pos g]; exact h (Int32.lt_iff_toInt_lt.mp g)
  · rw [if_neg g]; exact k (Int32.le_iff_toInt_le.mp (Int32.not_lt.mp g))
theorem T_le {ρ : Type} {a b : Int32} {x y : Option ρ} {P : ρ → Prop} (h : a.toInt ≤ b.toInt → T x P) (k : b.toInt < a.toInt → T y P) : T (if a ≤ b then x else y) P := by
  by_cases g : a ≤ b
  · rw [if_pos g]; exact h (Int32.le_iff_toInt_le.mp g)
  · rw [if_neg g]; exact k (Int32.lt_iff_toInt_lt.mp (Int32.not_le.mp g))
theorem T_eq {ρ : Type} {a b : Int32} {x y : Option ρ} {P : ρ → Prop} (h : a = b → T x P) (k : a.toInt ≠ b.toInt → T y P) : T (if a = b then x else y) P := by
  by_cases g : a = b
  · rw [if_pos g]; exact h g
  · rw [if_neg g]; exact k (fun e => g (Int32.toInt_inj.mp e))
theorem T_vp {ρ : Type} {i : Int32} {n : Nat} {x : Option ρ} {P : ρ → Prop} (h0 : 0 ≤ i.toInt) (h : i.toInt < (n : Int)) (k : T x P) : T (if vin i n then x else none) P := by
  rw [if_pos ⟨h0, h⟩]; exact k
theorem T_nm {α ρ : Type} {e : α} {f : α → Option ρ} {P : ρ → Prop} (k : T (f e) P) : T (nm e f) P := k
theorem T_rw {α ρ : Type} {o : Option α} {r : α} {f : α → Option ρ} {P : ρ → Prop} (h : o = some r) (k : T (f r) P) : T (o.bind f) P := by
  rw [h]; exact k
theorem T_bn {ρ : Type} {c : Prop} [Decidable c] {x y : Option ρ} {P : ρ → Prop} (h : ¬ c) (k : T x P) : T (if bI c = 0 then x else y) P := by
  rw [if_pos (bI_0.mpr h)]; exact k
theorem T_bp {ρ : Type} {c : Prop} [Decidable c] {x y : Option ρ} {P : ρ → Prop} (h : c) (k : T y P) : T (if bI c = 0 then x else y) P := by
  rw [if_neg (fun g => bI_0.mp g h)]; exact k
theorem T_bi {ρ : Type} {c : Prop} [Decidable c] {x y : Option ρ} {P : ρ → Prop} (h : ¬ c → T x P) (k : c → T y P) : T (if bI c = 0 then x else y) P := by
  by_cases g : c
  · exact T_bp g (k g)
  · exact T_bn g (h g)
theorem rdn {q : SS} {o i a j : Nat} {x : Int32} (h : (a == o && j == i) = false) : (sI q o i x).1 a j = q.1 a j := by
  rw [sI_rd, if_neg]
  rintro ⟨rfl, rfl⟩
  simp at h
theorem rds {q : SS} {o i : Nat} {x : Int32} : (sI q o i x).1 o i = x := by
  rw [sI_rd, if_pos ⟨rfl, rfl⟩]
theorem rdl {q : SS} {o i a j : Nat} {x : Int64} (h : (a == o && j == i) = false) : (sL q o i x).2 a j = q.2 a j := by
  rw [sL_rd, if_neg]
  rintro ⟨rfl, rfl⟩
  simp at h
theorem rdm {q : SS} {o i : Nat} {x : Int64} : (sL q o i x).2 o i = x := by
  rw [sL_rd, if_pos ⟨rfl, rfl⟩]
/-- from i on, one for one -/
theorem i8i8 (a : Int32) : (a.toInt8.toInt32).toInt8.toInt32 = a.toInt8.toInt32 := by simp
theorem RT_feed {q : SS} (h : RT q) {a : Int32} (ha : 0 ≤ a.toInt ∧ a.toInt ≤ 255) (hl : (q.1 60 18).toInt < 120) : RT (sI (sI (sI (sI q 18 (q.1 60 18).toNatClampNeg a) 17 2 (q.1 60 18 + 1)) 73 (q.1 60 18).toNatClampNeg ((a.toInt8.toInt32).toInt8.toInt32)) 60 18 (q.1 60 18 + 1)) := by
  have h0 := RT_l0 h
  have e1 : (q.1 60 18 + 1).toInt = (q.1 60 18).toInt + 1 := inc1 (by omega) (by omega)
  rw [i8i8]
  generalize hn : q.1 60 18 + 1 = n at *
  have ec : ((q.1 60 18).toNatClampNeg : Int) = (q.1 60 18).toInt := by
    simp only [cn_eq]
    omega
  generalize hm : (q.1 60 18).toNatClampNeg = m at *
  unfold RT
  refine ⟨by simp [sI_rd], ?_, ?_, ?_, ?_⟩
  · simp [sI_rd]; omega
  · simp [sI_rd]; omega
  · have a1 := RT_byte h
    intro i hi
    have a2 := a1 i
    simp [sI_rd] at hi ⊢
    split
    · exact ha
    · exact a2 (by omega)
  · have a1 := RT_tape h
    intro i hi
    have a2 := a1 i
    simp [sI_rd] at hi ⊢
    split
    · rfl
    · exact a2 (by omega)
theorem op_feed {q : SS} (h : INV q) (a : Int32) : T (f_X11_feed q a) (fun r => T (f_X12_feed r.2 a) (fun s => INV s.2 ∧ r.1 = s.1)) := by
  have hT := INV_RT h
  have l0 := RT_l0 hT
  have l120 := RT_l120 hT
  have el := RT_len hT
  by_cases c : 0 ≤ a.toInt ∧ a.toInt ≤ 255
  · have m1 : ∀ r, f_X12_in r a 0 255 = some (bI (0 ≤ a.toInt ∧ a.toInt ≤ 255)) := fun r => m_in r a 0 255
    unfold f_X11_feed f_X5_addByte
    refine T_ltn c.1 (T_lep c.2 ?_)
    by_cases g : (q.1 60 18).toInt < 120
    · rw [el]
      have e1 : (q.1 60 18 + 1).toInt = (q.1 60 18).toInt + 1 := inc1 (by omega) (by omega)
      refine T_b (T_ltp g (T_vp l0 g (T_nm (T_nm (T_some.mpr (Eq.refl _)))))) (fun r hr => ?_)
      subst hr
      refine T_some.mpr ?_
      unfold f_X12_feed
      refine T_rw (m1 _) (T_bp c (T_q (by show ¬ q.1 60 18 = 120; intro k; rw [k] at g; exact absurd g (by decide)) (T_vp l0 g (T_nm (T_nm (T_some.mpr ⟨?_, ?_⟩))))))
      · show INV (sI (sI (sI (sI q 18 (q.1 60 18).toNatClampNeg a) 17 2 (q.1 17 2 + 1)) 73 (q.1 60 18).toNatClampNeg ((a.toInt8.toInt32).toInt8.toInt32)) 60 18 (q.1 60 18 + 1))
        rw [el]
        exact ⟨RY_fr (q := q) rfl rfl rfl rfl rfl rfl rfl rfl rfl rfl rfl rfl rfl rfl rfl rfl rfl rfl rfl rfl rfl rfl (INV_RY h), RC_fr (q := q) rfl rfl rfl rfl rfl rfl rfl rfl rfl rfl rfl rfl rfl rfl (INV_RC h), RD_fr (q := q) rfl rfl rfl rfl rfl rfl rfl rfl rfl rfl rfl rfl rfl rfl rfl rfl (INV_RD h), RT_feed hT c g, RH_fr (q := q) rfl rfl rfl rfl rfl rfl rfl rfl (INV_RH h), RS_fr (q := q) rfl rfl rfl rfl rfl rfl rfl (fun _ _ => rfl) (INV_RS h), RW_fr (q := q) rfl rfl rfl rfl rfl rfl (INV_RW h), RJ_fr (q := q) rfl rfl (INV_RJ h)⟩
      · show q.1 17 2 + 1 = q.1 60 18 + 1
        rw [el]
    · have e : q.1 60 18 = 120 := Int32.toInt_inj.mp (by have : (120 : Int32).toInt = 120 := rfl; omega)
      rw [el, e]
      refine T_b (T_q (by decide) (T_some.mpr (Eq.refl _))) (fun r hr => ?_)
      subst hr
      refine T_some.mpr ?_
      unfold f_X12_feed
      exact T_rw (m1 _) (T_bp c (T_p e (T_some.mpr ⟨h, rfl⟩)))
  · have m1 : ∀ r, f_X12_in r a 0 255 = some (bI (0 ≤ a.toInt ∧ a.toInt ≤ 255)) := fun r => m_in r a 0 255
    unfold f_X11_feed
    have key : T (f_X12_feed q a) (fun s => INV s.2 ∧ -1 = s.1) := by
      unfold f_X12_feed
      exact T_rw (m1 _) (T_bn c (T_some.mpr ⟨h, rfl⟩))
    refine T_lt (fun _ => T_some.mpr key) (fun g => T_le (fun g2 => absurd ⟨g, g2⟩ c) (fun _ => T_some.mpr key))
