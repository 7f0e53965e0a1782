/-! ===== WHAT HOLDS BETWEEN CALLS: the class's cells and the model's, group by group ===== -/
abbrev okN (P K w n : Int) : Prop := (0 ≤ w ∧ w ≤ 3 ∧ 0 ≤ n ∧ n < P) ∨ (4 ≤ w ∧ w ≤ 6 ∧ 0 ≤ n ∧ n < K) ∨ (7 ≤ w ∧ w ≤ 8 ∧ n = 0)
abbrev okV (P w v : Int) : Prop := 0 ≤ v ∧ (w = 0 → v ≤ 12) ∧ (w = 1 → v ≤ 1) ∧ (w = 2 → v ≤ 99) ∧ (w = 3 → v ≤ 9) ∧ (w = 4 → v < P) ∧ (w = 5 → v ≤ 1) ∧ (w = 6 → v ≤ 4) ∧ (w = 7 → v ≤ 11) ∧ (w = 8 → v ≤ 9)
theorem s6 {s : Nat} (h : s < 6) : s = 0 ∨ s = 1 ∨ s = 2 ∨ s = 3 ∨ s = 4 ∨ s = 5 := by omega
def stepd (a w : Int32) (d : Nat) : Option Nat := if a = 1 then some (d + 1) else if a = 2 then (if 0 ≤ w.toInt ∧ w.toInt < 6 then some (d + 1) else none) else if a = 3 ∨ a = 4 then (if 1 ≤ d then some d else none) else (if 2 ≤ d then some (d - 1) else none)
/-- how many lie on the pile behind n steps from the i-th on -/
def dp (A W : Nat → Int32) : Nat → Nat → Nat → Option Nat
  | 0, _, d => some d
  | n + 1, i, d => (stepd (A i) (W i) d).bind fun d' => dp A W n (i + 1) d'
def okSeg (A W : Nat → Int32) (i j : Int) : Prop := dp A W (j - i).toNat i.toNat 0 = some 1
def okLine (A W : Nat → Int32) (s t e : Int) : Prop := 0 ≤ s ∧ s ≤ t ∧ t ≤ e ∧ e ≤ 130 ∧ okSeg A W t e ∧ (t ≠ s → okSeg A W s t)
def RY (q : SS) : Prop := (0 ≤ (q.1 60 1).toInt) ∧ ((q.1 60 1).toInt ≤ 6) ∧ (0 ≤ (q.1 60 6).toInt) ∧ ((q.1 60 6).toInt ≤ 12) ∧ (q.1 1 1 = q.1 60 1) ∧ (q.1 1 2 = q.1 60 6) ∧ (q.1 3 = q.1 61) ∧ (q.1 4 = q.1 62) ∧ (q.1 6 = q.1 64) ∧ (q.1 7 = q.1 65) ∧ (q.1 8 = q.1 66) ∧ (q.1 9 = q.1 67) ∧ (q.1 10 0 = q.1 68 0) ∧ (q.1 11 0 = q.1 68 1) ∧ (∀ i : Nat, (i : Int) < (q.1 60 1).toInt → q.1 5 i = q.1 63 i) ∧ (∀ i : Nat, (q.1 60 1).toInt ≤ (i : Int) → i < 6 → q.1 5 i = 10) ∧ (∀ i : Nat, (q.1 60 1).toInt ≤ (i : Int) → q.1 62 i = 0) ∧ (∀ i : Nat, (q.1 60 1).toInt ≤ (i : Int) → q.1 64 i = 0) ∧ (∀ i : Nat, (i : Int) < (q.1 60 1).toInt → 0 ≤ (q.1 61 i).toInt ∧ (q.1 61 i).toInt ≤ 12) ∧ (∀ i : Nat, (i : Int) < (q.1 60 1).toInt → 0 ≤ (q.1 62 i).toInt ∧ (q.1 62 i).toInt ≤ 1) ∧ (∀ i : Nat, (i : Int) < (q.1 60 1).toInt → 0 ≤ (q.1 63 i).toInt ∧ (q.1 63 i).toInt ≤ 99) ∧ (∀ i : Nat, (i : Int) < (q.1 60 1).toInt → 0 ≤ (q.1 64 i).toInt ∧ (q.1 64 i).toInt ≤ 9) ∧ (∀ t : Nat, (t : Int) < (q.1 60 6).toInt → 0 ≤ (q.1 65 t).toInt ∧ (q.1 65 t).toInt < (q.1 60 1).toInt) ∧ (∀ t : Nat, (t : Int) < (q.1 60 6).toInt → 0 ≤ (q.1 66 t).toInt ∧ (q.1 66 t).toInt ≤ 1) ∧ (∀ t : Nat, (t : Int) < (q.1 60 6).toInt → 0 ≤ (q.1 67 t).toInt ∧ (q.1 67 t).toInt ≤ 4) ∧ (0 ≤ (q.1 68 0).toInt) ∧ ((q.1 68 0).toInt ≤ 11) ∧ (0 ≤ (q.1 68 1).toInt) ∧ ((q.1 68 1).toInt ≤ 9)
theorem RY_p0 {q : SS} (h : RY q) : 0 ≤ (q.1 60 1).toInt := h.1
theorem RY_p6 {q : SS} (h : RY q) : (q.1 60 1).toInt ≤ 6 := h.2.1
theorem RY_k0 {q : SS} (h : RY q) : 0 ≤ (q.1 60 6).toInt := h.2.2.1
theorem RY_k12 {q : SS} (h : RY q) : (q.1 60 6).toInt ≤ 12 := h.2.2.2.1
theorem RY_p {q : SS} (h : RY q) : q.1 1 1 = q.1 60 1 := h.2.2.2.2.1
theorem RY_k {q : SS} (h : RY q) : q.1 1 2 = q.1 60 6 := h.2.2.2.2.2.1
theorem RY_wary {q : SS} (h : RY q) : q.1 3 = q.1 61 := h.2.2.2.2.2.2.1
theorem RY_child {q : SS} (h : RY q) : q.1 4 = q.1 62 := h.2.2.2.2.2.2.2.1
theorem RY_takes {q : SS} (h : RY q) : q.1 6 = q.1 64 := h.2.2.2.2.2.2.2.2.1
theorem RY_holder {q : SS} (h : RY q) : q.1 7 = q.1 65 := h.2.2.2.2.2.2.2.2.2.1
theorem RY_forged {q : SS} (h : RY q) : q.1 8 = q.1 66 := h.2.2.2.2.2.2.2.2.2.2.1
theorem RY_folds {q : SS} (h : RY q) : q.1 9 = q.1 67 := h.2.2.2.2.2.2.2.2.2.2.2.1
theorem RY_hour {q : SS} (h : RY q) : q.1 10 0 = q.1 68 0 := h.2.2.2.2.2.2.2.2.2.2.2.2.1
theorem RY_seen {q : SS} (h : RY q) : q.1 11 0 = q.1 68 1 := h.2.2.2.2.2.2.2.2.2.2.2.2.2.1
theorem RY_price {q : SS} (h : RY q) : ∀ i : Nat, (i : Int) < (q.1 60 1).toInt → q.1 5 i = q.1 63 i := h.2.2.2.2.2.2.2.2.2.2.2.2.2.2.1
theorem RY_price10 {q : SS} (h : RY q) : ∀ i : Nat, (q.1 60 1).toInt ≤ (i : Int) → i < 6 → q.1 5 i = 10 := h.2.2.2.2.2.2.2.2.2.2.2.2.2.2.2.1
theorem RY_child0 {q : SS} (h : RY q) : ∀ i : Nat, (q.1 60 1).toInt ≤ (i : Int) → q.1 62 i = 0 := h.2.2.2.2.2.2.2.2.2.2.2.2.2.2.2.2.1
theorem RY_takes0 {q : SS} (h : RY q) : ∀ i : Nat, (q.1 60 1).toInt ≤ (i : Int) → q.1 64 i = 0 := h.2.2.2.2.2.2.2.2.2.2.2.2.2.2.2.2.2.1
theorem RY_rwary {q : SS} (h : RY q) : ∀ i : Nat, (i : Int) < (q.1 60 1).toInt → 0 ≤ (q.1 61 i).toInt ∧ (q.1 61 i).toInt ≤ 12 := h.2.2.2.2.2.2.2.2.2.2.2.2.2.2.2.2.2.2.1
theorem RY_rchild {q : SS} (h : RY q) : ∀ i : Nat, (i : Int) < (q.1 60 1).toInt → 0 ≤ (q.1 62 i).toInt ∧ (q.1 62 i).toInt ≤ 1 := h.2.2.2.2.2.2.2.2.2.2.2.2.2.2.2.2.2.2.2.1
theorem RY_rprice {q : SS} (h : RY q) : ∀ i : Nat, (i : Int) < (q.1 60 1).toInt → 0 ≤ (q.1 63 i).toInt ∧ (q.1 63 i).toInt ≤ 99 := h.2.2.2.2.2.2.2.2.2.2.2.2.2.2.2.2.2.2.2.2.1
theorem RY_rtakes {q : SS} (h : RY q) : ∀ i : Nat, (i : Int) < (q.1 60 1).toInt → 0 ≤ (q.1 64 i).toInt ∧ (q.1 64 i).toInt ≤ 9 := h.2.2.2.2.2.2.2.2.2.2.2.2.2.2.2.2.2.2.2.2.2.1
theorem RY_rholder {q : SS} (h : RY q) : ∀ t : Nat, (t : Int) < (q.1 60 6).toInt → 0 ≤ (q.1 65 t).toInt ∧ (q.1 65 t).toInt < (q.1 60 1).toInt := h.2.2.2.2.2.2.2.2.2.2.2.2.2.2.2.2.2.2.2.2.2.2.1
theorem RY_rforged {q : SS} (h : RY q) : ∀ t : Nat, (t : Int) < (q.1 60 6).toInt → 0 ≤ (q.1 66 t).toInt ∧ (q.1 66 t).toInt ≤ 1 := h.2.2.2.2.2.2.2.2.2.2.2.2.2.2.2.2.2.2.2.2.2.2.2.1
theorem RY_rfolds {q : SS} (h : RY q) : ∀ t : Nat, (t : Int) < (q.1 60 6).toInt → 0 ≤ (q.1 67 t).toInt ∧ (q.1 67 t).toInt ≤ 4 := h.2.2.2.2.2.2.2.2.2.2.2.2.2.2.2.2.2.2.2.2.2.2.2.2.1
theorem RY_h0 {q : SS} (h : RY q) : 0 ≤ (q.1 68 0).toInt := h.2.2.2.2.2.2.2.2.2.2.2.2.2.2.2.2.2.2.2.2.2.2.2.2.2.1
theorem RY_h11 {q : SS} (h : RY q) : (q.1 68 0).toInt ≤ 11 := h.2.2.2.2.2.2.2.2.2.2.2.2.2.2.2.2.2.2.2.2.2.2.2.2.2.2.1
theorem RY_s0 {q : SS} (h : RY q) : 0 ≤ (q.1 68 1).toInt := h.2.2.2.2.2.2.2.2.2.2.2.2.2.2.2.2.2.2.2.2.2.2.2.2.2.2.2.1
theorem RY_s9 {q : SS} (h : RY q) : (q.1 68 1).toInt ≤ 9 := h.2.2.2.2.2.2.2.2.2.2.2.2.2.2.2.2.2.2.2.2.2.2.2.2.2.2.2.2
theorem RY_fr {q q' : SS} (e3 : q'.1 3 = q.1 3) (e4 : q'.1 4 = q.1 4) (e5 : q'.1 5 = q.1 5) (e6 : q'.1 6 = q.1 6) (e7 : q'.1 7 = q.1 7) (e8 : q'.1 8 = q.1 8) (e9 : q'.1 9 = q.1 9) (e61 : q'.1 61 = q.1 61) (e62 : q'.1 62 = q.1 62) (e63 : q'.1 63 = q.1 63) (e64 : q'.1 64 = q.1 64) (e65 : q'.1 65 = q.1 65) (e66 : q'.1 66 = q.1 66) (e67 : q'.1 67 = q.1 67) (e1_1 : q'.1 1 1 = q.1 1 1) (e1_2 : q'.1 1 2 = q.1 1 2) (e10_0 : q'.1 10 0 = q.1 10 0) (e11_0 : q'.1 11 0 = q.1 11 0) (e60_1 : q'.1 60 1 = q.1 60 1) (e60_6 : q'.1 60 6 = q.1 60 6) (e68_0 : q'.1 68 0 = q.1 68 0) (e68_1 : q'.1 68 1 = q.1 68 1) (h : RY q) : RY q' := by
  unfold RY at h ⊢
  simp only [e3, e4, e5, e6, e7, e8, e9, e61, e62, e63, e64, e65, e66, e67, e1_1, e1_2, e10_0, e11_0, e60_1, e60_6, e68_0, e68_1]
  exact h
def RC (q : SS) : Prop := (q.1 52 5 = q.1 60 11) ∧ (q.1 52 6 = q.1 60 12) ∧ (0 ≤ (q.1 60 11).toInt) ∧ (0 ≤ (q.1 60 12).toInt) ∧ ((q.1 60 11).toInt + (q.1 60 12).toInt ≤ 40) ∧ (q.1 53 = q.1 69) ∧ (q.1 54 = q.1 70) ∧ (q.1 55 = q.1 71) ∧ (q.1 56 = q.1 72) ∧ (∀ j : Nat, (j : Int) < (q.1 60 11).toInt + (q.1 60 12).toInt → okN (q.1 60 1).toInt (q.1 60 6).toInt (q.1 69 j).toInt (q.1 70 j).toInt ∧ okV (q.1 60 1).toInt (q.1 69 j).toInt (q.1 71 j).toInt ∧ okV (q.1 60 1).toInt (q.1 69 j).toInt (q.1 72 j).toInt)
theorem RC_done {q : SS} (h : RC q) : q.1 52 5 = q.1 60 11 := h.1
theorem RC_undone {q : SS} (h : RC q) : q.1 52 6 = q.1 60 12 := h.2.1
theorem RC_d0 {q : SS} (h : RC q) : 0 ≤ (q.1 60 11).toInt := h.2.2.1
theorem RC_u0 {q : SS} (h : RC q) : 0 ≤ (q.1 60 12).toInt := h.2.2.2.1
theorem RC_du {q : SS} (h : RC q) : (q.1 60 11).toInt + (q.1 60 12).toInt ≤ 40 := h.2.2.2.2.1
theorem RC_what {q : SS} (h : RC q) : q.1 53 = q.1 69 := h.2.2.2.2.2.1
theorem RC_num {q : SS} (h : RC q) : q.1 54 = q.1 70 := h.2.2.2.2.2.2.1
theorem RC_bef {q : SS} (h : RC q) : q.1 55 = q.1 71 := h.2.2.2.2.2.2.2.1
theorem RC_aft {q : SS} (h : RC q) : q.1 56 = q.1 72 := h.2.2.2.2.2.2.2.2.1
theorem RC_ok {q : SS} (h : RC q) : ∀ j : Nat, (j : Int) < (q.1 60 11).toInt + (q.1 60 12).toInt → okN (q.1 60 1).toInt (q.1 60 6).toInt (q.1 69 j).toInt (q.1 70 j).toInt ∧ okV (q.1 60 1).toInt (q.1 69 j).toInt (q.1 71 j).toInt ∧ okV (q.1 60 1).toInt (q.1 69 j).toInt (q.1 72 j).toInt := h.2.2.2.2.2.2.2.2.2
theorem RC_fr {q q' : SS} (e53 : q'.1 53 = q.1 53) (e54 : q'.1 54 = q.1 54) (e55 : q'.1 55 = q.1 55) (e56 : q'.1 56 = q.1 56) (e69 : q'.1 69 = q.1 69) (e70 : q'.1 70 = q.1 70) (e71 : q'.1 71 = q.1 71) (e72 : q'.1 72 = q.1 72) (e52_5 : q'.1 52 5 = q.1 52 5) (e52_6 : q'.1 52 6 = q.1 52 6) (e60_1 : q'.1 60 1 = q.1 60 1) (e60_6 : q'.1 60 6 = q.1 60 6) (e60_11 : q'.1 60 11 = q.1 60 11) (e60_12 : q'.1 60 12 = q.1 60 12) (h : RC q) : RC q' := by
  unfold RC at h ⊢
  simp only [e53, e54, e55, e56, e69, e70, e71, e72, e52_5, e52_6, e60_1, e60_6, e60_11, e60_12]
  exact h
def RD (q : SS) : Prop := (q.1 48 = q.1 83) ∧ (q.1 49 = q.1 86) ∧ (q.1 50 = q.1 84) ∧ (q.1 51 = q.1 85) ∧ (q.1 47 5 = q.1 60 47) ∧ (q.1 47 6 = q.1 60 48) ∧ (q.1 47 7 = q.1 60 46) ∧ (q.1 60 46 = 0 ∨ q.1 60 46 = 1) ∧ (0 ≤ (q.1 60 47).toInt) ∧ ((q.1 60 47).toInt ≤ (q.1 60 6).toInt) ∧ (0 ≤ (q.1 60 48).toInt) ∧ ((q.1 60 48).toInt ≤ 11) ∧ (∀ t : Nat, (t : Int) < (q.1 60 47).toInt → 0 ≤ (q.1 84 t).toInt ∧ (q.1 84 t).toInt < (q.1 60 1).toInt) ∧ (∀ t : Nat, (t : Int) < (q.1 60 47).toInt → 0 ≤ (q.1 85 t).toInt ∧ (q.1 85 t).toInt ≤ 4)
theorem RD_notes {q : SS} (h : RD q) : q.1 48 = q.1 83 := h.1
theorem RD_knotes {q : SS} (h : RD q) : q.1 49 = q.1 86 := h.2.1
theorem RD_kh {q : SS} (h : RD q) : q.1 50 = q.1 84 := h.2.2.1
theorem RD_kf {q : SS} (h : RD q) : q.1 51 = q.1 85 := h.2.2.2.1
theorem RD_kt {q : SS} (h : RD q) : q.1 47 5 = q.1 60 47 := h.2.2.2.2.1
theorem RD_khour {q : SS} (h : RD q) : q.1 47 6 = q.1 60 48 := h.2.2.2.2.2.1
theorem RD_img {q : SS} (h : RD q) : q.1 47 7 = q.1 60 46 := h.2.2.2.2.2.2.1
theorem RD_img01 {q : SS} (h : RD q) : q.1 60 46 = 0 ∨ q.1 60 46 = 1 := h.2.2.2.2.2.2.2.1
theorem RD_kt0 {q : SS} (h : RD q) : 0 ≤ (q.1 60 47).toInt := h.2.2.2.2.2.2.2.2.1
theorem RD_ktk {q : SS} (h : RD q) : (q.1 60 47).toInt ≤ (q.1 60 6).toInt := h.2.2.2.2.2.2.2.2.2.1
theorem RD_kh0 {q : SS} (h : RD q) : 0 ≤ (q.1 60 48).toInt := h.2.2.2.2.2.2.2.2.2.2.1
theorem RD_kh11 {q : SS} (h : RD q) : (q.1 60 48).toInt ≤ 11 := h.2.2.2.2.2.2.2.2.2.2.2.1
theorem RD_rkh {q : SS} (h : RD q) : ∀ t : Nat, (t : Int) < (q.1 60 47).toInt → 0 ≤ (q.1 84 t).toInt ∧ (q.1 84 t).toInt < (q.1 60 1).toInt := h.2.2.2.2.2.2.2.2.2.2.2.2.1
theorem RD_rkf {q : SS} (h : RD q) : ∀ t : Nat, (t : Int) < (q.1 60 47).toInt → 0 ≤ (q.1 85 t).toInt ∧ (q.1 85 t).toInt ≤ 4 := h.2.2.2.2.2.2.2.2.2.2.2.2.2
theorem RD_fr {q q' : SS} (e48 : q'.1 48 = q.1 48) (e49 : q'.1 49 = q.1 49) (e50 : q'.1 50 = q.1 50) (e51 : q'.1 51 = q.1 51) (e83 : q'.1 83 = q.1 83) (e84 : q'.1 84 = q.1 84) (e85 : q'.1 85 = q.1 85) (e86 : q'.1 86 = q.1 86) (e47_5 : q'.1 47 5 = q.1 47 5) (e47_6 : q'.1 47 6 = q.1 47 6) (e47_7 : q'.1 47 7 = q.1 47 7) (e60_1 : q'.1 60 1 = q.1 60 1) (e60_6 : q'.1 60 6 = q.1 60 6) (e60_46 : q'.1 60 46 = q.1 60 46) (e60_47 : q'.1 60 47 = q.1 60 47) (e60_48 : q'.1 60 48 = q.1 60 48) (h : RD q) : RD q' := by
  unfold RD at h ⊢
  simp only [e48, e49, e50, e51, e83, e84, e85, e86, e47_5, e47_6, e47_7, e60_1, e60_6, e60_46, e60_47, e60_48]
  exact h
def RT (q : SS) : Prop := (q.1 17 2 = q.1 60 18) ∧ (0 ≤ (q.1 60 18).toInt) ∧ ((q.1 60 18).toInt ≤ 120) ∧ (∀ i : Nat, (i : Int) < (q.1 60 18).toInt → 0 ≤ (q.1 18 i).toInt ∧ (q.1 18 i).toInt ≤ 255) ∧ (∀ i : Nat, (i : Int) < (q.1 60 18).toInt → q.1 73 i = (q.1 18 i).toInt8.toInt32)
theorem RT_len {q : SS} (h : RT q) : q.1 17 2 = q.1 60 18 := h.1
theorem RT_l0 {q : SS} (h : RT q) : 0 ≤ (q.1 60 18).toInt := h.2.1
theorem RT_l120 {q : SS} (h : RT q) : (q.1 60 18).toInt ≤ 120 := h.2.2.1
theorem RT_byte {q : SS} (h : RT q) : ∀ i : Nat, (i : Int) < (q.1 60 18).toInt → 0 ≤ (q.1 18 i).toInt ∧ (q.1 18 i).toInt ≤ 255 := h.2.2.2.1
theorem RT_tape {q : SS} (h : RT q) : ∀ i : Nat, (i : Int) < (q.1 60 18).toInt → q.1 73 i = (q.1 18 i).toInt8.toInt32 := h.2.2.2.2
theorem RT_fr {q q' : SS} (e18 : q'.1 18 = q.1 18) (e73 : q'.1 73 = q.1 73) (e17_2 : q'.1 17 2 = q.1 17 2) (e60_18 : q'.1 60 18 = q.1 60 18) (h : RT q) : RT q' := by
  unfold RT at h ⊢
  simp only [e18, e73, e17_2, e60_18]
  exact h
def RH (q : SS) : Prop := (q.1 57 2 = q.1 60 52) ∧ (0 ≤ (q.1 60 52).toInt) ∧ ((q.1 60 52).toInt ≤ 50) ∧ (q.1 58 = q.1 87) ∧ (∀ b : Nat, (b : Int) < (q.1 60 52).toInt → 0 ≤ (q.1 87 b).toInt ∧ (q.1 87 b).toInt ≤ 7) ∧ (q.1 57 3 = q.1 60 54) ∧ (0 ≤ (q.1 60 54).toInt) ∧ (q.1 59 = q.1 88)
theorem RH_bodies {q : SS} (h : RH q) : q.1 57 2 = q.1 60 52 := h.1
theorem RH_b0 {q : SS} (h : RH q) : 0 ≤ (q.1 60 52).toInt := h.2.1
theorem RH_b50 {q : SS} (h : RH q) : (q.1 60 52).toInt ≤ 50 := h.2.2.1
theorem RH_kind {q : SS} (h : RH q) : q.1 58 = q.1 87 := h.2.2.2.1
theorem RH_rkind {q : SS} (h : RH q) : ∀ b : Nat, (b : Int) < (q.1 60 52).toInt → 0 ≤ (q.1 87 b).toInt ∧ (q.1 87 b).toInt ≤ 7 := h.2.2.2.2.1
theorem RH_ran {q : SS} (h : RH q) : q.1 57 3 = q.1 60 54 := h.2.2.2.2.2.1
theorem RH_r0 {q : SS} (h : RH q) : 0 ≤ (q.1 60 54).toInt := h.2.2.2.2.2.2.1
theorem RH_trace {q : SS} (h : RH q) : q.1 59 = q.1 88 := h.2.2.2.2.2.2.2
theorem RH_fr {q q' : SS} (e58 : q'.1 58 = q.1 58) (e59 : q'.1 59 = q.1 59) (e87 : q'.1 87 = q.1 87) (e88 : q'.1 88 = q.1 88) (e57_2 : q'.1 57 2 = q.1 57 2) (e57_3 : q'.1 57 3 = q.1 57 3) (e60_52 : q'.1 60 52 = q.1 60 52) (e60_54 : q'.1 60 54 = q.1 60 54) (h : RH q) : RH q' := by
  unfold RH at h ⊢
  simp only [e58, e59, e87, e88, e57_2, e57_3, e60_52, e60_54]
  exact h
def RS (q : SS) : Prop := (q.1 28 = q.1 90) ∧ (∀ s : Nat, s < 6 → 0 ≤ (q.1 90 s).toInt ∧ (q.1 90 s).toInt ≤ 60) ∧ (∀ s : Nat, s < 6 → (q.1 27 s = -2 ∧ q.1 89 s = -1) ∨ (q.1 27 s = -1 ∧ q.1 89 s = q.1 29 s ∧ 0 ≤ (q.1 89 s).toInt ∧ (q.1 89 s).toInt < (q.1 60 52).toInt) ∨ (0 ≤ (q.1 27 s).toInt ∧ (q.1 27 s).toInt ≤ 4 ∧ (q.1 89 s).toInt = -2 - (q.1 27 s).toInt)) ∧ (∀ s : Nat, s < 6 → 0 ≤ (q.1 27 s).toInt → ∀ i : Nat, (i : Int) < (q.1 90 s).toInt → q.2 (31 + s) i = q.2 91 (60 * s + i))
theorem RS_size {q : SS} (h : RS q) : q.1 28 = q.1 90 := h.1
theorem RS_size0 {q : SS} (h : RS q) : ∀ s : Nat, s < 6 → 0 ≤ (q.1 90 s).toInt ∧ (q.1 90 s).toInt ≤ 60 := h.2.1
theorem RS_shelf {q : SS} (h : RS q) : ∀ s : Nat, s < 6 → (q.1 27 s = -2 ∧ q.1 89 s = -1) ∨ (q.1 27 s = -1 ∧ q.1 89 s = q.1 29 s ∧ 0 ≤ (q.1 89 s).toInt ∧ (q.1 89 s).toInt < (q.1 60 52).toInt) ∨ (0 ≤ (q.1 27 s).toInt ∧ (q.1 27 s).toInt ≤ 4 ∧ (q.1 89 s).toInt = -2 - (q.1 27 s).toInt) := h.2.2.1
theorem RS_el {q : SS} (h : RS q) : ∀ s : Nat, s < 6 → 0 ≤ (q.1 27 s).toInt → ∀ i : Nat, (i : Int) < (q.1 90 s).toInt → q.2 (31 + s) i = q.2 91 (60 * s + i) := h.2.2.2
theorem RS_fr {q q' : SS} (e27 : q'.1 27 = q.1 27) (e28 : q'.1 28 = q.1 28) (e29 : q'.1 29 = q.1 29) (e89 : q'.1 89 = q.1 89) (e90 : q'.1 90 = q.1 90) (e60_52 : q'.1 60 52 = q.1 60 52) (l91 : q'.2 91 = q.2 91) (l31 : ∀ s, s < 6 → q'.2 (31 + s) = q.2 (31 + s)) (h : RS q) : RS q' := by
  unfold RS at h ⊢
  rw [e27, e28, e29, e89, e90, e60_52]
  obtain ⟨h1, h2, h3, h4⟩ := h
  refine ⟨h1, h2, h3, fun s hs h0 i hi => ?_⟩
  rw [l31 s hs, l91]
  exact h4 s hs h0 i hi
def RW (q : SS) : Prop := (q.1 60 30 = 0 ∨ q.1 60 30 = 1) ∧ (q.1 60 30 = 1 → 0 ≤ (q.1 76 0).toInt ∧ (q.1 76 0).toInt ≤ 61) ∧ (q.1 60 30 = 1 → ∀ l : Nat, (l : Int) < (q.1 76 0).toInt → okLine (q.1 74) (q.1 75) (if l = 0 then 0 else (q.1 78 (l - 1)).toInt) (q.1 77 l).toInt (q.1 78 l).toInt)
theorem RW_told {q : SS} (h : RW q) : q.1 60 30 = 0 ∨ q.1 60 30 = 1 := h.1
theorem RW_m {q : SS} (h : RW q) : q.1 60 30 = 1 → 0 ≤ (q.1 76 0).toInt ∧ (q.1 76 0).toInt ≤ 61 := h.2.1
theorem RW_line {q : SS} (h : RW q) : q.1 60 30 = 1 → ∀ l : Nat, (l : Int) < (q.1 76 0).toInt → okLine (q.1 74) (q.1 75) (if l = 0 then 0 else (q.1 78 (l - 1)).toInt) (q.1 77 l).toInt (q.1 78 l).toInt := h.2.2
theorem RW_fr {q q' : SS} (e74 : q'.1 74 = q.1 74) (e75 : q'.1 75 = q.1 75) (e77 : q'.1 77 = q.1 77) (e78 : q'.1 78 = q.1 78) (e60_30 : q'.1 60 30 = q.1 60 30) (e76_0 : q'.1 76 0 = q.1 76 0) (h : RW q) : RW q' := by
  unfold RW at h ⊢
  simp only [e74, e75, e77, e78, e60_30, e76_0]
  exact h
def RJ (q : SS) : Prop := (0 ≤ (q.1 37 3).toInt) ∧ ((q.1 37 3).toInt ≤ 12) ∧ (∀ t : Nat, t < 12 → 0 ≤ (q.1 81 t).toInt ∧ (q.1 81 t).toInt ≤ 5)
theorem RJ_e0 {q : SS} (h : RJ q) : 0 ≤ (q.1 37 3).toInt := h.1
theorem RJ_e12 {q : SS} (h : RJ q) : (q.1 37 3).toInt ≤ 12 := h.2.1
theorem RJ_h1 {q : SS} (h : RJ q) : ∀ t : Nat, t < 12 → 0 ≤ (q.1 81 t).toInt ∧ (q.1 81 t).toInt ≤ 5 := h.2.2
theorem RJ_fr {q q' : SS} (e81 : q'.1 81 = q.1 81) (e37_3 : q'.1 37 3 = q.1 37 3) (h : RJ q) : RJ q' := by
  unfold RJ at h ⊢
  simp only [e81, e37_3]
  exact h
def INV (q : SS) : Prop := RY q ∧ RC q ∧ RD q ∧ RT q ∧ RH q ∧ RS q ∧ RW q ∧ RJ q
theorem INV_RY {q : SS} (h : INV q) : RY q := h.1
theorem INV_RC {q : SS} (h : INV q) : RC q := h.2.1
theorem INV_RD {q : SS} (h : INV q) : RD q := h.2.2.1
theorem INV_RT {q : SS} (h : INV q) : RT q := h.2.2.2.1
theorem INV_RH {q : SS} (h : INV q) : RH q := h.2.2.2.2.1
theorem INV_RS {q : SS} (h : INV q) : RS q := h.2.2.2.2.2.1
theorem INV_RW {q : SS} (h : INV q) : RW q := h.2.2.2.2.2.2.1
theorem INV_RJ {q : SS} (h : INV q) : RJ q := h.2.2.2.2.2.2.2
/-! frames: which cells a call may write -/
def Fr (w : Nat → Nat → Bool) (v : Nat → Bool) (q q' : SS) : Prop := (∀ k i, w k i = false → q'.1 k i = q.1 k i) ∧ (∀ k, v k = false → q'.2 k = q.2 k)
def wE (k i : Nat) : Bool := k == 15 || k == 16 || (k == 12 && i == 5)
def v0 (_ : Nat) : Bool := false
def wX (k i : Nat) : Bool := wE k i || k == 25 || (Nat.ble 37 k && Nat.ble k 46)
def vX (k : Nat) : Bool := k == 37 || k == 39
def wF (k _ : Nat) : Bool := k == 79 || k == 80
def wM (k i : Nat) : Bool := wF k i || k == 81 || k == 82 || (k == 60 && (Nat.ble 32 i && Nat.ble i 44))
def vM (k : Nat) : Bool := k == 60
theorem Fr_refl {w : Nat → Nat → Bool} {v : Nat → Bool} (q : SS) : Fr w v q q := ⟨fun _ _ _ => rfl, fun _ _ => rfl⟩
theorem Fr_tr {w : Nat → Nat → Bool} {v : Nat → Bool} {a b c : SS} (h : Fr w v a b) (g : Fr w v b c) : Fr w v a c := ⟨fun k i e => (g.1 k i e).trans (h.1 k i e), fun k e => (g.2 k e).trans (h.2 k e)⟩
theorem Fr_sI {w : Nat → Nat → Bool} {v : Nat → Bool} {a b : SS} {k i : Nat} {x : Int32} (h : Fr w v a b) (hw : w k i = true) : Fr w v a (sI b k i x) := by
  refine ⟨fun k2 i2 e => ?_, h.2⟩
  rw [sI_rd, if_neg]
  · exact h.1 k2 i2 e
  · rintro ⟨rfl, rfl⟩
    rw [hw] at e
    cases e
theorem Fr_sL {w : Nat → Nat → Bool} {v : Nat → Bool} {a b : SS} {k i : Nat} {x : Int64} (h : Fr w v a b) (hw : v k = true) : Fr w v a (sL b k i x) := by
  refine ⟨h.1, fun k2 e => ?_⟩
  rw [sL_ro]
  · exact h.2 k2 e
  · rintro rfl
    rw [hw] at e
    cases e
theorem Fr_le {w w' : Nat → Nat → Bool} {v v' : Nat → Bool} {a b : SS} (h : Fr w v a b) (hw : ∀ k i, w' k i = false → w k i = false) (hv : ∀ k, v' k = false → v k = false) : Fr w' v' a b := ⟨fun k i e => h.1 k i (hw k i e), fun k e => h.2 k (hv k e)⟩
theorem Fr_r {w : Nat → Nat → Bool} {v : Nat → Bool} {a b : SS} (h : Fr w v a b) {k : Nat} (hk : ∀ i, w k i = false) : b.1 k = a.1 k := funext fun i => h.1 k i (hk i)
theorem Fr_EX {a b : SS} (h : Fr wE v0 a b) : Fr wX vX a b := Fr_le h (fun k i e => by unfold wX at e; simp only [Bool.or_eq_false_iff] at e; exact e.1.1) (fun _ _ => rfl)
theorem Fr_FM {a b : SS} (h : Fr wF v0 a b) : Fr wM vM a b := Fr_le h (fun k i e => by unfold wM at e; simp only [Bool.or_eq_false_iff] at e; exact e.1.1.1) (fun _ _ => rfl)
theorem RY_wE {q q' : SS} (f : Fr wE v0 q q') (h : RY q) : RY q' := RY_fr (Fr_r f fun _ => rfl) (Fr_r f fun _ => rfl) (Fr_r f fun _ => rfl) (Fr_r f fun _ => rfl) (Fr_r f fun _ => rfl) (Fr_r f fun _ => rfl) (Fr_r f fun _ => rfl) (Fr_r f fun _ => rfl) (Fr_r f fun _ => rfl) (Fr_r f fun _ => rfl) (Fr_r f fun _ => rfl) (Fr_r f fun _ => rfl) (Fr_r f fun _ => rfl) (Fr_r f fun _ => rfl) (f.1 _ _ rfl) (f.1 _ _ rfl) (f.1 _ _ rfl) (f.1 _ _ rfl) (f.1 _ _ rfl) (f.1 _ _ rfl) (f.1 _ _ rfl) (f.1 _ _ rfl) h
theorem RC_wE {q q' : SS} (f : Fr wE v0 q q') (h : RC q) : RC q' := RC_fr (Fr_r f fun _ => rfl) (Fr_r f fun _ => rfl) (Fr_r f fun _ => rfl) (Fr_r f fun _ => rfl) (Fr_r f fun _ => rfl) (Fr_r f fun _ => rfl) (Fr_r f fun _ => rfl) (Fr_r f fun _ => rfl) (f.1 _ _ rfl) (f.1 _ _ rfl) (f.1 _ _ rfl) (f.1 _ _ rfl) (f.1 _ _ rfl) (f.1 _ _ rfl) h
theorem RD_wE {q q' : SS} (f : Fr wE v0 q q') (h : RD q) : RD q' := RD_fr (Fr_r f fun _ => rfl) (Fr_r f fun _ => rfl) (Fr_r f fun _ => rfl) (Fr_r f fun _ => rfl) (Fr_r f fun _ => rfl) (Fr_r f fun _ => rfl) (Fr_r f fun _ => rfl) (Fr_r f fun _ => rfl) (f.1 _ _ rfl) (f.1 _ _ rfl) (f.1 _ _ rfl) (f.1 _ _ rfl) (f.1 _ _ rfl) (f.1 _ _ rfl) (f.1 _ _ rfl) (f.1 _ _ rfl) h
theorem RT_wE {q q' : SS} (f : Fr wE v0 q q') (h : RT q) : RT q' := RT_fr (Fr_r f fun _ => rfl) (Fr_r f fun _ => rfl) (f.1 _ _ rfl) (f.1 _ _ rfl) h
theorem RH_wE {q q' : SS} (f : Fr wE v0 q q') (h : RH q) : RH q' := RH_fr (Fr_r f fun _ => rfl) (Fr_r f fun _ => rfl) (Fr_r f fun _ => rfl) (Fr_r f fun _ => rfl) (f.1 _ _ rfl) (f.1 _ _ rfl) (f.1 _ _ rfl) (f.1 _ _ rfl) h
theorem RS_wE {q q' : SS} (f : Fr wE v0 q q') (h : RS q) : RS q' := RS_fr (Fr_r f fun _ => rfl) (Fr_r f fun _ => rfl) (Fr_r f fun _ => rfl) (Fr_r f fun _ => rfl) (Fr_r f fun _ => rfl) (f.1 _ _ rfl) (f.2 _ rfl) (fun s hs => f.2 _ (by rcases s6 hs with rfl | rfl | rfl | rfl | rfl | rfl <;> rfl)) h
theorem RW_wE {q q' : SS} (f : Fr wE v0 q q') (h : RW q) : RW q' := RW_fr (Fr_r f fun _ => rfl) (Fr_r f fun _ => rfl) (Fr_r f fun _ => rfl) (Fr_r f fun _ => rfl) (f.1 _ _ rfl) (f.1 _ _ rfl) h
theorem RJ_wE {q q' : SS} (f : Fr wE v0 q q') (h : RJ q) : RJ q' := RJ_fr (Fr_r f fun _ => rfl) (f.1 _ _ rfl) h
theorem RY_wX {q q' : SS} (f : Fr wX vX q q') (h : RY q) : RY q' := RY_fr (Fr_r f fun _ => rfl) (Fr_r f fun _ => rfl) (Fr_r f fun _ => rfl) (Fr_r f fun _ => rfl) (Fr_r f fun _ => rfl) (Fr_r f fun _ => rfl) (Fr_r f fun _ => rfl) (Fr_r f fun _ => rfl) (Fr_r f fun _ => rfl) (Fr_r f fun _ => rfl) (Fr_r f fun _ => rfl) (Fr_r f fun _ => rfl) (Fr_r f fun _ => rfl) (Fr_r f fun _ => rfl) (f.1 _ _ rfl) (f.1 _ _ rfl) (f.1 _ _ rfl) (f.1 _ _ rfl) (f.1 _ _ rfl) (f.1 _ _ rfl) (f.1 _ _ rfl) (f.1 _ _ rfl) h
theorem RC_wX {q q' : SS} (f : Fr wX vX q q') (h : RC q) : RC q' := RC_fr (Fr_r f fun _ => rfl) (Fr_r f fun _ => rfl) (Fr_r f fun _ => rfl) (Fr_r f fun _ => rfl) (Fr_r f fun _ => rfl) (Fr_r f fun _ => rfl) (Fr_r f fun _ => rfl) (Fr_r f fun _ => rfl) (f.1 _ _ rfl) (f.1 _ _ rfl) (f.1 _ _ rfl) (f.1 _ _ rfl) (f.1 _ _ rfl) (f.1 _ _ rfl) h
theorem RD_wX {q q' : SS} (f : Fr wX vX q q') (h : RD q) : RD q' := RD_fr (Fr_r f fun _ => rfl) (Fr_r f fun _ => rfl) (Fr_r f fun _ => rfl) (Fr_r f fun _ => rfl) (Fr_r f fun _ => rfl) (Fr_r f fun _ => rfl) (Fr_r f fun _ => rfl) (Fr_r f fun _ => rfl) (f.1 _ _ rfl) (f.1 _ _ rfl) (f.1 _ _ rfl) (f.1 _ _ rfl) (f.1 _ _ rfl) (f.1 _ _ rfl) (f.1 _ _ rfl) (f.1 _ _ rfl) h
theorem RT_wX {q q' : SS} (f : Fr wX vX q q') (h : RT q) : RT q' := RT_fr (Fr_r f fun _ => rfl) (Fr_r f fun _ => rfl) (f.1 _ _ rfl) (f.1 _ _ rfl) h
theorem RH_wX {q q' : SS} (f : Fr wX vX q q') (h : RH q) : RH q' := RH_fr (Fr_r f fun _ => rfl) (Fr_r f fun _ => rfl) (Fr_r f fun _ => rfl) (Fr_r f fun _ => rfl) (f.1 _ _ rfl) (f.1 _ _ rfl) (f.1 _ _ rfl) (f.1 _ _ rfl) h
theorem RS_wX {q q' : SS} (f : Fr wX vX q q') (h : RS q) : RS q' := RS_fr (Fr_r f fun _ => rfl) (Fr_r f fun _ => rfl) (Fr_r f fun _ => rfl) (Fr_r f fun _ => rfl) (Fr_r f fun _ => rfl) (f.1 _ _ rfl) (f.2 _ rfl) (fun s hs => f.2 _ (by rcases s6 hs with rfl | rfl | rfl | rfl | rfl | rfl <;> rfl)) h
theorem RW_wX {q q' : SS} (f : Fr wX vX q q') (h : RW q) : RW q' := RW_fr (Fr_r f fun _ => rfl) (Fr_r f fun _ => rfl) (Fr_r f fun _ => rfl) (Fr_r f fun _ => rfl) (f.1 _ _ rfl) (f.1 _ _ rfl) h
theorem RY_wF {q q' : SS} (f : Fr wF v0 q q') (h : RY q) : RY q' := RY_fr (Fr_r f fun _ => rfl) (Fr_r f fun _ => rfl) (Fr_r f fun _ => rfl) (Fr_r f fun _ => rfl) (Fr_r f fun _ => rfl) (Fr_r f fun _ => rfl) (Fr_r f fun _ => rfl) (Fr_r f fun _ => rfl) (Fr_r f fun _ => rfl) (Fr_r f fun _ => rfl) (Fr_r f fun _ => rfl) (Fr_r f fun _ => rfl) (Fr_r f fun _ => rfl) (Fr_r f fun _ => rfl) (f.1 _ _ rfl) (f.1 _ _ rfl) (f.1 _ _ rfl) (f.1 _ _ rfl) (f.1 _ _ rfl) (f.1 _ _ rfl) (f.1 _ _ rfl) (f.1 _ _ rfl) h
theorem RC_wF {q q' : SS} (f : Fr wF v0 q q') (h : RC q) : RC q' := RC_fr (Fr_r f fun _ => rfl) (Fr_r f fun _ => rfl) (Fr_r f fun _ => rfl) (Fr_r f fun _ => rfl) (Fr_r f fun _ => rfl) (Fr_r f fun _ => rfl) (Fr_r f fun _ => rfl) (Fr_r f fun _ => rfl) (f.1 _ _ rfl) (f.1 _ _ rfl) (f.1 _ _ rfl) (f.1 _ _ rfl) (f.1 _ _ rfl) (f.1 _ _ rfl) h
theorem RD_wF {q q' : SS} (f : Fr wF v0 q q') (h : RD q) : RD q' := RD_fr (Fr_r f fun _ => rfl) (Fr_r f fun _ => rfl) (Fr_r f fun _ => rfl) (Fr_r f fun _ => rfl) (Fr_r f fun _ => rfl) (Fr_r f fun _ => rfl) (Fr_r f fun _ => rfl) (Fr_r f fun _ => rfl) (f.1 _ _ rfl) (f.1 _ _ rfl) (f.1 _ _ rfl) (f.1 _ _ rfl) (f.1 _ _ rfl) (f.1 _ _ rfl) (f.1 _ _ rfl) (f.1 _ _ rfl) h
theorem RT_wF {q q' : SS} (f : Fr wF v0 q q') (h : RT q) : RT q' := RT_fr (Fr_r f fun _ => rfl) (Fr_r f fun _ => rfl) (f.1 _ _ rfl) (f.1 _ _ rfl) h
theorem RH_wF {q q' : SS} (f : Fr wF v0 q q') (h : RH q) : RH q' := RH_fr (Fr_r f fun _ => rfl) (Fr_r f fun _ => rfl) (Fr_r f fun _ => rfl) (Fr_r f fun _ => rfl) (f.1 _ _ rfl) (f.1 _ _ rfl) (f.1 _ _ rfl) (f.1 _ _ rfl) h
theorem RS_wF {q q' : SS} (f : Fr wF v0 q q') (h : RS q) : RS q' := RS_fr (Fr_r f fun _ => rfl) (Fr_r f fun _ => rfl) (Fr_r f fun _ => rfl) (Fr_r f fun _ => rfl) (Fr_r f fun _ => rfl) (f.1 _ _ rfl) (f.2 _ rfl) (fun s hs => f.2 _ (by rcases s6 hs with rfl | rfl | rfl | rfl | rfl | rfl <;> rfl)) h
theorem RW_wF {q q' : SS} (f : Fr wF v0 q q') (h : RW q) : RW q' := RW_fr (Fr_r f fun _ => rfl) (Fr_r f fun _ => rfl) (Fr_r f fun _ => rfl) (Fr_r f fun _ => rfl) (f.1 _ _ rfl) (f.1 _ _ rfl) h
theorem RJ_wF {q q' : SS} (f : Fr wF v0 q q') (h : RJ q) : RJ q' := RJ_fr (Fr_r f fun _ => rfl) (f.1 _ _ rfl) h
theorem RY_wM {q q' : SS} (f : Fr wM vM q q') (h : RY q) : RY q' := RY_fr (Fr_r f fun _ => rfl) (Fr_r f fun _ => rfl) (Fr_r f fun _ => rfl) (Fr_r f fun _ => rfl) (Fr_r f fun _ => rfl) (Fr_r f fun _ => rfl) (Fr_r f fun _ => rfl) (Fr_r f fun _ => rfl) (Fr_r f fun _ => rfl) (Fr_r f fun _ => rfl) (Fr_r f fun _ => rfl) (Fr_r f fun _ => rfl) (Fr_r f fun _ => rfl) (Fr_r f fun _ => rfl) (f.1 _ _ rfl) (f.1 _ _ rfl) (f.1 _ _ rfl) (f.1 _ _ rfl) (f.1 _ _ rfl) (f.1 _ _ rfl) (f.1 _ _ rfl) (f.1 _ _ rfl) h
theorem RC_wM {q q' : SS} (f : Fr wM vM q q') (h : RC q) : RC q' := RC_fr (Fr_r f fun _ => rfl) (Fr_r f fun _ => rfl) (Fr_r f fun _ => rfl) (Fr_r f fun _ => rfl) (Fr_r f fun _ => rfl) (Fr_r f fun _ => rfl) (Fr_r f fun _ => rfl) (Fr_r f fun _ => rfl) (f.1 _ _ rfl) (f.1 _ _ rfl) (f.1 _ _ rfl) (f.1 _ _ rfl) (f.1 _ _ rfl) (f.1 _ _ rfl) h
theorem RD_wM {q q' : SS} (f : Fr wM vM q q') (h : RD q) : RD q' := RD_fr (Fr_r f fun _ => rfl) (Fr_r f fun _ => rfl) (Fr_r f fun _ => rfl) (Fr_r f fun _ => rfl) (Fr_r f fun _ => rfl) (Fr_r f fun _ => rfl) (Fr_r f fun _ => rfl) (Fr_r f fun _ => rfl) (f.1 _ _ rfl) (f.1 _ _ rfl) (f.1 _ _ rfl) (f.1 _ _ rfl) (f.1 _ _ rfl) (f.1 _ _ rfl) (f.1 _ _ rfl) (f.1 _ _ rfl) h
theorem RT_wM {q q' : SS} (f : Fr wM vM q q') (h : RT q) : RT q' := RT_fr (Fr_r f fun _ => rfl) (Fr_r f fun _ => rfl) (f.1 _ _ rfl) (f.1 _ _ rfl) h
theorem RH_wM {q q' : SS} (f : Fr wM vM q q') (h : RH q) : RH q' := RH_fr (Fr_r f fun _ => rfl) (Fr_r f fun _ => rfl) (Fr_r f fun _ => rfl) (Fr_r f fun _ => rfl) (f.1 _ _ rfl) (f.1 _ _ rfl) (f.1 _ _ rfl) (f.1 _ _ rfl) h
theorem RS_wM {q q' : SS} (f : Fr wM vM q q') (h : RS q) : RS q' := RS_fr (Fr_r f fun _ => rfl) (Fr_r f fun _ => rfl) (Fr_r f fun _ => rfl) (Fr_r f fun _ => rfl) (Fr_r f fun _ => rfl) (f.1 _ _ rfl) (f.2 _ rfl) (fun s hs => f.2 _ (by rcases s6 hs with rfl | rfl | rfl | rfl | rfl | rfl <;> rfl)) h
theorem RW_wM {q q' : SS} (f : Fr wM vM q q') (h : RW q) : RW q' := RW_fr (Fr_r f fun _ => rfl) (Fr_r f fun _ => rfl) (Fr_r f fun _ => rfl) (Fr_r f fun _ => rfl) (f.1 _ _ rfl) (f.1 _ _ rfl) h
theorem INV_wE {q q' : SS} (f : Fr wE v0 q q') (h : INV q) : INV q' := ⟨RY_wE f h.1, RC_wE f h.2.1, RD_wE f h.2.2.1, RT_wE f h.2.2.2.1, RH_wE f h.2.2.2.2.1, RS_wE f h.2.2.2.2.2.1, RW_wE f h.2.2.2.2.2.2.1, RJ_wE f h.2.2.2.2.2.2.2⟩
theorem INV_wF {q q' : SS} (f : Fr wF v0 q q') (h : INV q) : INV q' := ⟨RY_wF f h.1, RC_wF f h.2.1, RD_wF f h.2.2.1, RT_wF f h.2.2.2.1, RH_wF f h.2.2.2.2.1, RS_wF f h.2.2.2.2.2.1, RW_wF f h.2.2.2.2.2.2.1, RJ_wF f h.2.2.2.2.2.2.2⟩
theorem INV_wX {q q' : SS} (f : Fr wX vX q q') (g : RJ q') (h : INV q) : INV q' := ⟨RY_wX f h.1, RC_wX f h.2.1, RD_wX f h.2.2.1, RT_wX f h.2.2.2.1, RH_wX f h.2.2.2.2.1, RS_wX f h.2.2.2.2.2.1, RW_wX f h.2.2.2.2.2.2.1, g⟩
theorem INV_wM {q q' : SS} (f : Fr wM vM q q') (g : RJ q') (h : INV q) : INV q' := ⟨RY_wM f h.1, RC_wM f h.2.1, RD_wM f h.2.2.1, RT_wM f h.2.2.2.1, RH_wM f h.2.2.2.2.1, RS_wM f h.2.2.2.2.2.1, RW_wM f h.2.2.2.2.2.2.1, g⟩
