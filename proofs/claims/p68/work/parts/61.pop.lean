/-! the number of bits -/
theorem nx_and (a b : Nat) : nI a &&& nI b = nI (a &&& b) := by
  apply Int32.toBitVec_inj.1
  show BitVec.ofNat 32 a &&& BitVec.ofNat 32 b = BitVec.ofNat 32 (a &&& b)
  apply BitVec.eq_of_getLsbD_eq
  intro i hi
  simp [hi]
def pB1 (n : Nat) : Nat := n - (n / 2 &&& 1431655765)
def pB2 (n : Nat) : Nat := (n &&& 858993459) + (n / 4 &&& 858993459)
def pB3 (n : Nat) : Nat := (n + n / 16) &&& 252645135
def pB4 (n : Nat) : Nat := n + n / 256
def pB5 (n : Nat) : Nat := (n + n / 65536) &&& 63
theorem and_le9 (a b : Nat) : a &&& b ≤ a := Nat.and_le_left
theorem jB1_n {n : Nat} (h : n < 2 ^ 32) : jB1 (nI n) = nI (pB1 n) := by
  unfold jB1 jSr pB1
  rw [pk_ushrN h 1 1 (by decide +kernel), show (1431655765 : Int32) = nI 1431655765 from rfl, nx_and, pk_sub]
  have := and_le9 (n / 2 ^ 1) 1431655765
  omega
theorem jB2_n {n : Nat} (h : n < 2 ^ 32) : jB2 (nI n) = nI (pB2 n) := by
  unfold jB2 jSr pB2
  rw [pk_ushrN h 2 2 (by decide +kernel), show (858993459 : Int32) = nI 858993459 from rfl, nx_and, nx_and, nI_add]
theorem jB3_n {n : Nat} (h : n < 2 ^ 32) : jB3 (nI n) = nI (pB3 n) := by
  unfold jB3 jSr pB3
  rw [pk_ushrN h 4 4 (by decide +kernel), nI_add, show (252645135 : Int32) = nI 252645135 from rfl, nx_and]
theorem jB4_n {n : Nat} (h : n < 2 ^ 32) : jB4 (nI n) = nI (pB4 n) := by
  unfold jB4 jSr pB4
  rw [pk_ushrN h 8 8 (by decide +kernel), nI_add]
theorem jB5_n {n : Nat} (h : n < 2 ^ 32) : jB5 (nI n) = nI (pB5 n) := by
  unfold jB5 jSr pB5
  rw [pk_ushrN h 16 16 (by decide +kernel), nI_add, show (63 : Int32) = nI 63 from rfl, nx_and]
theorem and_spl {x0 m0 : Nat} (x1 m1 : Nat) (h1 : x0 < 256) (h2 : m0 < 256) : (x0 + 256 * x1) &&& (m0 + 256 * m1) = (x0 &&& m0) + 256 * (x1 &&& m1) := by
  have h3 : x0 &&& m0 < 2 ^ 8 := Nat.and_lt_two_pow _ h2
  apply Nat.eq_of_testBit_eq
  intro i
  rw [Nat.testBit_and, Nat.add_comm x0, Nat.add_comm m0, Nat.add_comm (x0 &&& m0), show (256 : Nat) = 2 ^ 8 from rfl, Nat.testBit_two_pow_mul_add _ h1, Nat.testBit_two_pow_mul_add _ h2, Nat.testBit_two_pow_mul_add _ h3]
  by_cases hi : i < 8
  · rw [if_pos hi, if_pos hi, if_pos hi, Nat.testBit_and]
  · rw [if_neg hi, if_neg hi, if_neg hi, Nat.testBit_and]
theorem all4096 {P : Nat → Prop} (h : ∀ i, i < 64 → ∀ j, j < 64 → P (64 * i + j)) : ∀ c, c < 4096 → P c := by
  intro c hc
  have h1 := h (c / 64) (by omega) (c % 64) (Nat.mod_lt _ (by decide))
  rw [Nat.div_add_mod] at h1
  exact h1
theorem q1a : ∀ a, a < 256 → ∀ d, d < 2 → (a / 2 + 128 * d) &&& 85 = a / 2 &&& 1431655765 := by decide +kernel
theorem q1c : ∀ c, c < 4096 → c / 2 &&& 5592405 = c / 2 &&& 1431655765 := all4096 (by decide +kernel)
theorem pB1_s {a c : Nat} (ha : a < 256) (hc : c < 4096) : pB1 (a + 256 * c) = pB1 a + 256 * pB1 c := by
  unfold pB1
  have e : (a + 256 * c) / 2 = (a / 2 + 128 * (c % 2)) + 256 * (c / 2) := by omega
  rw [e, show (1431655765 : Nat) = 85 + 256 * 5592405 from rfl, and_spl _ _ (by omega) (by decide), show (85 + 256 * 5592405 : Nat) = 1431655765 from rfl, q1a a ha _ (Nat.mod_lt _ (by decide)), q1c c hc]
  have h1 := and_le9 (a / 2) 1431655765
  have h2 := and_le9 (c / 2) 1431655765
  omega
theorem q2a : ∀ a, a < 256 → (a &&& 51 = a &&& 858993459) ∧ ∀ d, d < 4 → (a / 4 + 64 * d) &&& 51 = a / 4 &&& 858993459 := by decide +kernel
theorem q2c : ∀ c, c < 4096 → c &&& 3355443 = c &&& 858993459 ∧ c / 4 &&& 3355443 = c / 4 &&& 858993459 := all4096 (by decide +kernel)
theorem pB2_s {a c : Nat} (ha : a < 256) (hc : c < 4096) : pB2 (a + 256 * c) = pB2 a + 256 * pB2 c := by
  unfold pB2
  have e : (a + 256 * c) / 4 = (a / 4 + 64 * (c % 4)) + 256 * (c / 4) := by omega
  rw [e, show (858993459 : Nat) = 51 + 256 * 3355443 from rfl, and_spl _ _ ha (by decide), and_spl _ _ (by omega) (by decide), show (51 + 256 * 3355443 : Nat) = 858993459 from rfl, (q2a a ha).1, (q2a a ha).2 _ (Nat.mod_lt _ (by decide)), (q2c c hc).1, (q2c c hc).2]
  omega
theorem q3a : ∀ a, a < 69 → ∀ d, d < 5 → (a + a / 16 + 16 * d) &&& 15 = (a + a / 16) &&& 252645135 := by decide +kernel
theorem q3c : ∀ c, c < 4096 → (c + c / 16) &&& 986895 = (c + c / 16) &&& 252645135 := all4096 (by decide +kernel)
theorem pB3_s {a c : Nat} (ha : a < 69) (hc : c < 4096) (hd : c % 16 < 5) : pB3 (a + 256 * c) = pB3 a + 256 * pB3 c := by
  unfold pB3
  have e : a + 256 * c + (a + 256 * c) / 16 = (a + a / 16 + 16 * (c % 16)) + 256 * (c + c / 16) := by omega
  rw [e, show (252645135 : Nat) = 15 + 256 * 986895 from rfl, and_spl _ _ (by omega) (by decide), show (15 + 256 * 986895 : Nat) = 252645135 from rfl, q3a a ha _ hd, q3c c hc]
def pP3 (n : Nat) : Nat := pB3 (pB2 (pB1 n))
def pPc (n : Nat) : Nat := pB5 (pB4 (pP3 n))
theorem pa_c : ∀ a, a < 256 → (pB1 a < 256 ∧ pB2 (pB1 a) < 69 ∧ pP3 a < 9) ∧ pPc a = cF (fun k => a.testBit k) 8 0 := by decide +kernel
theorem pc_c : ∀ c, c < 4096 → (pB1 c < 4096 ∧ pB2 (pB1 c) < 4096 ∧ pB2 (pB1 c) % 16 < 5 ∧ pP3 c % 256 < 9 ∧ pP3 c / 256 < 5) ∧ pPc c = cF (fun k => c.testBit k) 12 0 := all4096 (by decide +kernel)
theorem pPc_s {a c : Nat} (ha : a < 256) (hc : c < 4096) : pPc (a + 256 * c) = pPc a + pPc c := by
  obtain ⟨⟨a1, a2, a3⟩, -⟩ := pa_c a ha
  obtain ⟨⟨c1, c2, c3, c4, c5⟩, -⟩ := pc_c c hc
  have e : pP3 (a + 256 * c) = pP3 a + 256 * pP3 c := by
    unfold pP3
    rw [pB1_s ha hc, pB2_s a1 c1, pB3_s a2 c2 c3]
  unfold pPc
  rw [e]
  generalize pP3 a = A at a3
  generalize pP3 c = C at c4 c5
  unfold pB5 pB4
  rw [show (63 : Nat) = 2 ^ 6 - 1 from rfl, Nat.and_two_pow_sub_one_eq_mod, Nat.and_two_pow_sub_one_eq_mod, Nat.and_two_pow_sub_one_eq_mod, show (2 ^ 6 : Nat) = 64 from rfl]
  have e1 : (A + 256 * C) / 256 = C := by omega
  have e2 : A / 256 = 0 := by omega
  rw [e1, e2]
  have eC : C = C % 256 + 256 * (C / 256) := by omega
  generalize C % 256 = C0 at c4 eC
  generalize C / 256 = C1 at c5 eC
  subst eC
  have e3 : (A + 256 * (C0 + 256 * C1) + (C0 + 256 * C1)) / 65536 = C1 := by omega
  have e4 : (A + 0) / 65536 = 0 := by omega
  have e5 : (C0 + 256 * C1 + C1) / 65536 = 0 := by omega
  rw [e3, e4, e5]
  have e6 : A + 256 * (C0 + 256 * C1) + (C0 + 256 * C1) + C1 = (A + C0 + C1) + 64 * (4 * C0 + 1028 * C1) := by omega
  have e7 : C0 + 256 * C1 + C1 + 0 = (C0 + C1) + 64 * (4 * C1) := by omega
  rw [e6, e7, Nat.add_mul_mod_self_left, Nat.add_mul_mod_self_left, Nat.mod_eq_of_lt (a := A + C0 + C1) (by omega), Nat.mod_eq_of_lt (a := C0 + C1) (by omega), Nat.mod_eq_of_lt (a := A + 0 + 0) (by omega)]
  omega
theorem pPc_n {n : Nat} (h : n < 2 ^ 20) : jBc (nI n) = nI (pPc n) := by
  have ha : n % 256 < 256 := Nat.mod_lt _ (by decide)
  have hc : n / 256 < 4096 := by omega
  obtain ⟨⟨a1, a2, a3⟩, a4⟩ := pa_c _ ha
  obtain ⟨⟨c1, c2, c3, c4, c5⟩, c6⟩ := pc_c _ hc
  clear a4 c6
  have b1 := pB1_s ha hc
  have b2 := pB2_s a1 c1
  have b3 := pB3_s a2 c2 c3
  rw [← b1] at b2
  rw [← b2] at b3
  rw [Nat.mod_add_div] at b1 b2 b3
  have l1 : pB1 n < 2 ^ 32 := by rw [b1]; omega
  have l2 : pB2 (pB1 n) < 2 ^ 32 := by rw [b2]; omega
  have l3 : pB3 (pB2 (pB1 n)) < 2 ^ 31 := by
    rw [b3]
    show pP3 (n % 256) + 256 * pP3 (n / 256) < 2 ^ 31
    omega
  have l4 : pB4 (pB3 (pB2 (pB1 n))) < 2 ^ 32 := by unfold pB4; omega
  unfold jBc
  rw [jB1_n (by omega), jB2_n l1, jB3_n l2, jB4_n (by omega), jB5_n l4]
  unfold pPc pP3
  exact Eq.refl _
theorem pPc_c {n : Nat} (h : n < 2 ^ 20) : pPc n = cF (fun k => n.testBit k) 20 0 := by
  have ha : n % 256 < 256 := Nat.mod_lt _ (by decide)
  have hc : n / 256 < 4096 := by omega
  have e := pPc_s ha hc
  rw [Nat.mod_add_div, (pa_c _ ha).2, (pc_c _ hc).2] at e
  rw [e, show (20 : Nat) = 8 + 12 from rfl]
  unfold cF
  rw [sF_add, sF_shift (fun k => (n.testBit k).toNat) 8 12 0]
  have e1 : sF (fun k => ((n % 256).testBit k).toNat) 8 0 = sF (fun k => (n.testBit k).toNat) 8 0 := sF_congr 8 0 fun i _ h2 => by
    rw [show (256 : Nat) = 2 ^ 8 from rfl, Nat.testBit_mod_two_pow, decide_eq_true (by omega), Bool.true_and]
  have e2 : sF (fun k => ((n / 256).testBit k).toNat) 12 0 = sF (fun i => (n.testBit (i + 8)).toNat) 12 0 := sF_congr 12 0 fun i _ h2 => by
    rw [show (256 : Nat) = 2 ^ 8 from rfl, Nat.testBit_div_two_pow]
  rw [e1, e2]
theorem jBc_n {n : Nat} (h : n < 2 ^ 20) : jBc (nI n) = nI (cF (fun k => n.testBit k) 20 0) := by rw [pPc_n h, pPc_c h]
theorem jBc_bt {x : Int32} (h : bLt x 20) : jBc x = nI (cF (bt x) 20 0) := by
  obtain ⟨v, hv, rfl⟩ := bLt_lt h (by decide)
  rw [jBc_n hv, cF_congr (p := fun k => v.testBit k) (q := bt (nI v)) (fun i _ h2 => by rw [b_nI (by omega)])]
theorem bLt_mono {x : Int32} {n k : Nat} (h : bLt x n) (hk : n ≤ k) : bLt x k := fun i hi => h i (Nat.le_trans hk hi)
