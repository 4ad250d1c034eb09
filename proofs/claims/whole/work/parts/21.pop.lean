-- how many bits are set: Long.bitCount, Integer.bitCount
theorem mn_and8 {x y u v : Nat} (hy : y < 256) (hv : v < 256) : (256 * x + y) &&& (256 * u + v) = 256 * (x &&& u) + (y &&& v) := by
  have e : ∀ a b : Nat, b < 256 → 256 * a + b = a <<< 8 ||| b := fun a b hb => by
    rw [Nat.mul_comm, show (256 : Nat) = 2 ^ 8 from rfl, ← Nat.shiftLeft_eq, Nat.shiftLeft_add_eq_or_of_lt (by simpa using hb)]
  have hyv : y &&& v < 256 := Nat.and_lt_two_pow (n := 8) _ hv
  rw [e x y hy, e u v hv, e _ _ hyv]
  apply Nat.eq_of_testBit_eq
  intro i
  simp only [Nat.testBit_and, Nat.testBit_or, Nat.testBit_shiftLeft]
  by_cases h8 : 8 ≤ i
  · have a1 : y.testBit i = false := Nat.testBit_lt_two_pow (Nat.lt_of_lt_of_le hy (show 2 ^ 8 ≤ 2 ^ i from Nat.pow_le_pow_right (by decide) h8))
    have a2 : v.testBit i = false := Nat.testBit_lt_two_pow (Nat.lt_of_lt_of_le hv (show 2 ^ 8 ≤ 2 ^ i from Nat.pow_le_pow_right (by decide) h8))
    simp [h8, a1, a2]
  · simp [h8]
def mn_rep (c : Nat) : Nat → Nat
  | 0 => 0
  | n + 1 => 256 * mn_rep c n + c
def mn_p1 (n m : Nat) : Nat := m - (m / 2 &&& mn_rep 85 n)
def mn_p2 (n m : Nat) : Nat := (mn_p1 n m &&& mn_rep 51 n) + (mn_p1 n m / 4 &&& mn_rep 51 n)
def mn_p3 (n m : Nat) : Nat := (mn_p2 n m + mn_p2 n m / 16) &&& mn_rep 15 n
theorem mn_pb : ∀ b, b < 256 → (b / 2 &&& 85) ≤ b ∧ b - (b / 2 &&& 85) < 256 ∧ ((b - (b / 2 &&& 85)) &&& 51) + ((b - (b / 2 &&& 85)) / 4 &&& 51) ≤ 68 ∧ (((b - (b / 2 &&& 85)) &&& 51) + ((b - (b / 2 &&& 85)) / 4 &&& 51)) % 16 ≤ 4 ∧ ((((b - (b / 2 &&& 85)) &&& 51) + ((b - (b / 2 &&& 85)) / 4 &&& 51)) + (((b - (b / 2 &&& 85)) &&& 51) + ((b - (b / 2 &&& 85)) / 4 &&& 51)) / 16) % 16 = mn_nsum (fun j => if b.testBit j then 1 else 0) 8 := by decide +kernel
theorem mn_pa : ∀ y, y < 256 → y &&& 85 = (y % 128) &&& 85 ∧ y &&& 51 = (y % 64) &&& 51 ∧ y &&& 15 = y % 16 := by decide +kernel
theorem mn_p1_s (n q b : Nat) (hb : b < 256) : mn_p1 (n + 1) (256 * q + b) = 256 * mn_p1 n q + (b - (b / 2 &&& 85)) := by
  unfold mn_p1
  have e : (256 * q + b) / 2 = 256 * (q / 2) + (128 * (q % 2) + b / 2) := by omega
  have hl : 128 * (q % 2) + b / 2 < 256 := by omega
  have h1 : (128 * (q % 2) + b / 2) &&& 85 = b / 2 &&& 85 := by
    rw [(mn_pa _ hl).1, show (128 * (q % 2) + b / 2) % 128 = b / 2 by omega]
  have hq : (q / 2 &&& mn_rep 85 n) ≤ q := Nat.le_trans Nat.and_le_left (Nat.div_le_self _ _)
  have hb2 := (mn_pb b hb).1
  rw [e, mn_rep, mn_and8 hl (by decide), h1]
  omega
theorem mn_p2_s (n q b : Nat) (hb : b < 256) : mn_p2 (n + 1) (256 * q + b) = 256 * mn_p2 n q + (((b - (b / 2 &&& 85)) &&& 51) + ((b - (b / 2 &&& 85)) / 4 &&& 51)) := by
  unfold mn_p2
  rw [mn_p1_s n q b hb]
  have h2 := (mn_pb b hb).2.1
  generalize b - (b / 2 &&& 85) = c at h2 ⊢
  generalize mn_p1 n q = p
  have e : (256 * p + c) / 4 = 256 * (p / 4) + (64 * (p % 4) + c / 4) := by omega
  have hl : 64 * (p % 4) + c / 4 < 256 := by omega
  have h1 : (64 * (p % 4) + c / 4) &&& 51 = c / 4 &&& 51 := by
    rw [(mn_pa _ hl).2.1, show (64 * (p % 4) + c / 4) % 64 = c / 4 by omega]
  rw [e, mn_rep, mn_and8 hl (by decide), mn_and8 h2 (by decide), h1]
  omega
theorem mn_p2_m (n m : Nat) (h : m < 256 ^ n) : mn_p2 n m % 16 ≤ 4 := by
  cases n with
  | zero => simp [mn_p2, mn_rep]
  | succ n =>
    have hb : m % 256 < 256 := Nat.mod_lt _ (by decide)
    have e : m = 256 * (m / 256) + m % 256 := by omega
    rw [e, mn_p2_s n _ _ hb]
    have := (mn_pb _ hb).2.2.2.1
    omega
theorem mn_p3_s (n q b : Nat) (hb : b < 256) (hq : q < 256 ^ n) : mn_p3 (n + 1) (256 * q + b) = 256 * mn_p3 n q + mn_nsum (fun j => if b.testBit j then 1 else 0) 8 := by
  unfold mn_p3
  rw [mn_p2_s n q b hb]
  have h3 := (mn_pb b hb).2.2.1
  have h5 := (mn_pb b hb).2.2.2.2
  have hm := mn_p2_m n q hq
  generalize ((b - (b / 2 &&& 85)) &&& 51) + ((b - (b / 2 &&& 85)) / 4 &&& 51) = c at h3 h5 ⊢
  generalize mn_p2 n q = p at hm ⊢
  have e : 256 * p + c + (256 * p + c) / 16 = 256 * (p + p / 16) + (c + 16 * (p % 16) + c / 16) := by omega
  have hl : c + 16 * (p % 16) + c / 16 < 256 := by omega
  rw [e, mn_rep, mn_and8 hl (by decide), (mn_pa _ hl).2.2, ← h5]
  have : (c + 16 * (p % 16) + c / 16) % 16 = (c + c / 16) % 16 := by omega
  rw [this]
def mn_pop (m n : Nat) : Nat := mn_nsum (fun j => if m.testBit j then 1 else 0) n
theorem mn_nsum_split (f : Nat → Nat) (a b : Nat) : mn_nsum f (a + b) = mn_nsum f a + mn_nsum (fun i => f (a + i)) b := by
  induction b with
  | zero => rfl
  | succ b ih => rw [← Nat.add_assoc, mn_nsum, mn_nsum, ih, Nat.add_assoc]
theorem mn_pop_s (q b n : Nat) (hb : b < 256) : mn_pop (256 * q + b) (8 + n) = mn_pop b 8 + mn_pop q n := by
  unfold mn_pop
  have e : 256 * q + b = q <<< 8 ||| b := by
    rw [Nat.mul_comm, show (256 : Nat) = 2 ^ 8 from rfl, ← Nat.shiftLeft_eq, Nat.shiftLeft_add_eq_or_of_lt (by simpa using hb)]
  rw [mn_nsum_split]
  congr 1
  · refine mn_nsum_cong 8 (fun i hi => ?_)
    rw [e, Nat.testBit_or, Nat.testBit_shiftLeft]
    simp [show ¬ 8 ≤ i by omega]
  · refine mn_nsum_cong n (fun i hi => ?_)
    have : b.testBit (8 + i) = false := Nat.testBit_lt_two_pow (Nat.lt_of_lt_of_le hb (show 2 ^ 8 ≤ 2 ^ (8 + i) from Nat.pow_le_pow_right (by decide) (by omega)))
    rw [e, Nat.testBit_or, Nat.testBit_shiftLeft, this]
    simp
theorem mn_pop_le (m n : Nat) : mn_pop m n ≤ n := by
  have := mn_nsum_le (f := fun j => if m.testBit j then 1 else 0) (B := 1) n (fun i _ => by by_cases h : m.testBit i = true <;> simp [h])
  unfold mn_pop
  omega
/-- bytes that hold the counts, summed up -/
theorem mn_p3_val (m : Nat) (h : m < 2 ^ 64) : ∃ p0 p1 p2 p3 p4 p5 p6 p7 : Nat, mn_p3 8 m = p0 + 256 * (p1 + 256 * (p2 + 256 * (p3 + 256 * (p4 + 256 * (p5 + 256 * (p6 + 256 * p7)))))) ∧ p0 ≤ 8 ∧ p1 ≤ 8 ∧ p2 ≤ 8 ∧ p3 ≤ 8 ∧ p4 ≤ 8 ∧ p5 ≤ 8 ∧ p6 ≤ 8 ∧ p7 ≤ 8 ∧ mn_pop m 64 = p0 + p1 + p2 + p3 + p4 + p5 + p6 + p7 := by
  have key : ∀ (n m : Nat), m < 256 ^ (n + 1) → ∃ q p, q < 256 ^ n ∧ p ≤ 8 ∧ mn_p3 (n + 1) m = 256 * mn_p3 n q + p ∧ mn_pop m (8 * (n + 1)) = p + mn_pop q (8 * n) := by
    intro n m hm
    have hb : m % 256 < 256 := Nat.mod_lt _ (by decide)
    have e : m = 256 * (m / 256) + m % 256 := by omega
    have hq : m / 256 < 256 ^ n := by
      rw [Nat.pow_succ] at hm
      exact Nat.div_lt_of_lt_mul (by rw [Nat.mul_comm]; exact hm)
    refine ⟨m / 256, mn_pop (m % 256) 8, hq, mn_pop_le _ _, ?_, ?_⟩
    · conv => lhs; rw [e]
      exact mn_p3_s n _ _ hb hq
    · conv => lhs; rw [e]
      rw [show 8 * (n + 1) = 8 + 8 * n by omega, mn_pop_s _ _ _ hb]
  obtain ⟨q0, p0, a0, b0, c0, d0⟩ := key 7 m (by simpa using h)
  obtain ⟨q1, p1, a1, b1, c1, d1⟩ := key 6 q0 a0
  obtain ⟨q2, p2, a2, b2, c2, d2⟩ := key 5 q1 a1
  obtain ⟨q3, p3, a3, b3, c3, d3⟩ := key 4 q2 a2
  obtain ⟨q4, p4, a4, b4, c4, d4⟩ := key 3 q3 a3
  obtain ⟨q5, p5, a5, b5, c5, d5⟩ := key 2 q4 a4
  obtain ⟨q6, p6, a6, b6, c6, d6⟩ := key 1 q5 a5
  obtain ⟨q7, p7, a7, b7, c7, d7⟩ := key 0 q6 a6
  have z : mn_p3 0 q7 = 0 := by simp [mn_p3, mn_rep]
  have z2 : mn_pop q7 (8 * 0) = 0 := rfl
  refine ⟨p0, p1, p2, p3, p4, p5, p6, p7, ?_, b0, b1, b2, b3, b4, b5, b6, b7, ?_⟩
  · simp only [Nat.reduceAdd] at c0 c1 c2 c3 c4 c5 c6 c7
    rw [c0, c1, c2, c3, c4, c5, c6, c7, z]; omega
  · simp only [Nat.reduceAdd, Nat.reduceMul] at d0 d1 d2 d3 d4 d5 d6 d7 z2
    rw [d0, d1, d2, d3, d4, d5, d6, d7, z2]; omega
theorem mn_repl : mn_rep 85 8 = 6148914691236517205 ∧ mn_rep 51 8 = 3689348814741910323 ∧ mn_rep 15 8 = 1085102592571150095 := by decide +kernel
theorem lN_toI {m : Nat} : (lN m).toInt32 = nI m := lN_i m
theorem mn_fq {a B q r : Nat} (h : a = r + B * q) (hr : r < B) : a / B = q := by
  subst h
  rw [Nat.add_mul_div_left _ _ (by omega), Nat.div_eq_of_lt hr, Nat.zero_add]
theorem mn_fold {a3 a4 a5 a6 p0 p1 p2 p3 p4 p5 p6 p7 : Nat} (hp : a3 = p0 + 256 * (p1 + 256 * (p2 + 256 * (p3 + 256 * (p4 + 256 * (p5 + 256 * (p6 + 256 * p7))))))) (b0 : p0 ≤ 8) (b1 : p1 ≤ 8) (b2 : p2 ≤ 8) (b3 : p3 ≤ 8) (b4 : p4 ≤ 8) (b5 : p5 ≤ 8) (b6 : p6 ≤ 8) (b7 : p7 ≤ 8) (h4 : a4 = a3 + a3 / 2 ^ 8) (h5 : a5 = a4 + a4 / 2 ^ 16) (h6 : a6 = a5 + a5 / 2 ^ 32) : a6 % 128 = p0 + p1 + p2 + p3 + p4 + p5 + p6 + p7 := by
  obtain ⟨r6, e6⟩ : ∃ r, r = p6 + 256 * p7 := ⟨_, rfl⟩
  obtain ⟨r5, e5⟩ : ∃ r, r = p5 + 256 * r6 := ⟨_, rfl⟩
  obtain ⟨r4, e4⟩ : ∃ r, r = p4 + 256 * r5 := ⟨_, rfl⟩
  obtain ⟨r3, e3⟩ : ∃ r, r = p3 + 256 * r4 := ⟨_, rfl⟩
  obtain ⟨r2, e2⟩ : ∃ r, r = p2 + 256 * r3 := ⟨_, rfl⟩
  obtain ⟨r1, e1⟩ : ∃ r, r = p1 + 256 * r2 := ⟨_, rfl⟩
  rw [← e6, ← e5, ← e4, ← e3, ← e2, ← e1] at hp
  have q1 : a3 / 2 ^ 8 = r1 := mn_fq hp (by omega)
  rw [q1] at h4
  have w4 : a4 = ((p0 + p1) + 256 * (p1 + p2)) + 65536 * (r2 + r3) := by rw [h4, hp, e1, e2]; clear h4 h5 h6 hp e1 e2 q1; omega
  have q2 : a4 / 2 ^ 16 = r2 + r3 := mn_fq w4 (by omega)
  rw [q2] at h5
  have w23 : r2 + r3 = (p2 + p3) + 256 * (p3 + p4) + 65536 * (r4 + r5) := by clear h4 h5 h6 hp e1 q1 q2 w4; omega
  have w45 : r4 + r5 = (p4 + p5) + 256 * (p5 + p6) + 65536 * (r6 + p7) := by clear h4 h5 h6 hp e1 e2 e3 q1 q2 w4 w23; omega
  have w5 : a5 = ((p0 + p1 + p2 + p3) + 256 * ((p1 + p2) + (p3 + p4)) + 65536 * ((p2 + p3) + (p4 + p5)) + 16777216 * ((p3 + p4) + (p5 + p6))) + 4294967296 * ((r4 + r5) + (r6 + p7)) := by
    generalize r2 + r3 = x at w4 w23 h5
    generalize r4 + r5 = y at w23 w45 ⊢
    clear h4 h6 hp e1 e2 e3 e4 e5 e6 q1 q2
    generalize r6 + p7 = z at w45 ⊢
    omega
  have q3 : a5 / 2 ^ 32 = (r4 + r5) + (r6 + p7) := mn_fq w5 (by omega)
  rw [q3] at h6
  have w6 : ∃ k, a6 = (p0 + p1 + p2 + p3 + p4 + p5 + p6 + p7) + 256 * k := by
    refine ⟨((p1 + p2) + (p3 + p4)) + 256 * ((p2 + p3) + (p4 + p5)) + 65536 * ((p3 + p4) + (p5 + p6)) + 16777216 * ((r4 + r5) + (r6 + p7)) + (p5 + p6) + 256 * (r6 + p7) + p7, ?_⟩
    rw [h6, w5, w45, e6]
    clear h4 h5 h6 hp e1 e2 e3 e4 e5 e6 q1 q2 q3 w4 w5 w23 w45
    omega
  obtain ⟨k, hk⟩ := w6
  clear h4 h5 h6 hp e1 e2 e3 e4 e5 e6 q1 q2 q3 w4 w5 w23 w45
  omega
section POP
variable {h : mn_H}
theorem x_lbitCount {m : Nat} (hm : m < 2 ^ 64) : mn_X 191 [.long (lN m)] h (some (.int (nI (mn_pop m 64)))) h := by
  obtain ⟨r1, r2, r3⟩ := mn_repl
  have e1 : (6148914691236517205 : Int64) = lN 6148914691236517205 := rfl
  have e2 : (3689348814741910323 : Int64) = lN 3689348814741910323 := rfl
  have e3 : (1085102592571150095 : Int64) = lN 1085102592571150095 := rfl
  have s1 := wb_shr (n := m) (k := 1) hm (by decide)
  have l1 : m / 2 &&& mn_rep 85 8 ≤ m := Nat.le_trans Nat.and_le_left (Nat.div_le_self _ _)
  have v1 : lN m - (((lN m).toUInt64 >>> ((1 : Int32).toInt64.toUInt64 &&& Int64.toUInt64 63)).toInt64 &&& 6148914691236517205) = lN (mn_p1 8 m) := by
    rw [show (1 : Int32) = nI 1 from rfl, s1, e1, wb_and (by omega) (by decide), lN_sub (by rw [← r1]; exact l1), mn_p1, r1]
  have h1 : mn_p1 8 m < 2 ^ 64 := by unfold mn_p1; omega
  have v2 : (lN (mn_p1 8 m) &&& 3689348814741910323) + (((lN (mn_p1 8 m)).toUInt64 >>> ((2 : Int32).toInt64.toUInt64 &&& Int64.toUInt64 63)).toInt64 &&& 3689348814741910323) = lN (mn_p2 8 m) := by
    rw [show (2 : Int32) = nI 2 from rfl, wb_shr (n := mn_p1 8 m) (k := 2) h1 (by decide), e2, wb_and h1 (by decide), wb_and (by omega) (by decide), lN_add, mn_p2, r2]
  have h2 : mn_p2 8 m < 2 ^ 63 := by
    unfold mn_p2
    rw [r2]
    have a1 := Nat.and_le_right (n := mn_p1 8 m) (m := 3689348814741910323)
    have a2 := Nat.and_le_right (n := mn_p1 8 m / 4) (m := 3689348814741910323)
    omega
  have v3 : (lN (mn_p2 8 m) + ((lN (mn_p2 8 m)).toUInt64 >>> ((4 : Int32).toInt64.toUInt64 &&& Int64.toUInt64 63)).toInt64) &&& 1085102592571150095 = lN (mn_p3 8 m) := by
    rw [show (4 : Int32) = nI 4 from rfl, wb_shr (n := mn_p2 8 m) (k := 4) (by omega) (by decide), lN_add, e3, wb_and (by omega) (by decide), mn_p3, r3]
  obtain ⟨p0, p1, p2, p3, p4, p5, p6, p7, hp, b0, b1, b2, b3, b4, b5, b6, b7, hs⟩ := mn_p3_val m hm
  rw [e_J13_bitCount_95d88, b_J13_bitCount_95d88_0, v1, b_J13_bitCount_95d88_10, v2, b_J13_bitCount_95d88_24, v3, b_J13_bitCount_95d88_34]
  generalize mn_p3 8 m = a3 at hp ⊢
  rw [show (8 : Int32) = nI 8 from rfl, wb_shr (n := a3) (k := 8) (by omega) (by decide), lN_add, b_J13_bitCount_95d88_41]
  obtain ⟨a4, ha4⟩ : ∃ a4, a4 = a3 + a3 / 2 ^ 8 := ⟨_, rfl⟩
  rw [← ha4, show (16 : Int32) = nI 16 from rfl, wb_shr (n := a4) (k := 16) (by omega) (by decide), lN_add, b_J13_bitCount_95d88_48]
  obtain ⟨a5, ha5⟩ : ∃ a5, a5 = a4 + a4 / 2 ^ 16 := ⟨_, rfl⟩
  rw [← ha5, show (32 : Int32) = nI 32 from rfl, wb_shr (n := a5) (k := 32) (by omega) (by decide), lN_add, b_J13_bitCount_95d88_55]
  obtain ⟨a6, ha6⟩ : ∃ a6, a6 = a5 + a5 / 2 ^ 32 := ⟨_, rfl⟩
  rw [← ha6, lN_toI]
  refine ⟨?_, rfl⟩
  have hm6 : a6 % 128 = p0 + p1 + p2 + p3 + p4 + p5 + p6 + p7 := mn_fold hp b0 b1 b2 b3 b4 b5 b6 b7 ha4 ha5 ha6
  have : nI a6 &&& 127 = nI (a6 % 128) := by
    have hx := pk_and (nI a6) (m := 127) 7 (by decide)
    rw [hx, nq_tb, BitVec.toNat_ofNat]
    congr 1
    omega
  rw [this, hm6, hs]
theorem mn_ibc : ∀ s, s < 64 → (let x := nI s; let a := x - ((x.toUInt32 >>> ((1 : Int32).toUInt32 &&& Int32.toUInt32 31)).toInt32 &&& 1431655765); let b := (a &&& 858993459) + ((a.toUInt32 >>> ((2 : Int32).toUInt32 &&& Int32.toUInt32 31)).toInt32 &&& 858993459); let c := (b + (b.toUInt32 >>> ((4 : Int32).toUInt32 &&& Int32.toUInt32 31)).toInt32) &&& 252645135; let d := c + (c.toUInt32 >>> ((8 : Int32).toUInt32 &&& Int32.toUInt32 31)).toInt32; let e := d + (d.toUInt32 >>> ((16 : Int32).toUInt32 &&& Int32.toUInt32 31)).toInt32; e &&& 63) = nI (mn_pop s 6) := by decide +kernel
theorem x_ibitCount {s : Nat} (hs : s < 64) : mn_X 190 [.int (nI s)] h (some (.int (nI (mn_pop s 6)))) h := by
  rw [e_J6_bitCount_0f7a4, b_J6_bitCount_0f7a4_0, b_J6_bitCount_0f7a4_10, b_J6_bitCount_0f7a4_24, b_J6_bitCount_0f7a4_34, b_J6_bitCount_0f7a4_41, b_J6_bitCount_0f7a4_48]
  exact ⟨congrArg (fun z => some (Value.int z)) (mn_ibc s hs).symm, rfl⟩
end POP
