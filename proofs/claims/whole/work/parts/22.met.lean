def andn (a b : Nat) : Nat := mn_bits (fun x => a.testBit x && !b.testBit x) 6
theorem andn_lt (a b : Nat) : andn a b < 64 := mn_bits_lt _ 6
set_option maxRecDepth 100000 in
theorem nI_andn : ∀ a, a < 64 → ∀ b, b < 64 → nI a &&& (nI b ^^^ (-1)) = nI (andn a b) := by decide +kernel
def wireN (r w l : Nat) : Nat := mn_bits (fun b => if b = w then r.testBit l else r.testBit b) 5
set_option maxRecDepth 100000 in
theorem nI_wire : ∀ r, r < 32 → ∀ w, w < 5 → ∀ l, l < 5 → ((nI r &&& ((1 <<< (nI w &&& 31)) ^^^ (-1))) ||| (((nI r >>> (nI l &&& 31)) &&& 1) <<< (nI w &&& 31))) = nI (wireN r w l) := by decide +kernel
theorem mn_or64 {a b : Nat} (ha : a < 64) (hb : b < 64) : a ||| b < 64 := Nat.or_lt_two_pow (n := 6) ha hb
/-- what comes by a ring -/
def cauN (T : TW) (df my gr mo r : Nat) : Nat := metN (T 0 2) (T 8) (T 9) (T 10) (doneN T df my gr mo r)
def stoN (T : TW) (df my gr mo r : Nat) : Nat := metN (T 0 3) (T 11) (T 12) (T 13) (doneN T df my gr mo r)
def cmN (T : TW) (df my gr mo n r : Nat) : Nat := andn (cauN T df my gr mo r ||| ofN T n) (stoN T df my gr mo r)
theorem cmN_lt (T : TW) (df my gr mo n r : Nat) : cmN T df my gr mo n r < 64 := andn_lt _ _
section TR
variable {h : mn_H} {t : Nat} {T : TW}
theorem x_X4_metBy {q c : Nat} {A B N W : Nat → Nat} (hq : mn_isQ q) (hc : h q 3 = nI c) (hcn : c ≤ mn_qn q) (hA : ∀ i, i < c → h (q + 1) i = nI (A i) ∧ h (q + 2) i = nI (B i) ∧ h (q + 3) i = nI (N i)) (hw : ∀ i, i < c → A i < 6 ∧ B i < 6 ∧ 1 ≤ N i ∧ N i ≤ 999) (hW : ∀ d, d < 6 → h 17 d = nI (W d) ∧ W d < 2 ^ 30) : mn_X 39 [.ref q, .ref 17] h (some (.int (nI (metN c A B N W)))) h := by
  have hc8 : mn_qn q ≤ 8 := by unfold mn_qn; split <;> omega
  rw [e_X4_metBy, b_X4_metBy_0 hq]
  refine (mn_loop (n := c) (fun i => mn_E 39 4 [.ref q, .ref 17, .int (nI (metN i A B N W)), .int (nI i)] [] h (some (.int (nI (metN c A B N W)))) h) ?_ ?_ (Nat.zero_le _)).mpr trivial
  · rw [b_X4_metBy_4 hq, hc, if_pos (nI_le (Nat.le_refl _) (by omega)), b_X4_metBy_46 hq]
    exact ⟨fun _ => trivial, fun _ => ⟨rfl, rfl⟩⟩
  · intro i hi
    obtain ⟨c1, c2, c3⟩ := hA i hi
    obtain ⟨w1, w2, w3, w4⟩ := hw i hi
    obtain ⟨d1, d2⟩ := hW (B i) w2
    have hv : vp_in (nI i) (mn_qn q) := vp_in_nI (by omega) (by omega)
    have hcl : (nI i).toNatClampNeg = i := nI_clamp (by omega)
    have hv2 : vp_in (h (q + 2) (nI i).toNatClampNeg) 7 := by rw [hcl, c2]; exact vp_in_nI (by omega) (by decide)
    have lt := metN_lt i A B N W
    have p1 : 2 ^ A i ≤ 2 ^ 5 := Nat.pow_le_pow_right (by decide) (by omega)
    rw [b_X4_metBy_4 hq, hc, if_neg (nI_ge hi (by omega)), b_X4_metBy_12 hq hv hv2, hcl, c2, c3, nI_clamp (by omega), d1, metN_succ _ _ _ _ _ w1]
    by_cases o : N i ≤ W (B i)
    · rw [if_neg (nI_nlt o (by omega)), b_X4_metBy_29 hq hv, b_X4_metBy_40 hq, nI_1, hcl, c1, nq_one (by omega), nq_or (by omega) (by omega), if_pos o]
    · rw [if_pos (nI_lt (by omega) (by omega)), b_X4_metBy_40 hq, nI_1, if_neg o, Nat.or_zero]
theorem x_X4_gapAbove {q c : Nat} {B N : Nat → Nat} (hq : mn_isQ q) (hc : h q 3 = nI c) (hcn : c ≤ mn_qn q) (hA : ∀ i, i < c → h (q + 2) i = nI (B i) ∧ h (q + 3) i = nI (N i)) (hw : ∀ i, i < c → B i < 6 ∧ N i ≤ 999) {d p : Nat} (hd : d < 7) (hp : p < 2 ^ 30) : mn_X 40 [.ref q, .int (nI d), .int (nI p)] h (some (.int (nI (gapN B N d p c)))) h := by
  have hc8 : mn_qn q ≤ 8 := by unfold mn_qn; split <;> omega
  rw [e_X4_gapAbove, b_X4_gapAbove_0 hq]
  refine (mn_loop (n := c) (fun i => mn_E 40 7 [.ref q, .int (nI d), .int (nI p), .int (nI (gapN B N d p i)), .int (nI i)] [] h (some (.int (nI (gapN B N d p c)))) h) ?_ ?_ (Nat.zero_le _)).mpr trivial
  · rw [b_X4_gapAbove_7 hq, hc, if_pos (nI_le (Nat.le_refl _) (by omega)), b_X4_gapAbove_58 hq]
    exact ⟨fun _ => trivial, fun _ => ⟨rfl, rfl⟩⟩
  · intro i hi
    obtain ⟨c2, c3⟩ := hA i hi
    obtain ⟨w2, w4⟩ := hw i hi
    have hv : vp_in (nI i) (mn_qn q) := vp_in_nI (by omega) (by omega)
    have hcl : (nI i).toNatClampNeg = i := nI_clamp (by omega)
    have gl := gapN_le B N d p i
    rw [b_X4_gapAbove_7 hq, hc, if_neg (nI_ge hi (by omega)), b_X4_gapAbove_16 hq hv, hcl, c2]
    by_cases o : B i = d
    · rw [if_neg (fun z => z (by rw [o])), b_X4_gapAbove_27 hq hv, hcl, c3]
      by_cases o2 : p < N i
      · rw [if_neg (nI_ge o2 (by omega)), b_X4_gapAbove_38 hq hv, b_X4_gapAbove_52 hq, nI_1, hcl, c3, pk_sub (by omega)]
        have e : gapN B N d p (i + 1) = if N i - p < gapN B N d p i then N i - p else gapN B N d p i := by rw [gapN, if_pos ⟨o, o2⟩]
        by_cases o3 : N i - p < gapN B N d p i
        · rw [if_pos (nI_lt o3 (by omega)), e, if_pos o3]
        · rw [if_neg (nI_nlt (by omega) (by omega)), e, if_neg o3]
      · rw [if_pos (nI_le (by omega) (by omega)), b_X4_gapAbove_52 hq, nI_1, gapN, if_neg (fun z => o2 z.2)]
    · rw [if_pos (fun z => o ((nI_eq (by omega) (by omega)).mp z)), b_X4_gapAbove_52 hq, nI_1, gapN, if_neg (fun z => o z.1)]
/-- the row of those who do things -/
def dngN (T : TW) (df my gr mo r k : Nat) (f : Nat → Int32) : Nat → Int32 := fun j => if j < 7 then nI (mn_nsum (addN T df my gr mo r j) k) else f j
theorem CT_set {a : Nat} {f : Nat → Int32} (ha : a < t ∨ t + 19 < a) (hc : CT h t T) : CT (mn_set h a f) t T := by
  have e : ∀ k, k < 20 → mn_set h a f (t + k) = h (t + k) := fun k hk => by rw [mn_set_row, if_neg (by omega)]
  have e0 : mn_set h a f t = h t := by rw [mn_set_row, if_neg (by omega)]
  unfold CT at hc ⊢
  rw [e0, e 1 (by omega), e 2 (by omega), e 3 (by omega), e 4 (by omega), e 5 (by omega), e 6 (by omega), e 7 (by omega), e 8 (by omega), e 9 (by omega), e 10 (by omega), e 11 (by omega), e 12 (by omega), e 13 (by omega), e 14 (by omega), e 15 (by omega), e 16 (by omega), e 17 (by omega), e 18 (by omega), e 19 (by omega)]
  exact hc
theorem x_X6_countDoing (ht : mn_isT t) (hc : CT h t T) (hw : TWF T) {r df my gr mo : Nat} (hr : r < 32) (hdf : df < 64) (hmy : my < 64) (hmo : mo ≤ 999) : mn_X 59 [.ref 16, .ref t, .int (nI r), .int (nI df), .int (nI my), .int (gN gr), .int (nI mo)] h none (mn_set h 17 (dngN T df my gr mo r (T 0 1) (h 17))) := by
  have ht17 : (17 : Nat) < t ∨ t + 19 < 17 := by rcases ht with rfl | rfl <;> omega
  have e0 : mn_set h 17 (fun j => if j < 7 then 0 else h 17 j) = mn_set h 17 (dngN T df my gr mo r 0 (h 17)) := rfl
  rw [e_X6_countDoing, b_X6_countDoing_0 ht, mn_cl_v (x_fill (a := 17) (n := 7) 0 rfl (by decide) (by decide)), b_X6_countDoing_8 ht, e0]
  refine (mn_loop (n := T 0 1) (fun i => mn_E 59 11 [.ref 16, .ref t, .int (nI r), .int (nI df), .int (nI my), .int (gN gr), .int (nI mo), .int (nI i)] [] (mn_set h 17 (dngN T df my gr mo r i (h 17))) none (mn_set h 17 (dngN T df my gr mo r (T 0 1) (h 17)))) ?_ ?_ (Nat.zero_le _)).mpr trivial
  · have hc2 := CT_set (f := dngN T df my gr mo r (T 0 1) (h 17)) ht17 hc
    rw [b_X6_countDoing_11 ht, hc2.1.2.1, if_pos (nI_le (Nat.le_refl _) (by have := hw.1.2.1; omega)), b_X6_countDoing_65 ht]
    exact ⟨fun _ => trivial, fun _ => ⟨rfl, rfl⟩⟩
  · intro i hi
    have w1 := hw.1.2.1
    have hc2 := CT_set (f := dngN T df my gr mo r i (h 17)) ht17 hc
    obtain ⟨g1, g2, g3, g4, g5⟩ := hw.2.2.1 i hi
    have hdl : deedN T df my r i < 7 := by unfold deedN; split <;> (try split) <;> omega
    have hv : vp_in (nI i) 6 := vp_in_nI (by omega) (by decide)
    have hv2 : vp_in (nI (deedN T df my r i)) 7 := vp_in_nI hdl (by decide)
    have hcl : (nI i).toNatClampNeg = i := nI_clamp (by omega)
    have hcl2 : (nI (deedN T df my r i)).toNatClampNeg = deedN T df my r i := nI_clamp (by omega)
    have ge := gN_eq (g := i) (gr := gr) (by omega)
    have hrow : mn_set h 17 (dngN T df my gr mo r i (h 17)) 17 (deedN T df my r i) = nI (mn_nsum (addN T df my gr mo r (deedN T df my r i)) i) := by
      rw [mn_set_row, if_pos rfl]; unfold dngN; rw [if_pos hdl]
    rw [b_X6_countDoing_11 ht, hc2.1.2.1, if_neg (nI_ge hi (by omega)), b_X6_countDoing_20 ht, mn_cl_i (x_X5_deedOf ht hc2 hw hi hr hdf hmy), b_X6_countDoing_34 ht hv2 hv, hcl, hcl2, (hc2.2.2.1 i hi).1, hrow]
    have fin : ∀ v, v = (if i = gr then mo else 0) → mn_up (mn_set h 17 (dngN T df my gr mo r i (h 17))) 17 (deedN T df my r i) (nI (mn_nsum (addN T df my gr mo r (deedN T df my r i)) i) + (nI (T 4 i) + nI v)) = mn_set h 17 (dngN T df my gr mo r (i + 1) (h 17)) := by
      intro v hv
      rw [mn_set_up, nI_add, nI_add]
      congr 1
      funext j
      unfold upd dngN
      by_cases hj : j = deedN T df my r i
      · subst hj
        rw [if_pos rfl, if_pos hdl, mn_nsum, addN, if_pos rfl, hv]
      · rw [if_neg hj]
        by_cases h7 : j < 7
        · rw [if_pos h7, if_pos h7, mn_nsum]
          have : addN T df my gr mo r j i = 0 := by unfold addN; rw [if_neg (fun z => hj z.symm)]
          rw [this, Nat.add_zero]
        · rw [if_neg h7, if_neg h7]
    by_cases o : i = gr
    · rw [if_neg (fun z => z (ge.mpr o)), b_X6_countDoing_50 ht, b_X6_countDoing_56 ht hv2, nI_1, hcl2, fin mo (by rw [if_pos o])]
    · rw [if_pos (fun z => o (ge.mp z)), b_X6_countDoing_55 ht, b_X6_countDoing_56 ht hv2, nI_1, hcl2]
      have := fin 0 (by rw [if_neg o])
      rw [nI_0] at this
      rw [this]
end TR
