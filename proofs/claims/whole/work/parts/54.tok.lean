def kdE (len : Nat) (C : Nat → Nat) (i : Nat) : Nat := if i < len ∧ kdN (C i) < 5 then 0 else 1
def enE (len : Nat) (C : Nat → Nat) (i : Nat) : Nat := if i < len ∧ C i = 59 then 0 else 1
set_option maxRecDepth 100000 in
theorem mn_bytE : ∀ c, c < 256 → ∀ i, i < 5 → (mn_byt i = (nI c).toInt8.toInt32 ↔ kdN c = i) := by decide +kernel
theorem kdN_le (c : Nat) : kdN c ≤ 5 := by unfold kdN; repeat' split
                                           all_goals omega
section KD
variable {h hh : mn_H} {len i j f : Nat} {C : Nat → Nat} {g : Int32}
theorem x_indexOf {c : Nat} (hc : c < 256) : mn_X 182 [.ref 75, .int (nI c)] h (some (.int (if kdN c < 5 then nI (kdN c) else -1))) h := by
  have k5 := kdN_le c
  have x184 : mn_X 184 [.ref 75] h (some (.int 1)) h := by
    rw [e_J0_isLatin1_aae02, b_J0_isLatin1_aae02_0, if_neg (by decide), b_J0_isLatin1_aae02_6, if_neg (by decide), b_J0_isLatin1_aae02_13, b_J0_isLatin1_aae02_18 (Or.inr rfl)]; exact ⟨rfl, rfl⟩
  have x186 : mn_X 186 [.ref 75] h (some (.int 0)) h := by
    rw [e_J0_coder_7d493, b_J0_coder_7d493_0, if_neg (by decide), b_J0_coder_7d493_6, b_J0_coder_7d493_14 rfl]; exact ⟨rfl, rfl⟩
  have x185 : mn_X 185 [.ref 75] h (some (.int 5)) h := by
    rw [e_J0_length_8abf5, b_J0_length_8abf5_0, mn_cl_i x186, b_J0_length_8abf5_9]; exact ⟨by decide, rfl⟩
  have x187 : mn_X 187 [.int (nI c)] h (some (.int 1)) h := by
    rw [e_J1_canEncode_9a6ad, b_J1_canEncode_9a6ad_0, if_neg (nI_pos (by omega)), b_J1_canEncode_9a6ad_4, if_neg (show ¬ (255 : Int32) < nI c from nI_nlt (a := 255) (by omega) (by decide)), b_J1_canEncode_9a6ad_11, b_J1_canEncode_9a6ad_16 (Or.inr rfl)]; exact ⟨rfl, rfl⟩
  have x189 : mn_X 189 [.ref 76, .int (nI c), .int 0, .int 5] h (some (.int (if kdN c < 5 then nI (kdN c) else -1))) h := by
    rw [e_J1_indexOfChar_4cfef, b_J1_indexOfChar_4cfef_0]
    have key := mn_loopb (n := 5) (fun k => (∀ a, a < k → ¬ kdN c = a) → mn_E 189 7 [.ref 76, .int (nI c), .int 0, .int 5, .int (nI c).toInt8.toInt32, .int (nI k)] [] h (some (.int (if kdN c < 5 then nI (kdN c) else -1))) h) ?_ ?_ (i0 := 0) (Nat.zero_le _)
    · exact key (fun a ha => by omega)
    · intro al
      rw [b_J1_indexOfChar_4cfef_7, if_pos (show (5 : Int32) ≤ nI 5 from by decide), b_J1_indexOfChar_4cfef_31, if_neg (fun z => al _ z rfl)]; exact ⟨rfl, rfl⟩
    · intro k hk H al
      have be := mn_bytE c hc k hk
      rw [b_J1_indexOfChar_4cfef_7, if_neg (show ¬ (5 : Int32) ≤ nI k from nI_ge (b := 5) hk (by decide)), b_J1_indexOfChar_4cfef_13 (vp_in_nI hk (by decide)), nI_clamp (by omega)]
      by_cases o : kdN c = k
      · rw [if_neg (fun z => z (be.mpr o)), b_J1_indexOfChar_4cfef_22, if_pos (by omega), o]; exact ⟨rfl, rfl⟩
      · rw [if_pos (fun z => o (be.mp z)), b_J1_indexOfChar_4cfef_25, nI_1]
        exact H (fun a ha => by by_cases q : a = k
                                · rw [q]; exact o
                                · exact al a (by omega))
  have x188 : mn_X 188 [.ref 76, .int (nI c), .int 0, .int 5] h (some (.int (if kdN c < 5 then nI (kdN c) else -1))) h := by
    rw [e_J1_indexOf_4cfef, b_J1_indexOf_4cfef_0, mn_cl_i x187, b_J1_indexOf_4cfef_4, if_pos (by decide), b_J1_indexOf_4cfef_9, if_pos (show (if (0 : Int32) < 0 then (0 : Int32) else 0) < (if (5 : Int32) < 5 then 5 else 5) from by decide), b_J1_indexOf_4cfef_29]
    rw [show (if (0 : Int32) < 0 then (0 : Int32) else 0) = 0 from by decide, show (if (5 : Int32) < 5 then (5 : Int32) else 5) = 5 from by decide, mn_cl_i x189, b_J1_indexOf_4cfef_36]; exact ⟨rfl, rfl⟩
  have x183 : mn_X 183 [.ref 75, .int (nI c), .int 0] h (some (.int (if kdN c < 5 then nI (kdN c) else -1))) h := by
    rw [e_J0_indexOf_7cf53, b_J0_indexOf_7cf53_0, mn_cl_i x184, b_J0_indexOf_7cf53_4, if_neg (by decide), b_J0_indexOf_7cf53_7, mn_cl_i x185, b_J0_indexOf_7cf53_17, mn_cl_i x188, b_J0_indexOf_7cf53_20, b_J0_indexOf_7cf53_36]; exact ⟨rfl, rfl⟩
  rw [e_J0_indexOf_0f7a4, b_J0_indexOf_0f7a4_0, mn_cl_i x183, b_J0_indexOf_0f7a4_6]; exact ⟨rfl, rfl⟩
theorem mn_chr {c : Nat} (hc : c < 256) : ((nI c).toUInt32 % 65536).toInt32 = nI c := by
  rw [pk_char, pk_tn (by omega), Nat.mod_eq_of_lt (by omega)]
theorem x_readKind {i0 : Nat} (r : RC h len C i f g) (hf : f < 10) (s : SK C len i i0) : ∃ h', mn_X 20 [.ref 1] h (some (.int (nI (if kdE len C i0 = 0 then kdN (C i0) else 0)))) h' ∧ oF h h' ∧ RC h' len C (if kdE len C i0 = 0 then i0 + 1 else i0) (fz f (kdE len C i0)) (gz f (kdE len C i0) g i0) := by
  obtain ⟨h1, x1, o1, r1, -⟩ := x_skip r s
  have l250 := r.1.1
  have i0l := s.2.1
  have bad : ∃ h', (∀ k, mn_E 20 39 [.ref 1, .int k] [] h1 (some (.int 0)) h') ∧ oF h h' ∧ RC h' len C i0 (fz f 1) (gz f 1 g i0) := by
    obtain ⟨h3, x3, o3, r3, -⟩ := x_blame (e := 1) (p := i0) r1 (by decide) hf
    refine ⟨h3, fun k => ?_, o1.tr o3, r3⟩
    rw [b_X2_readKind_39, r1.2.2.1]
    rw [mn_cl_v (show mn_X 24 [.ref 1, .int 1, .int (nI i0)] h1 none h3 from x3), b_X2_readKind_48]; exact ⟨rfl, rfl⟩
  by_cases q : i0 < len
  · obtain ⟨v, w, c⟩ := r1.lt q
    by_cases o : kdN (C i0) < 5
    · have e0 : kdE len C i0 = 0 := by unfold kdE; rw [if_pos ⟨q, o⟩]
      rw [e0, if_pos rfl, if_pos rfl, fz0, gz0]
      refine ⟨mn_up h1 1 2 (nI (i0 + 1)), ?_, o1.up, r1.at (by omega)⟩
      rw [e_X2_readKind, b_X2_readKind_0, mn_cl_v x1, b_X2_readKind_4, r1.2.1, r1.2.2.1, if_neg (nI_ge q (by omega)), b_X2_readKind_15 v, w, mn_chr c, mn_cl_i (x_indexOf c), if_pos o, b_X2_readKind_30, b_X2_readKind_34, if_pos (nI_pos' (by omega)), b_X2_readKind_50, r1.2.2.1, nI_1]
      exact ⟨rfl, rfl⟩
    · have e0 : kdE len C i0 = 1 := by unfold kdE; rw [if_neg (fun z => o z.2)]
      rw [e0, if_neg (by decide), if_neg (by decide)]
      obtain ⟨h', z, w'⟩ := bad
      refine ⟨h', ?_, w'⟩
      rw [e_X2_readKind, b_X2_readKind_0, mn_cl_v x1, b_X2_readKind_4, r1.2.1, r1.2.2.1, if_neg (nI_ge q (by omega)), b_X2_readKind_15 v, w, mn_chr c, mn_cl_i (x_indexOf c), if_neg o, b_X2_readKind_30, b_X2_readKind_34, if_neg (by decide)]
      exact z _
  · have e0 : kdE len C i0 = 1 := by unfold kdE; rw [if_neg (fun z => q z.1)]
    rw [e0, if_neg (by decide), if_neg (by decide)]
    obtain ⟨h', z, w'⟩ := bad
    refine ⟨h', ?_, w'⟩
    rw [e_X2_readKind, b_X2_readKind_0, mn_cl_v x1, b_X2_readKind_4, r1.2.1, r1.2.2.1, if_pos (nI_le (by omega) (by omega)), b_X2_readKind_33, b_X2_readKind_34, if_neg (by decide)]
    exact z _
theorem x_clauseEnds {i0 : Nat} (r : RC h len C i f g) (hf : f < 10) (s : SK C len i i0) : ∃ h', mn_X 22 [.ref 1] h (some (.int (mz (decide (fz f (enE len C i0) = 0))))) h' ∧ oF h h' ∧ RC h' len C (if enE len C i0 = 0 then i0 + 1 else i0) (fz f (enE len C i0)) (gz f (enE len C i0) g i0) := by
  obtain ⟨h1, x1, o1, r1, -⟩ := x_skip r s
  have l250 := r.1.1
  have i0l := s.2.1
  have fin : ∀ (hh : mn_H) (k e : Nat) (g' : Int32), fz f e < 20 → RC hh len C k (fz f e) g' → mn_E 22 51 [.ref 1] [] hh (some (.int (mz (decide (fz f e = 0))))) hh := by
    intro hh k e g' hl rr
    rw [b_X2_clauseEnds_51, rr.2.2.2.2.1]
    by_cases o : fz f e = 0
    · rw [o, if_neg (show ¬ ¬ nI 0 = 0 from fun z => z rfl), b_X2_clauseEnds_58, b_X2_clauseEnds_63 (Or.inr rfl)]; exact ⟨rfl, rfl⟩
    · rw [if_pos (nI_ne0 (by omega) (by omega)), b_X2_clauseEnds_62, b_X2_clauseEnds_63 (Or.inl rfl), decide_eq_false o]; exact ⟨rfl, rfl⟩
  have fl : ∀ e, e < 10 → fz f e < 20 := fun e he => by unfold fz; split <;> omega
  by_cases q : i0 < len ∧ C i0 = 59
  · obtain ⟨v, w, c⟩ := r1.lt q.1
    have e0 : enE len C i0 = 0 := by unfold enE; rw [if_pos q]
    have ff := fin (mn_up h1 1 2 (nI (i0 + 1))) (i0 + 1) 0 g (fl 0 (by omega)) (by rw [fz0]; exact r1.at (by omega))
    rw [e0, if_pos rfl, gz0]
    refine ⟨mn_up h1 1 2 (nI (i0 + 1)), ?_, o1.up, by rw [fz0]; exact r1.at (by omega)⟩
    rw [e_X2_clauseEnds, b_X2_clauseEnds_0, mn_cl_v x1, b_X2_clauseEnds_4, r1.2.1, r1.2.2.1, if_neg (nI_ge q.1 (by omega)), b_X2_clauseEnds_15 v, w, q.2, if_pos (show nI 59 = 59 from rfl), b_X2_clauseEnds_41, r1.2.2.1, nI_1]
    exact ff
  · have e0 : enE len C i0 = 1 := by unfold enE; rw [if_neg q]
    rw [e0, if_neg (by decide)]
    obtain ⟨h3, x3, o3, r3, -⟩ := x_blame (e := 1) (p := i0) r1 (by decide) hf
    have ff := fin h3 i0 1 _ (fl 1 (by omega)) r3
    have tail : mn_E 22 29 [.ref 1] [] h1 (some (.int (mz (decide (fz f 1 = 0))))) h3 := by
      rw [b_X2_clauseEnds_29, r1.2.2.1]
      rw [mn_cl_v (show mn_X 24 [.ref 1, .int 1, .int (nI i0)] h1 none h3 from x3), b_X2_clauseEnds_38]
      exact ff
    refine ⟨h3, ?_, o1.tr o3, r3⟩
    rw [e_X2_clauseEnds, b_X2_clauseEnds_0, mn_cl_v x1, b_X2_clauseEnds_4, r1.2.1, r1.2.2.1]
    by_cases q1 : i0 < len
    · obtain ⟨v, w, c⟩ := r1.lt q1
      rw [if_neg (nI_ge q1 (by omega)), b_X2_clauseEnds_15 v, w, if_neg (show ¬ nI (C i0) = 59 from fun z => q ⟨q1, (nI_eq (b := 59) (by omega) (by decide)).mp z⟩)]
      exact tail
    · rw [if_pos (nI_le (by omega) (by omega))]
      exact tail
end KD
/-- the model's text and place -/
def MC (h : mn_H) (len : Nat) (C : Nat → Nat) (i : Nat) : Prop := TX h 64 len C ∧ h 63 1 = nI len ∧ h 63 10 = nI i ∧ i ≤ len
def nF (h hh : mn_H) : Prop := (∀ b, b ≠ 63 → hh b = h b) ∧ ∀ k, k ≠ 10 → k ≠ 11 → k ≠ 12 → hh 63 k = h 63 k
theorem nF.rf (h : mn_H) : nF h h := ⟨fun _ _ => rfl, fun _ _ _ _ => rfl⟩
theorem nF.tr {h h1 h2 : mn_H} (a : nF h h1) (b : nF h1 h2) : nF h h2 := ⟨fun c x => (b.1 c x).trans (a.1 c x), fun k x y z => (b.2 k x y z).trans (a.2 k x y z)⟩
theorem nF.up {h hh : mn_H} (f : nF h hh) {k : Nat} {x : Int32} (hk : k = 10 ∨ k = 11 ∨ k = 12) : nF h (mn_up hh 63 k x) :=
  ⟨fun b q => by rw [mn_up_row _ _ _ _ q]; exact f.1 b q, fun j a b c => by rw [mn_up_get, if_neg (fun z => by have := z.2; omega)]; exact f.2 j a b c⟩
def chI (len : Nat) (C : Nat → Nat) (k : Nat) : Int32 := if k < len then nI (C k) else -1
