def fe : List (Nat × Nat) → Nat × Nat
  | [] => (0, 0)
  | x :: r => if x.1 = 0 then fe r else x
def FG : Nat × Int32 → List (Nat × Nat) → Nat × Int32
  | s, [] => s
  | s, x :: r => FG (fz s.1 x.1, gz s.1 x.1 s.2 x.2) r
theorem FG_ne {f : Nat} (hf : f ≠ 0) (g : Int32) : ∀ l, FG (f, g) l = (f, g) := by
  intro l
  induction l with
  | nil => rfl
  | cons x r ih =>
    show FG (fz f x.1, gz f x.1 g x.2) r = _
    have e1 : fz f x.1 = f := by unfold fz; rw [if_neg hf]
    have e2 : gz f x.1 g x.2 = g := by unfold gz; rw [if_neg (fun z => hf z.1)]
    rw [e1, e2]; exact ih
theorem FG_0 : ∀ l, FG (0, -1) l = ((fe l).1, if (fe l).1 = 0 then -1 else nI (fe l).2) := by
  intro l
  induction l with
  | nil => rfl
  | cons x r ih =>
    show FG (fz 0 x.1, gz 0 x.1 (-1) x.2) r = _
    rw [fe]
    by_cases o : x.1 = 0
    · rw [if_pos o, o, fz0, gz0]; exact ih
    · rw [if_neg o]
      have e1 : fz 0 x.1 = x.1 := by unfold fz; rw [if_pos rfl]
      have e2 : gz 0 x.1 (-1) x.2 = nI x.2 := by unfold gz; rw [if_pos ⟨rfl, o⟩]
      rw [e1, e2, FG_ne o, if_neg o]
theorem fe0 {x : Nat × Nat} {r : List (Nat × Nat)} : (fe (x :: r)).1 = 0 ↔ x.1 = 0 ∧ (fe r).1 = 0 := by
  rw [fe]
  by_cases o : x.1 = 0
  · rw [if_pos o]; exact ⟨fun z => ⟨o, z⟩, fun z => z.2⟩
  · rw [if_neg o]; exact ⟨fun z => absurd z o, fun z => z.1⟩
theorem fz_lt {f e : Nat} (hf : f < 10) (he : e < 10) : fz f e < 10 := by unfold fz; split <;> omega
theorem numE_lt (C : Nat → Nat) (lo hb i j : Nat) : numE C lo hb i j < 10 := by
  unfold numE
  repeat' split
  all_goals omega
theorem kdE_lt (len : Nat) (C : Nat → Nat) (i : Nat) : kdE len C i < 10 := by unfold kdE; split <;> omega
theorem enE_lt (len : Nat) (C : Nat → Nat) (i : Nat) : enE len C i < 10 := by unfold enE; split <;> omega
def rmE (n mx : Nat) : Nat := if mx ≤ n then 3 else 0
theorem rmE_lt (n mx : Nat) : rmE n mx < 10 := by unfold rmE; split <;> omega
theorem rmE_0 {n mx : Nat} (e : rmE n mx = 0) : n < mx := by
  unfold rmE at e
  by_cases o : mx ≤ n
  · rw [if_pos o] at e; cases e
  · omega
theorem numE_0 {C : Nat → Nat} {lo hb i j : Nat} (e : numE C lo hb i j = 0) : lo ≤ dvN C i (min (j - i) 3) ∧ dvN C i (min (j - i) 3) < hb := by
  unfold numE at e
  by_cases o : j = i
  · rw [if_pos o] at e; cases e
  · rw [if_neg o] at e
    by_cases q : 3 < j - i ∨ dvN C i (min (j - i) 3) < lo ∨ hb ≤ dvN C i (min (j - i) 3)
    · rw [if_pos q] at e; cases e
    · omega
theorem enE_0 {len : Nat} {C : Nat → Nat} {i : Nat} (e : enE len C i = 0) : i < len ∧ C i = 59 := by
  unfold enE at e
  by_cases o : i < len ∧ C i = 59
  · exact o
  · rw [if_neg o] at e; cases e
theorem kdE_0 {len : Nat} {C : Nat → Nat} {i : Nat} (e : kdE len C i = 0) : i < len ∧ kdN (C i) < 5 := by
  unfold kdE at e
  by_cases o : i < len ∧ kdN (C i) < 5
  · exact o
  · rw [if_neg o] at e; cases e
/-- only the reader and one town have changed -/
def uF (t : Nat) (h hh : mn_H) : Prop := ∀ b, b ≠ 1 → (b < t ∨ t + 19 < b) → hh b = h b
theorem GC.of {h hh : mn_H} {t : Nat} {T : TW} (ht : mn_isT t) (o : oF h hh) (g : GC h t T) : GC hh t T := by
  have e : ∀ k, hh (t + k) = h (t + k) := fun k => o _ (by rcases ht with e | e <;> omega)
  obtain ⟨g1, g2, g3⟩ := g
  exact ⟨fun c hc => by rw [e]; exact g1 c hc, fun a h1 h2 b hb => by rw [e]; exact g2 a h1 h2 b hb, fun k hk => by rw [e]; exact g3 k hk⟩
section CLA
variable {h hh : mn_H} {len i f : Nat} {C : Nat → Nat} {g : Int32} {t w : Nat} {T : TW} {td : Nat}
theorem x_rn {i0 j lo hb : Nat} {a b : Int32} (ea : a = nI lo) (eb : b = nI hb - 1) (r : RC h len C i f g) (hf : f < 10) (s : SK C len i i0) (d : DG C len i0 j) (hlo : lo < 2 ^ 30) (hhb : hb < 2 ^ 30) : ∃ h', mn_X 21 [.ref 1, .int a, .int b] h (some (.int (nI (dvN C i0 (min (j - i0) 3))))) h' ∧ oF h h' ∧ RC h' len C j (fz f (numE C lo hb i0 j)) (gz f (numE C lo hb i0 j) g i0) ∧ h' 1 3 = nI i0 := by
  subst ea; subst eb
  exact x_readNum r hf s d hlo hhb
theorem x_roomC (r : RC h len C i 0 (-1)) (n mx w : Nat) : ∃ h0, oF h h0 ∧ RC h0 len C i (fz 0 (rmE n mx)) (gz 0 (rmE n mx) (-1) w) ∧ ((n < mx ∧ h0 = h) ∨ (mx ≤ n ∧ mn_X 24 [.ref 1, .int 3, .int (nI w)] h none h0)) := by
  unfold rmE
  by_cases o : mx ≤ n
  · obtain ⟨h0, x0, o0, r0, -⟩ := x_blame (e := 3) (p := w) r (by decide) (by decide)
    rw [if_pos o]
    exact ⟨h0, o0, r0, Or.inr ⟨o, x0⟩⟩
  · rw [if_neg o, fz0, gz0]
    exact ⟨h, oF.rf h, r, Or.inl ⟨by omega, rfl⟩⟩
theorem c_bell (ht : mn_isT t) {i1 i2 j2 i3 j3 i4 : Nat} (s1 : SK C len (w + 1) i1) (s2 : SK C len (if kdE len C i1 = 0 then i1 + 1 else i1) i2) (d2 : DG C len i2 j2) (s3 : SK C len j2 i3) (d3 : DG C len i3 j3) (s4 : SK C len j3 i4) (w2 : TW2 T) (r : RC h len C (w + 1) 0 (-1)) (g : GC h t T) (htd : h t 16 = nI td) : ∃ h', mn_X 15 [.ref 1, .ref t, .int (nI w)] h none h' ∧ uF t h h' ∧ ((fe [(rmE (T 0 0) 5, w), (kdE len C i1, i1), (numE C 0 6 i2 j2, i2), (numE C 0 6 i3 j3, i3), (enE len C i4, i4)]).1 ≠ 0 → ∃ a, RC h' len C a (fe [(rmE (T 0 0) 5, w), (kdE len C i1, i1), (numE C 0 6 i2 j2, i2), (numE C 0 6 i3 j3, i3), (enE len C i4, i4)]).1 (nI (fe [(rmE (T 0 0) 5, w), (kdE len C i1, i1), (numE C 0 6 i2 j2, i2), (numE C 0 6 i3 j3, i3), (enE len C i4, i4)]).2)) ∧ ((fe [(rmE (T 0 0) 5, w), (kdE len C i1, i1), (numE C 0 6 i2 j2, i2), (numE C 0 6 i3 j3, i3), (enE len C i4, i4)]).1 = 0 → RC h' len C (i4 + 1) 0 (-1) ∧ GC h' t (twA T 0 (fun a => if a = 1 then kdN (C i1) else if a = 2 then dvN C i2 (min (j2 - i2) 3) else dvN C i3 (min (j3 - i3) 3))) ∧ h' t 16 = nI td) := by
  have fg := FG_0 [(rmE (T 0 0) 5, w), (kdE len C i1, i1), (numE C 0 6 i2 j2, i2), (numE C 0 6 i3 j3, i3), (enE len C i4, i4)]
  obtain ⟨h0, o0, r0, cs⟩ := x_roomC r (T 0 0) 5 w
  have t0 : T 0 0 ≤ 5 := w2.1 0 (by decide)
  have t00 : T 0 0 ≤ 5 := w2.1 0 (by decide)
  have b0 : fz 0 (rmE (T 0 0) 5) < 10 := fz_lt (by decide) (rmE_lt _ _)
  have ec : h t 0 = nI (T 0 0) := g.1 0 (by decide)
  have hd : ∀ q h'', mn_E 15 14 [.ref 1, .ref t, .int (nI w), .null, .null, .null] [] h0 q h'' → mn_X 15 [.ref 1, .ref t, .int (nI w)] h q h'' := by
    intro q h'' z
    rcases cs with ⟨lt, rfl⟩ | ⟨le, x⟩
    · rw [e_X2_readBell, b_X2_readBell_0 ht, ec, if_pos (show nI _ < (5 : Int32) from nI_lt (b := 5) lt (by decide))]; exact z
    · rw [e_X2_readBell, b_X2_readBell_0 ht, ec, if_neg (show ¬ nI _ < (5 : Int32) from nI_nlt (b := 5) le (by omega)), b_X2_readBell_8 ht, mn_cl_v x]; exact z
  obtain ⟨h1, x1, o1, r1⟩ := x_readKind r0 b0 s1
  have b1 := fz_lt b0 (kdE_lt len C i1)
  obtain ⟨h2, x2, o2, r2, -⟩ := x_rn (lo := 0) (hb := 6) (a := 0) (b := 5) (by rfl) (by first | rfl | decide) r1 b1 s2 d2 (by decide) (by omega)
  have b2 := fz_lt b1 (numE_lt C 0 6 i2 j2)
  obtain ⟨h3, x3, o3, r3, -⟩ := x_rn (lo := 0) (hb := 6) (a := 0) (b := 5) (by rfl) (by first | rfl | decide) r2 b2 s3 d3 (by decide) (by omega)
  have b3 := fz_lt b2 (numE_lt C 0 6 i3 j3)
  obtain ⟨h4, x4, o4, r4⟩ := x_clauseEnds r3 b3 s4
  have oo : oF h h4 := (((o0.tr o1).tr o2).tr o3).tr o4
  have gg := g.of ht oo
  have uu : uF t h h4 := fun b q _ => oo b q
  have e16 : h4 t 16 = nI td := by rw [oo t (by rcases ht with e | e <;> omega)]; exact htd
  have fF : fz (fz (fz (fz (fz 0 (rmE (T 0 0) 5)) (kdE len C i1)) (numE C 0 6 i2 j2)) (numE C 0 6 i3 j3)) (enE len C i4) = (fe [(rmE (T 0 0) 5, w), (kdE len C i1, i1), (numE C 0 6 i2 j2, i2), (numE C 0 6 i3 j3, i3), (enE len C i4, i4)]).1 := congrArg Prod.fst fg
  have fG : gz (fz (fz (fz (fz 0 (rmE (T 0 0) 5)) (kdE len C i1)) (numE C 0 6 i2 j2)) (numE C 0 6 i3 j3)) (enE len C i4) (gz (fz (fz (fz 0 (rmE (T 0 0) 5)) (kdE len C i1)) (numE C 0 6 i2 j2)) (numE C 0 6 i3 j3) (gz (fz (fz 0 (rmE (T 0 0) 5)) (kdE len C i1)) (numE C 0 6 i2 j2) (gz (fz 0 (rmE (T 0 0) 5)) (kdE len C i1) (gz 0 (rmE (T 0 0) 5) (-1) w) i1) i2) i3) i4 = if (fe [(rmE (T 0 0) 5, w), (kdE len C i1, i1), (numE C 0 6 i2 j2, i2), (numE C 0 6 i3 j3, i3), (enE len C i4, i4)]).1 = 0 then -1 else nI (fe [(rmE (T 0 0) 5, w), (kdE len C i1, i1), (numE C 0 6 i2 j2, i2), (numE C 0 6 i3 j3, i3), (enE len C i4, i4)]).2 := congrArg Prod.snd fg
  rw [fF] at x4 r4
  rw [fG] at r4
  by_cases F0 : (fe [(rmE (T 0 0) 5, w), (kdE len C i1, i1), (numE C 0 6 i2 j2, i2), (numE C 0 6 i3 j3, i3), (enE len C i4, i4)]).1 = 0
  · have al := F0
    simp only [fe0] at al
    obtain ⟨a0, a1, a2, a3, a4, -⟩ := al
    have lt := rmE_0 a0
    rw [F0, if_pos rfl, a4, if_pos rfl] at r4
    rw [F0, decide_eq_true rfl] at x4
    rw [a1, if_pos rfl] at x1
    obtain ⟨h9, x9, t9, q9, g9⟩ := x_addBell (y1 := kdN (C i1)) (y2 := dvN C i2 (min (j2 - i2) 3)) (y3 := dvN C i3 (min (j3 - i3) 3)) ht gg rfl lt
    refine ⟨h9, hd _ _ ?_, fun b q1 q2 => by rw [t9 b q2]; exact oo b q1, fun z => absurd F0 z, fun _ => ⟨?_, g9, by rw [q9]; exact e16⟩⟩
    · rw [b_X2_readBell_14 ht, mn_cl_i x1, b_X2_readBell_18 ht, mn_cl_i x2, b_X2_readBell_25 ht, mn_cl_i x3, b_X2_readBell_33 ht, mn_cl_i x4, b_X2_readBell_39 ht, if_neg (by decide), b_X2_readBell_42 ht, mn_cl_v x9, b_X2_readBell_51 ht]; exact ⟨rfl, rfl⟩
    · have e1 := t9 1 (by rcases ht with e | e <;> omega)
      have e2 := t9 2 (by rcases ht with e | e <;> omega)
      obtain ⟨u1, u2, u3, u4, u5, u6⟩ := r4
      exact ⟨u1.row e2, by rw [e1]; exact u2, by rw [e1]; exact u3, u4, by rw [e1]; exact u5, by rw [e1]; exact u6⟩
  · rw [decide_eq_false F0] at x4
    rw [if_neg F0] at r4
    refine ⟨h4, hd _ _ ?_, uu, fun _ => ⟨_, r4⟩, fun z => absurd z F0⟩
    rw [b_X2_readBell_14 ht, mn_cl_i x1, b_X2_readBell_18 ht, mn_cl_i x2, b_X2_readBell_25 ht, mn_cl_i x3, b_X2_readBell_33 ht, mn_cl_i x4, b_X2_readBell_39 ht, if_pos mz_f, b_X2_readBell_51 ht]; exact ⟨rfl, rfl⟩
theorem c_group (ht : mn_isT t) {i1 j1 i2 j2 i3 j3 i4 j4 i5 : Nat} (s1 : SK C len (w + 1) i1) (d1 : DG C len i1 j1) (s2 : SK C len j1 i2) (d2 : DG C len i2 j2) (s3 : SK C len j2 i3) (d3 : DG C len i3 j3) (s4 : SK C len j3 i4) (d4 : DG C len i4 j4) (s5 : SK C len j4 i5) (w2 : TW2 T) (r : RC h len C (w + 1) 0 (-1)) (g : GC h t T) (htd : h t 16 = nI td) : ∃ h', mn_X 16 [.ref 1, .ref t, .int (nI w)] h none h' ∧ uF t h h' ∧ ((fe [(rmE (T 0 1) 6, w), (numE C 1 100 i1 j1, i1), (numE C 0 (T 0 0) i2 j2, i2), (numE C 0 7 i3 j3, i3), (numE C 0 7 i4 j4, i4), (enE len C i5, i5)]).1 ≠ 0 → ∃ a, RC h' len C a (fe [(rmE (T 0 1) 6, w), (numE C 1 100 i1 j1, i1), (numE C 0 (T 0 0) i2 j2, i2), (numE C 0 7 i3 j3, i3), (numE C 0 7 i4 j4, i4), (enE len C i5, i5)]).1 (nI (fe [(rmE (T 0 1) 6, w), (numE C 1 100 i1 j1, i1), (numE C 0 (T 0 0) i2 j2, i2), (numE C 0 7 i3 j3, i3), (numE C 0 7 i4 j4, i4), (enE len C i5, i5)]).2)) ∧ ((fe [(rmE (T 0 1) 6, w), (numE C 1 100 i1 j1, i1), (numE C 0 (T 0 0) i2 j2, i2), (numE C 0 7 i3 j3, i3), (numE C 0 7 i4 j4, i4), (enE len C i5, i5)]).1 = 0 → RC h' len C (i5 + 1) 0 (-1) ∧ GC h' t (twA T 1 (fun a => if a = 4 then dvN C i1 (min (j1 - i1) 3) else if a = 5 then dvN C i2 (min (j2 - i2) 3) else if a = 6 then dvN C i3 (min (j3 - i3) 3) else dvN C i4 (min (j4 - i4) 3))) ∧ h' t 16 = nI td) := by
  have fg := FG_0 [(rmE (T 0 1) 6, w), (numE C 1 100 i1 j1, i1), (numE C 0 (T 0 0) i2 j2, i2), (numE C 0 7 i3 j3, i3), (numE C 0 7 i4 j4, i4), (enE len C i5, i5)]
  obtain ⟨h0, o0, r0, cs⟩ := x_roomC r (T 0 1) 6 w
  have t0 : T 0 1 ≤ 6 := w2.1 1 (by decide)
  have t00 : T 0 0 ≤ 5 := w2.1 0 (by decide)
  have b0 : fz 0 (rmE (T 0 1) 6) < 10 := fz_lt (by decide) (rmE_lt _ _)
  have ec : h t 4 = nI (T 0 1) := g.1 1 (by decide)
  have hd : ∀ q h'', mn_E 16 15 [.ref 1, .ref t, .int (nI w), .null, .null, .null, .null] [] h0 q h'' → mn_X 16 [.ref 1, .ref t, .int (nI w)] h q h'' := by
    intro q h'' z
    rcases cs with ⟨lt, rfl⟩ | ⟨le, x⟩
    · rw [e_X2_readGroup, b_X2_readGroup_0 ht, ec, if_pos (show nI _ < (6 : Int32) from nI_lt (b := 6) lt (by decide))]; exact z
    · rw [e_X2_readGroup, b_X2_readGroup_0 ht, ec, if_neg (show ¬ nI _ < (6 : Int32) from nI_nlt (b := 6) le (by omega)), b_X2_readGroup_9 ht, mn_cl_v x]; exact z
  obtain ⟨h1, x1, o1, r1, -⟩ := x_rn (lo := 1) (hb := 100) (a := 1) (b := 99) (by rfl) (by first | rfl | decide) r0 b0 s1 d1 (by decide) (by omega)
  have b1 := fz_lt b0 (numE_lt C 1 100 i1 j1)
  obtain ⟨h2, x2, o2, r2, -⟩ := x_rn (lo := 0) (hb := (T 0 0)) (a := 0) (b := (nI (T 0 0) - 1)) (by rfl) (by first | rfl | decide) r1 b1 s2 d2 (by decide) (by omega)
  have b2 := fz_lt b1 (numE_lt C 0 (T 0 0) i2 j2)
  have e20 : h1 t 0 = nI (T 0 0) := by rw [o1 t (by rcases ht with e | e <;> omega), o0 t (by rcases ht with e | e <;> omega)]; exact g.1 0 (by decide)
  obtain ⟨h3, x3, o3, r3, -⟩ := x_rn (lo := 0) (hb := 7) (a := 0) (b := 6) (by rfl) (by first | rfl | decide) r2 b2 s3 d3 (by decide) (by omega)
  have b3 := fz_lt b2 (numE_lt C 0 7 i3 j3)
  obtain ⟨h4, x4, o4, r4, -⟩ := x_rn (lo := 0) (hb := 7) (a := 0) (b := 6) (by rfl) (by first | rfl | decide) r3 b3 s4 d4 (by decide) (by omega)
  have b4 := fz_lt b3 (numE_lt C 0 7 i4 j4)
  obtain ⟨h5, x5, o5, r5⟩ := x_clauseEnds r4 b4 s5
  have oo : oF h h5 := ((((o0.tr o1).tr o2).tr o3).tr o4).tr o5
  have gg := g.of ht oo
  have uu : uF t h h5 := fun b q _ => oo b q
  have e16 : h5 t 16 = nI td := by rw [oo t (by rcases ht with e | e <;> omega)]; exact htd
  have fF : fz (fz (fz (fz (fz (fz 0 (rmE (T 0 1) 6)) (numE C 1 100 i1 j1)) (numE C 0 (T 0 0) i2 j2)) (numE C 0 7 i3 j3)) (numE C 0 7 i4 j4)) (enE len C i5) = (fe [(rmE (T 0 1) 6, w), (numE C 1 100 i1 j1, i1), (numE C 0 (T 0 0) i2 j2, i2), (numE C 0 7 i3 j3, i3), (numE C 0 7 i4 j4, i4), (enE len C i5, i5)]).1 := congrArg Prod.fst fg
  have fG : gz (fz (fz (fz (fz (fz 0 (rmE (T 0 1) 6)) (numE C 1 100 i1 j1)) (numE C 0 (T 0 0) i2 j2)) (numE C 0 7 i3 j3)) (numE C 0 7 i4 j4)) (enE len C i5) (gz (fz (fz (fz (fz 0 (rmE (T 0 1) 6)) (numE C 1 100 i1 j1)) (numE C 0 (T 0 0) i2 j2)) (numE C 0 7 i3 j3)) (numE C 0 7 i4 j4) (gz (fz (fz (fz 0 (rmE (T 0 1) 6)) (numE C 1 100 i1 j1)) (numE C 0 (T 0 0) i2 j2)) (numE C 0 7 i3 j3) (gz (fz (fz 0 (rmE (T 0 1) 6)) (numE C 1 100 i1 j1)) (numE C 0 (T 0 0) i2 j2) (gz (fz 0 (rmE (T 0 1) 6)) (numE C 1 100 i1 j1) (gz 0 (rmE (T 0 1) 6) (-1) w) i1) i2) i3) i4) i5 = if (fe [(rmE (T 0 1) 6, w), (numE C 1 100 i1 j1, i1), (numE C 0 (T 0 0) i2 j2, i2), (numE C 0 7 i3 j3, i3), (numE C 0 7 i4 j4, i4), (enE len C i5, i5)]).1 = 0 then -1 else nI (fe [(rmE (T 0 1) 6, w), (numE C 1 100 i1 j1, i1), (numE C 0 (T 0 0) i2 j2, i2), (numE C 0 7 i3 j3, i3), (numE C 0 7 i4 j4, i4), (enE len C i5, i5)]).2 := congrArg Prod.snd fg
  rw [fF] at x5 r5
  rw [fG] at r5
  by_cases F0 : (fe [(rmE (T 0 1) 6, w), (numE C 1 100 i1 j1, i1), (numE C 0 (T 0 0) i2 j2, i2), (numE C 0 7 i3 j3, i3), (numE C 0 7 i4 j4, i4), (enE len C i5, i5)]).1 = 0
  · have al := F0
    simp only [fe0] at al
    obtain ⟨a0, a1, a2, a3, a4, a5, -⟩ := al
    have lt := rmE_0 a0
    rw [F0, if_pos rfl, a5, if_pos rfl] at r5
    rw [F0, decide_eq_true rfl] at x5
    obtain ⟨h9, x9, t9, q9, g9⟩ := x_addGroup (y4 := dvN C i1 (min (j1 - i1) 3)) (y5 := dvN C i2 (min (j2 - i2) 3)) (y6 := dvN C i3 (min (j3 - i3) 3)) (y7 := dvN C i4 (min (j4 - i4) 3)) ht gg rfl lt
    refine ⟨h9, hd _ _ ?_, fun b q1 q2 => by rw [t9 b q2]; exact oo b q1, fun z => absurd F0 z, fun _ => ⟨?_, g9, by rw [q9]; exact e16⟩⟩
    · rw [b_X2_readGroup_15 ht, mn_cl_i x1, b_X2_readGroup_22 ht, e20, mn_cl_i x2, b_X2_readGroup_34 ht, mn_cl_i x3, b_X2_readGroup_43 ht, mn_cl_i x4, b_X2_readGroup_52 ht, mn_cl_i x5, b_X2_readGroup_58 ht, if_neg (by decide), b_X2_readGroup_61 ht, mn_cl_v x9, b_X2_readGroup_72 ht]; exact ⟨rfl, rfl⟩
    · have e1 := t9 1 (by rcases ht with e | e <;> omega)
      have e2 := t9 2 (by rcases ht with e | e <;> omega)
      obtain ⟨u1, u2, u3, u4, u5, u6⟩ := r5
      exact ⟨u1.row e2, by rw [e1]; exact u2, by rw [e1]; exact u3, u4, by rw [e1]; exact u5, by rw [e1]; exact u6⟩
  · rw [decide_eq_false F0] at x5
    rw [if_neg F0] at r5
    refine ⟨h5, hd _ _ ?_, uu, fun _ => ⟨_, r5⟩, fun z => absurd z F0⟩
    rw [b_X2_readGroup_15 ht, mn_cl_i x1, b_X2_readGroup_22 ht, e20, mn_cl_i x2, b_X2_readGroup_34 ht, mn_cl_i x3, b_X2_readGroup_43 ht, mn_cl_i x4, b_X2_readGroup_52 ht, mn_cl_i x5, b_X2_readGroup_58 ht, if_pos mz_f, b_X2_readGroup_72 ht]; exact ⟨rfl, rfl⟩
theorem c_self (ht : mn_isT t) {i1 j1 i2 j2 i3 j3 i4 : Nat} (s1 : SK C len (w + 1) i1) (d1 : DG C len i1 j1) (s2 : SK C len j1 i2) (d2 : DG C len i2 j2) (s3 : SK C len j2 i3) (d3 : DG C len i3 j3) (s4 : SK C len j3 i4) (w2 : TW2 T) (r : RC h len C (w + 1) 0 (-1)) (g : GC h t T) (htd : h t 16 = nI td) : ∃ h', mn_X 18 [.ref 1, .ref t, .int (nI w)] h none h' ∧ uF t h h' ∧ ((fe [(rmE (T 0 4) 3, w), (numE C 0 6 i1 j1, i1), (numE C 1 13 i2 j2, i2), (numE C 0 12 i3 j3, i3), (enE len C i4, i4)]).1 ≠ 0 → ∃ a, RC h' len C a (fe [(rmE (T 0 4) 3, w), (numE C 0 6 i1 j1, i1), (numE C 1 13 i2 j2, i2), (numE C 0 12 i3 j3, i3), (enE len C i4, i4)]).1 (nI (fe [(rmE (T 0 4) 3, w), (numE C 0 6 i1 j1, i1), (numE C 1 13 i2 j2, i2), (numE C 0 12 i3 j3, i3), (enE len C i4, i4)]).2)) ∧ ((fe [(rmE (T 0 4) 3, w), (numE C 0 6 i1 j1, i1), (numE C 1 13 i2 j2, i2), (numE C 0 12 i3 j3, i3), (enE len C i4, i4)]).1 = 0 → RC h' len C (i4 + 1) 0 (-1) ∧ GC h' t (twA T 4 (fun a => if a = 14 then dvN C i1 (min (j1 - i1) 3) else if a = 15 then dvN C i2 (min (j2 - i2) 3) else dvN C i3 (min (j3 - i3) 3))) ∧ h' t 16 = nI td) := by
  have fg := FG_0 [(rmE (T 0 4) 3, w), (numE C 0 6 i1 j1, i1), (numE C 1 13 i2 j2, i2), (numE C 0 12 i3 j3, i3), (enE len C i4, i4)]
  obtain ⟨h0, o0, r0, cs⟩ := x_roomC r (T 0 4) 3 w
  have t0 : T 0 4 ≤ 3 := w2.1 4 (by decide)
  have t00 : T 0 0 ≤ 5 := w2.1 0 (by decide)
  have b0 : fz 0 (rmE (T 0 4) 3) < 10 := fz_lt (by decide) (rmE_lt _ _)
  have ec : h t 11 = nI (T 0 4) := g.1 4 (by decide)
  have hd : ∀ q h'', mn_E 18 14 [.ref 1, .ref t, .int (nI w), .null, .null, .null] [] h0 q h'' → mn_X 18 [.ref 1, .ref t, .int (nI w)] h q h'' := by
    intro q h'' z
    rcases cs with ⟨lt, rfl⟩ | ⟨le, x⟩
    · rw [e_X2_readSelf, b_X2_readSelf_0 ht, ec, if_pos (show nI _ < (3 : Int32) from nI_lt (b := 3) lt (by decide))]; exact z
    · rw [e_X2_readSelf, b_X2_readSelf_0 ht, ec, if_neg (show ¬ nI _ < (3 : Int32) from nI_nlt (b := 3) le (by omega)), b_X2_readSelf_8 ht, mn_cl_v x]; exact z
  obtain ⟨h1, x1, o1, r1, -⟩ := x_rn (lo := 0) (hb := 6) (a := 0) (b := 5) (by rfl) (by first | rfl | decide) r0 b0 s1 d1 (by decide) (by omega)
  have b1 := fz_lt b0 (numE_lt C 0 6 i1 j1)
  obtain ⟨h2, x2, o2, r2, -⟩ := x_rn (lo := 1) (hb := 13) (a := 1) (b := 12) (by rfl) (by first | rfl | decide) r1 b1 s2 d2 (by decide) (by omega)
  have b2 := fz_lt b1 (numE_lt C 1 13 i2 j2)
  obtain ⟨h3, x3, o3, r3, -⟩ := x_rn (lo := 0) (hb := 12) (a := 0) (b := 11) (by rfl) (by first | rfl | decide) r2 b2 s3 d3 (by decide) (by omega)
  have b3 := fz_lt b2 (numE_lt C 0 12 i3 j3)
  obtain ⟨h4, x4, o4, r4⟩ := x_clauseEnds r3 b3 s4
  have oo : oF h h4 := (((o0.tr o1).tr o2).tr o3).tr o4
  have gg := g.of ht oo
  have uu : uF t h h4 := fun b q _ => oo b q
  have e16 : h4 t 16 = nI td := by rw [oo t (by rcases ht with e | e <;> omega)]; exact htd
  have fF : fz (fz (fz (fz (fz 0 (rmE (T 0 4) 3)) (numE C 0 6 i1 j1)) (numE C 1 13 i2 j2)) (numE C 0 12 i3 j3)) (enE len C i4) = (fe [(rmE (T 0 4) 3, w), (numE C 0 6 i1 j1, i1), (numE C 1 13 i2 j2, i2), (numE C 0 12 i3 j3, i3), (enE len C i4, i4)]).1 := congrArg Prod.fst fg
  have fG : gz (fz (fz (fz (fz 0 (rmE (T 0 4) 3)) (numE C 0 6 i1 j1)) (numE C 1 13 i2 j2)) (numE C 0 12 i3 j3)) (enE len C i4) (gz (fz (fz (fz 0 (rmE (T 0 4) 3)) (numE C 0 6 i1 j1)) (numE C 1 13 i2 j2)) (numE C 0 12 i3 j3) (gz (fz (fz 0 (rmE (T 0 4) 3)) (numE C 0 6 i1 j1)) (numE C 1 13 i2 j2) (gz (fz 0 (rmE (T 0 4) 3)) (numE C 0 6 i1 j1) (gz 0 (rmE (T 0 4) 3) (-1) w) i1) i2) i3) i4 = if (fe [(rmE (T 0 4) 3, w), (numE C 0 6 i1 j1, i1), (numE C 1 13 i2 j2, i2), (numE C 0 12 i3 j3, i3), (enE len C i4, i4)]).1 = 0 then -1 else nI (fe [(rmE (T 0 4) 3, w), (numE C 0 6 i1 j1, i1), (numE C 1 13 i2 j2, i2), (numE C 0 12 i3 j3, i3), (enE len C i4, i4)]).2 := congrArg Prod.snd fg
  rw [fF] at x4 r4
  rw [fG] at r4
  by_cases F0 : (fe [(rmE (T 0 4) 3, w), (numE C 0 6 i1 j1, i1), (numE C 1 13 i2 j2, i2), (numE C 0 12 i3 j3, i3), (enE len C i4, i4)]).1 = 0
  · have al := F0
    simp only [fe0] at al
    obtain ⟨a0, a1, a2, a3, a4, -⟩ := al
    have lt := rmE_0 a0
    rw [F0, if_pos rfl, a4, if_pos rfl] at r4
    rw [F0, decide_eq_true rfl] at x4
    obtain ⟨h9, x9, t9, q9, g9⟩ := x_addSelf (y14 := dvN C i1 (min (j1 - i1) 3)) (y15 := dvN C i2 (min (j2 - i2) 3)) (y16 := dvN C i3 (min (j3 - i3) 3)) ht gg rfl lt
    refine ⟨h9, hd _ _ ?_, fun b q1 q2 => by rw [t9 b q2]; exact oo b q1, fun z => absurd F0 z, fun _ => ⟨?_, g9, by rw [q9]; exact e16⟩⟩
    · rw [b_X2_readSelf_14 ht, mn_cl_i x1, b_X2_readSelf_20 ht, mn_cl_i x2, b_X2_readSelf_28 ht, mn_cl_i x3, b_X2_readSelf_37 ht, mn_cl_i x4, b_X2_readSelf_43 ht, if_neg (by decide), b_X2_readSelf_46 ht, mn_cl_v x9, b_X2_readSelf_55 ht]; exact ⟨rfl, rfl⟩
    · have e1 := t9 1 (by rcases ht with e | e <;> omega)
      have e2 := t9 2 (by rcases ht with e | e <;> omega)
      obtain ⟨u1, u2, u3, u4, u5, u6⟩ := r4
      exact ⟨u1.row e2, by rw [e1]; exact u2, by rw [e1]; exact u3, u4, by rw [e1]; exact u5, by rw [e1]; exact u6⟩
  · rw [decide_eq_false F0] at x4
    rw [if_neg F0] at r4
    refine ⟨h4, hd _ _ ?_, uu, fun _ => ⟨_, r4⟩, fun z => absurd z F0⟩
    rw [b_X2_readSelf_14 ht, mn_cl_i x1, b_X2_readSelf_20 ht, mn_cl_i x2, b_X2_readSelf_28 ht, mn_cl_i x3, b_X2_readSelf_37 ht, mn_cl_i x4, b_X2_readSelf_43 ht, if_pos mz_f, b_X2_readSelf_55 ht]; exact ⟨rfl, rfl⟩
theorem c_cause (ht : mn_isT t) {i1 j1 i2 j2 i3 j3 i4 : Nat} (s1 : SK C len (w + 1) i1) (d1 : DG C len i1 j1) (s2 : SK C len j1 i2) (d2 : DG C len i2 j2) (s3 : SK C len j2 i3) (d3 : DG C len i3 j3) (s4 : SK C len j3 i4) (w2 : TW2 T) (r : RC h len C (w + 1) 0 (-1)) (g : GC h t T) (htd : h t 16 = nI td) : ∃ h', mn_X 17 [.ref 1, .ref (t + 8), .int (nI w)] h none h' ∧ uF t h h' ∧ ((fe [(rmE (T 0 2) 8, w), (numE C 0 6 i1 j1, i1), (numE C 0 6 i2 j2, i2), (numE C 1 1000 i3 j3, i3), (enE len C i4, i4)]).1 ≠ 0 → ∃ a, RC h' len C a (fe [(rmE (T 0 2) 8, w), (numE C 0 6 i1 j1, i1), (numE C 0 6 i2 j2, i2), (numE C 1 1000 i3 j3, i3), (enE len C i4, i4)]).1 (nI (fe [(rmE (T 0 2) 8, w), (numE C 0 6 i1 j1, i1), (numE C 0 6 i2 j2, i2), (numE C 1 1000 i3 j3, i3), (enE len C i4, i4)]).2)) ∧ ((fe [(rmE (T 0 2) 8, w), (numE C 0 6 i1 j1, i1), (numE C 0 6 i2 j2, i2), (numE C 1 1000 i3 j3, i3), (enE len C i4, i4)]).1 = 0 → RC h' len C (i4 + 1) 0 (-1) ∧ GC h' t (twA T 2 (fun a => if a = 8 then dvN C i1 (min (j1 - i1) 3) else if a = 9 then dvN C i2 (min (j2 - i2) 3) else dvN C i3 (min (j3 - i3) 3))) ∧ h' t 16 = nI td) := by
  have fg := FG_0 [(rmE (T 0 2) 8, w), (numE C 0 6 i1 j1, i1), (numE C 0 6 i2 j2, i2), (numE C 1 1000 i3 j3, i3), (enE len C i4, i4)]
  obtain ⟨h0, o0, r0, cs⟩ := x_roomC r (T 0 2) 8 w
  have t0 : T 0 2 ≤ 8 := w2.1 2 (by decide)
  have t00 : T 0 0 ≤ 5 := w2.1 0 (by decide)
  have b0 : fz 0 (rmE (T 0 2) 8) < 10 := fz_lt (by decide) (rmE_lt _ _)
  have hq : mn_isQ (t + 8) := by unfold mn_isQ; rcases ht with e | e <;> omega
  have qn : mn_qn (t + 8) = 8 := by unfold mn_qn; rcases ht with e | e <;> rw [e] <;> rfl
  have ec : h (t + 8) 3 = nI (T 0 2) := g.1 2 (by decide)
  have hd : ∀ q h'', mn_E 17 13 [.ref 1, .ref (t + 8), .int (nI w), .null, .null, .null] [] h0 q h'' → mn_X 17 [.ref 1, .ref (t + 8), .int (nI w)] h q h'' := by
    intro q h'' z
    rcases cs with ⟨lt, rfl⟩ | ⟨le, x⟩
    · have x36 : mn_X 36 [.ref (t + 8)] h0 (some (.int 0)) h0 := by rw [e_X4_isFull, b_X4_isFull_0 hq, ec, qn, if_pos (nI_lt lt (by decide)), b_X4_isFull_16 hq, b_X4_isFull_17 hq (Or.inl rfl)]; exact ⟨rfl, rfl⟩
      rw [e_X2_readThreshold, b_X2_readThreshold_0 hq, mn_cl_i x36, b_X2_readThreshold_4 hq, if_pos rfl]; exact z
    · have x36 : mn_X 36 [.ref (t + 8)] h (some (.int 1)) h := by rw [e_X4_isFull, b_X4_isFull_0 hq, ec, qn, if_neg (nI_nlt le (by omega)), b_X4_isFull_12 hq, b_X4_isFull_17 hq (Or.inr rfl)]; exact ⟨rfl, rfl⟩
      rw [e_X2_readThreshold, b_X2_readThreshold_0 hq, mn_cl_i x36, b_X2_readThreshold_4 hq, if_neg (by decide), b_X2_readThreshold_7 hq, mn_cl_v x]; exact z
  obtain ⟨h1, x1, o1, r1, -⟩ := x_rn (lo := 0) (hb := 6) (a := 0) (b := 5) (by rfl) (by first | rfl | decide) r0 b0 s1 d1 (by decide) (by omega)
  have b1 := fz_lt b0 (numE_lt C 0 6 i1 j1)
  obtain ⟨h2, x2, o2, r2, -⟩ := x_rn (lo := 0) (hb := 6) (a := 0) (b := 5) (by rfl) (by first | rfl | decide) r1 b1 s2 d2 (by decide) (by omega)
  have b2 := fz_lt b1 (numE_lt C 0 6 i2 j2)
  obtain ⟨h3, x3, o3, r3, -⟩ := x_rn (lo := 1) (hb := 1000) (a := 1) (b := 999) (by rfl) (by first | rfl | decide) r2 b2 s3 d3 (by decide) (by omega)
  have b3 := fz_lt b2 (numE_lt C 1 1000 i3 j3)
  obtain ⟨h4, x4, o4, r4⟩ := x_clauseEnds r3 b3 s4
  have oo : oF h h4 := (((o0.tr o1).tr o2).tr o3).tr o4
  have gg := g.of ht oo
  have uu : uF t h h4 := fun b q _ => oo b q
  have e16 : h4 t 16 = nI td := by rw [oo t (by rcases ht with e | e <;> omega)]; exact htd
  have fF : fz (fz (fz (fz (fz 0 (rmE (T 0 2) 8)) (numE C 0 6 i1 j1)) (numE C 0 6 i2 j2)) (numE C 1 1000 i3 j3)) (enE len C i4) = (fe [(rmE (T 0 2) 8, w), (numE C 0 6 i1 j1, i1), (numE C 0 6 i2 j2, i2), (numE C 1 1000 i3 j3, i3), (enE len C i4, i4)]).1 := congrArg Prod.fst fg
  have fG : gz (fz (fz (fz (fz 0 (rmE (T 0 2) 8)) (numE C 0 6 i1 j1)) (numE C 0 6 i2 j2)) (numE C 1 1000 i3 j3)) (enE len C i4) (gz (fz (fz (fz 0 (rmE (T 0 2) 8)) (numE C 0 6 i1 j1)) (numE C 0 6 i2 j2)) (numE C 1 1000 i3 j3) (gz (fz (fz 0 (rmE (T 0 2) 8)) (numE C 0 6 i1 j1)) (numE C 0 6 i2 j2) (gz (fz 0 (rmE (T 0 2) 8)) (numE C 0 6 i1 j1) (gz 0 (rmE (T 0 2) 8) (-1) w) i1) i2) i3) i4 = if (fe [(rmE (T 0 2) 8, w), (numE C 0 6 i1 j1, i1), (numE C 0 6 i2 j2, i2), (numE C 1 1000 i3 j3, i3), (enE len C i4, i4)]).1 = 0 then -1 else nI (fe [(rmE (T 0 2) 8, w), (numE C 0 6 i1 j1, i1), (numE C 0 6 i2 j2, i2), (numE C 1 1000 i3 j3, i3), (enE len C i4, i4)]).2 := congrArg Prod.snd fg
  rw [fF] at x4 r4
  rw [fG] at r4
  by_cases F0 : (fe [(rmE (T 0 2) 8, w), (numE C 0 6 i1 j1, i1), (numE C 0 6 i2 j2, i2), (numE C 1 1000 i3 j3, i3), (enE len C i4, i4)]).1 = 0
  · have al := F0
    simp only [fe0] at al
    obtain ⟨a0, a1, a2, a3, a4, -⟩ := al
    have lt := rmE_0 a0
    rw [F0, if_pos rfl, a4, if_pos rfl] at r4
    rw [F0, decide_eq_true rfl] at x4
    obtain ⟨h9, x9, t9, q9, g9⟩ := x_addCause (y8 := dvN C i1 (min (j1 - i1) 3)) (y9 := dvN C i2 (min (j2 - i2) 3)) (y10 := dvN C i3 (min (j3 - i3) 3)) ht gg rfl lt
    refine ⟨h9, hd _ _ ?_, fun b q1 q2 => by rw [t9 b q2]; exact oo b q1, fun z => absurd F0 z, fun _ => ⟨?_, g9, by rw [q9]; exact e16⟩⟩
    · rw [b_X2_readThreshold_13 hq, mn_cl_i x1, b_X2_readThreshold_19 hq, mn_cl_i x2, b_X2_readThreshold_26 hq, mn_cl_i x3, b_X2_readThreshold_36 hq, mn_cl_i x4, b_X2_readThreshold_42 hq, if_neg (by decide), b_X2_readThreshold_45 hq, mn_cl_v x9, b_X2_readThreshold_54 hq]; exact ⟨rfl, rfl⟩
    · have e1 := t9 1 (by rcases ht with e | e <;> omega)
      have e2 := t9 2 (by rcases ht with e | e <;> omega)
      obtain ⟨u1, u2, u3, u4, u5, u6⟩ := r4
      exact ⟨u1.row e2, by rw [e1]; exact u2, by rw [e1]; exact u3, u4, by rw [e1]; exact u5, by rw [e1]; exact u6⟩
  · rw [decide_eq_false F0] at x4
    rw [if_neg F0] at r4
    refine ⟨h4, hd _ _ ?_, uu, fun _ => ⟨_, r4⟩, fun z => absurd z F0⟩
    rw [b_X2_readThreshold_13 hq, mn_cl_i x1, b_X2_readThreshold_19 hq, mn_cl_i x2, b_X2_readThreshold_26 hq, mn_cl_i x3, b_X2_readThreshold_36 hq, mn_cl_i x4, b_X2_readThreshold_42 hq, if_pos mz_f, b_X2_readThreshold_54 hq]; exact ⟨rfl, rfl⟩
theorem c_stop (ht : mn_isT t) {i1 j1 i2 j2 i3 j3 i4 : Nat} (s1 : SK C len (w + 1) i1) (d1 : DG C len i1 j1) (s2 : SK C len j1 i2) (d2 : DG C len i2 j2) (s3 : SK C len j2 i3) (d3 : DG C len i3 j3) (s4 : SK C len j3 i4) (w2 : TW2 T) (r : RC h len C (w + 1) 0 (-1)) (g : GC h t T) (htd : h t 16 = nI td) : ∃ h', mn_X 17 [.ref 1, .ref (t + 12), .int (nI w)] h none h' ∧ uF t h h' ∧ ((fe [(rmE (T 0 3) 4, w), (numE C 0 6 i1 j1, i1), (numE C 0 6 i2 j2, i2), (numE C 1 1000 i3 j3, i3), (enE len C i4, i4)]).1 ≠ 0 → ∃ a, RC h' len C a (fe [(rmE (T 0 3) 4, w), (numE C 0 6 i1 j1, i1), (numE C 0 6 i2 j2, i2), (numE C 1 1000 i3 j3, i3), (enE len C i4, i4)]).1 (nI (fe [(rmE (T 0 3) 4, w), (numE C 0 6 i1 j1, i1), (numE C 0 6 i2 j2, i2), (numE C 1 1000 i3 j3, i3), (enE len C i4, i4)]).2)) ∧ ((fe [(rmE (T 0 3) 4, w), (numE C 0 6 i1 j1, i1), (numE C 0 6 i2 j2, i2), (numE C 1 1000 i3 j3, i3), (enE len C i4, i4)]).1 = 0 → RC h' len C (i4 + 1) 0 (-1) ∧ GC h' t (twA T 3 (fun a => if a = 11 then dvN C i1 (min (j1 - i1) 3) else if a = 12 then dvN C i2 (min (j2 - i2) 3) else dvN C i3 (min (j3 - i3) 3))) ∧ h' t 16 = nI td) := by
  have fg := FG_0 [(rmE (T 0 3) 4, w), (numE C 0 6 i1 j1, i1), (numE C 0 6 i2 j2, i2), (numE C 1 1000 i3 j3, i3), (enE len C i4, i4)]
  obtain ⟨h0, o0, r0, cs⟩ := x_roomC r (T 0 3) 4 w
  have t0 : T 0 3 ≤ 4 := w2.1 3 (by decide)
  have t00 : T 0 0 ≤ 5 := w2.1 0 (by decide)
  have b0 : fz 0 (rmE (T 0 3) 4) < 10 := fz_lt (by decide) (rmE_lt _ _)
  have hq : mn_isQ (t + 12) := by unfold mn_isQ; rcases ht with e | e <;> omega
  have qn : mn_qn (t + 12) = 4 := by unfold mn_qn; rcases ht with e | e <;> rw [e] <;> rfl
  have ec : h (t + 12) 3 = nI (T 0 3) := g.1 3 (by decide)
  have hd : ∀ q h'', mn_E 17 13 [.ref 1, .ref (t + 12), .int (nI w), .null, .null, .null] [] h0 q h'' → mn_X 17 [.ref 1, .ref (t + 12), .int (nI w)] h q h'' := by
    intro q h'' z
    rcases cs with ⟨lt, rfl⟩ | ⟨le, x⟩
    · have x36 : mn_X 36 [.ref (t + 12)] h0 (some (.int 0)) h0 := by rw [e_X4_isFull, b_X4_isFull_0 hq, ec, qn, if_pos (nI_lt lt (by decide)), b_X4_isFull_16 hq, b_X4_isFull_17 hq (Or.inl rfl)]; exact ⟨rfl, rfl⟩
      rw [e_X2_readThreshold, b_X2_readThreshold_0 hq, mn_cl_i x36, b_X2_readThreshold_4 hq, if_pos rfl]; exact z
    · have x36 : mn_X 36 [.ref (t + 12)] h (some (.int 1)) h := by rw [e_X4_isFull, b_X4_isFull_0 hq, ec, qn, if_neg (nI_nlt le (by omega)), b_X4_isFull_12 hq, b_X4_isFull_17 hq (Or.inr rfl)]; exact ⟨rfl, rfl⟩
      rw [e_X2_readThreshold, b_X2_readThreshold_0 hq, mn_cl_i x36, b_X2_readThreshold_4 hq, if_neg (by decide), b_X2_readThreshold_7 hq, mn_cl_v x]; exact z
  obtain ⟨h1, x1, o1, r1, -⟩ := x_rn (lo := 0) (hb := 6) (a := 0) (b := 5) (by rfl) (by first | rfl | decide) r0 b0 s1 d1 (by decide) (by omega)
  have b1 := fz_lt b0 (numE_lt C 0 6 i1 j1)
  obtain ⟨h2, x2, o2, r2, -⟩ := x_rn (lo := 0) (hb := 6) (a := 0) (b := 5) (by rfl) (by first | rfl | decide) r1 b1 s2 d2 (by decide) (by omega)
  have b2 := fz_lt b1 (numE_lt C 0 6 i2 j2)
  obtain ⟨h3, x3, o3, r3, -⟩ := x_rn (lo := 1) (hb := 1000) (a := 1) (b := 999) (by rfl) (by first | rfl | decide) r2 b2 s3 d3 (by decide) (by omega)
  have b3 := fz_lt b2 (numE_lt C 1 1000 i3 j3)
  obtain ⟨h4, x4, o4, r4⟩ := x_clauseEnds r3 b3 s4
  have oo : oF h h4 := (((o0.tr o1).tr o2).tr o3).tr o4
  have gg := g.of ht oo
  have uu : uF t h h4 := fun b q _ => oo b q
  have e16 : h4 t 16 = nI td := by rw [oo t (by rcases ht with e | e <;> omega)]; exact htd
  have fF : fz (fz (fz (fz (fz 0 (rmE (T 0 3) 4)) (numE C 0 6 i1 j1)) (numE C 0 6 i2 j2)) (numE C 1 1000 i3 j3)) (enE len C i4) = (fe [(rmE (T 0 3) 4, w), (numE C 0 6 i1 j1, i1), (numE C 0 6 i2 j2, i2), (numE C 1 1000 i3 j3, i3), (enE len C i4, i4)]).1 := congrArg Prod.fst fg
  have fG : gz (fz (fz (fz (fz 0 (rmE (T 0 3) 4)) (numE C 0 6 i1 j1)) (numE C 0 6 i2 j2)) (numE C 1 1000 i3 j3)) (enE len C i4) (gz (fz (fz (fz 0 (rmE (T 0 3) 4)) (numE C 0 6 i1 j1)) (numE C 0 6 i2 j2)) (numE C 1 1000 i3 j3) (gz (fz (fz 0 (rmE (T 0 3) 4)) (numE C 0 6 i1 j1)) (numE C 0 6 i2 j2) (gz (fz 0 (rmE (T 0 3) 4)) (numE C 0 6 i1 j1) (gz 0 (rmE (T 0 3) 4) (-1) w) i1) i2) i3) i4 = if (fe [(rmE (T 0 3) 4, w), (numE C 0 6 i1 j1, i1), (numE C 0 6 i2 j2, i2), (numE C 1 1000 i3 j3, i3), (enE len C i4, i4)]).1 = 0 then -1 else nI (fe [(rmE (T 0 3) 4, w), (numE C 0 6 i1 j1, i1), (numE C 0 6 i2 j2, i2), (numE C 1 1000 i3 j3, i3), (enE len C i4, i4)]).2 := congrArg Prod.snd fg
  rw [fF] at x4 r4
  rw [fG] at r4
  by_cases F0 : (fe [(rmE (T 0 3) 4, w), (numE C 0 6 i1 j1, i1), (numE C 0 6 i2 j2, i2), (numE C 1 1000 i3 j3, i3), (enE len C i4, i4)]).1 = 0
  · have al := F0
    simp only [fe0] at al
    obtain ⟨a0, a1, a2, a3, a4, -⟩ := al
    have lt := rmE_0 a0
    rw [F0, if_pos rfl, a4, if_pos rfl] at r4
    rw [F0, decide_eq_true rfl] at x4
    obtain ⟨h9, x9, t9, q9, g9⟩ := x_addStop (y11 := dvN C i1 (min (j1 - i1) 3)) (y12 := dvN C i2 (min (j2 - i2) 3)) (y13 := dvN C i3 (min (j3 - i3) 3)) ht gg rfl lt
    refine ⟨h9, hd _ _ ?_, fun b q1 q2 => by rw [t9 b q2]; exact oo b q1, fun z => absurd F0 z, fun _ => ⟨?_, g9, by rw [q9]; exact e16⟩⟩
    · rw [b_X2_readThreshold_13 hq, mn_cl_i x1, b_X2_readThreshold_19 hq, mn_cl_i x2, b_X2_readThreshold_26 hq, mn_cl_i x3, b_X2_readThreshold_36 hq, mn_cl_i x4, b_X2_readThreshold_42 hq, if_neg (by decide), b_X2_readThreshold_45 hq, mn_cl_v x9, b_X2_readThreshold_54 hq]; exact ⟨rfl, rfl⟩
    · have e1 := t9 1 (by rcases ht with e | e <;> omega)
      have e2 := t9 2 (by rcases ht with e | e <;> omega)
      obtain ⟨u1, u2, u3, u4, u5, u6⟩ := r4
      exact ⟨u1.row e2, by rw [e1]; exact u2, by rw [e1]; exact u3, u4, by rw [e1]; exact u5, by rw [e1]; exact u6⟩
  · rw [decide_eq_false F0] at x4
    rw [if_neg F0] at r4
    refine ⟨h4, hd _ _ ?_, uu, fun _ => ⟨_, r4⟩, fun z => absurd z F0⟩
    rw [b_X2_readThreshold_13 hq, mn_cl_i x1, b_X2_readThreshold_19 hq, mn_cl_i x2, b_X2_readThreshold_26 hq, mn_cl_i x3, b_X2_readThreshold_36 hq, mn_cl_i x4, b_X2_readThreshold_42 hq, if_pos mz_f, b_X2_readThreshold_54 hq]; exact ⟨rfl, rfl⟩
def agE (e td v : Nat) : Nat := if e = 0 ∧ td.testBit v = true then 4 else 0
theorem agE_lt (e td v : Nat) : agE e td v < 10 := by unfold agE; split <;> omega
theorem c_harm (ht : mn_isT t) {i1 j1 i2 j2 i3 : Nat} (s1 : SK C len (w + 1) i1) (d1 : DG C len i1 j1) (s2 : SK C len j1 i2) (d2 : DG C len i2 j2) (s3 : SK C len j2 i3) (h64 : td < 64) (r0 : RC h len C (w + 1) 0 (-1)) (g : GC h t T) (htd : h t 16 = nI td) : ∃ h', mn_X 19 [.ref 1, .ref t] h none h' ∧ uF t h h' ∧ ((fe [(numE C 0 6 i1 j1, i1), (agE (numE C 0 6 i1 j1) td (dvN C i1 (min (j1 - i1) 3)), i1), (numE C 0 100 i2 j2, i2), (enE len C i3, i3)]).1 ≠ 0 → ∃ a, RC h' len C a (fe [(numE C 0 6 i1 j1, i1), (agE (numE C 0 6 i1 j1) td (dvN C i1 (min (j1 - i1) 3)), i1), (numE C 0 100 i2 j2, i2), (enE len C i3, i3)]).1 (nI (fe [(numE C 0 6 i1 j1, i1), (agE (numE C 0 6 i1 j1) td (dvN C i1 (min (j1 - i1) 3)), i1), (numE C 0 100 i2 j2, i2), (enE len C i3, i3)]).2)) ∧ ((fe [(numE C 0 6 i1 j1, i1), (agE (numE C 0 6 i1 j1) td (dvN C i1 (min (j1 - i1) 3)), i1), (numE C 0 100 i2 j2, i2), (enE len C i3, i3)]).1 = 0 → RC h' len C (i3 + 1) 0 (-1) ∧ GC h' t (twH T (dvN C i1 (min (j1 - i1) 3)) (dvN C i2 (min (j2 - i2) 3))) ∧ h' t 16 = nI (td ||| 2 ^ dvN C i1 (min (j1 - i1) 3))) := by
  obtain ⟨V, eV⟩ : ∃ V, V = dvN C i1 (min (j1 - i1) 3) := ⟨_, rfl⟩
  obtain ⟨L, eL⟩ : ∃ L, L = [(numE C 0 6 i1 j1, i1), (agE (numE C 0 6 i1 j1) td V, i1), (numE C 0 100 i2 j2, i2), (enE len C i3, i3)] := ⟨_, rfl⟩
  have fg := FG_0 L
  obtain ⟨h1, x1, o1, r1, e13⟩ := x_rn (lo := 0) (hb := 6) (a := 0) (b := 5) (by rfl) (by first | rfl | decide) r0 (by decide) s1 d1 (by decide) (by decide)
  have b1 : fz 0 (numE C 0 6 i1 j1) < 10 := fz_lt (by decide) (numE_lt _ _ _ _ _)
  have f1 : fz 0 (numE C 0 6 i1 j1) = numE C 0 6 i1 j1 := by unfold fz; rw [if_pos rfl]
  have td1 : h1 t 16 = nI td := by rw [o1 t (by rcases ht with e | e <;> omega)]; exact htd
  rw [← eV] at x1 ⊢
  rw [← eL]
  have mid : ∃ h2, oF h1 h2 ∧ RC h2 len C j1 (fz (fz 0 (numE C 0 6 i1 j1)) (agE (numE C 0 6 i1 j1) td V)) (gz (fz 0 (numE C 0 6 i1 j1)) (agE (numE C 0 6 i1 j1) td V) (gz 0 (numE C 0 6 i1 j1) (-1) i1) i1) ∧ ∀ q h'', mn_E 19 31 [.ref 1, .ref t, .int (nI V), .null] [] h2 q h'' → mn_X 19 [.ref 1, .ref t] h q h'' := by
    by_cases o : numE C 0 6 i1 j1 = 0
    · have vb := numE_0 o
      rw [← eV] at vb
      have xh := x_isHarmTold (h := h1) ht (k := V) (by omega) td1 h64
      cases q : td.testBit V with
      | true =>
        have ea : agE (numE C 0 6 i1 j1) td V = 4 := by unfold agE; rw [if_pos ⟨o, q⟩]
        obtain ⟨h2, x2, o2, r2, -⟩ := x_blame (e := 4) (p := i1) r1 (by decide) b1
        rw [q] at xh
        rw [ea]
        refine ⟨h2, o2, r2, fun q' h'' z => ?_⟩
        rw [e_X2_readHarm, b_X2_readHarm_0 ht, mn_cl_i x1, b_X2_readHarm_6 ht, r1.2.2.2.2.1, f1, o, if_neg (show ¬ ¬ nI 0 = 0 from fun z => z rfl), b_X2_readHarm_14 ht, mn_cl_i xh, b_X2_readHarm_19 ht, if_neg (by decide), b_X2_readHarm_22 ht, e13]
        rw [mn_cl_v (show mn_X 24 [.ref 1, .int 4, .int (nI i1)] h1 none h2 from x2)]
        exact z
      | false =>
        have ea : agE (numE C 0 6 i1 j1) td V = 0 := by unfold agE; rw [if_neg (fun z => by rw [q] at z; cases z.2)]
        rw [q] at xh
        rw [ea, fz0, gz0]
        refine ⟨h1, oF.rf h1, r1, fun q' h'' z => ?_⟩
        rw [e_X2_readHarm, b_X2_readHarm_0 ht, mn_cl_i x1, b_X2_readHarm_6 ht, r1.2.2.2.2.1, f1, o, if_neg (show ¬ ¬ nI 0 = 0 from fun z => z rfl), b_X2_readHarm_14 ht, mn_cl_i xh, b_X2_readHarm_19 ht, if_pos mz_f]
        exact z
    · have ea : agE (numE C 0 6 i1 j1) td V = 0 := by unfold agE; rw [if_neg (fun z => o z.1)]
      rw [ea, fz0, gz0]
      refine ⟨h1, oF.rf h1, r1, fun q' h'' z => ?_⟩
      rw [e_X2_readHarm, b_X2_readHarm_0 ht, mn_cl_i x1, b_X2_readHarm_6 ht, r1.2.2.2.2.1, f1, if_pos (nI_ne0 (by omega) (by have := numE_lt C 0 6 i1 j1; omega))]
      exact z
  obtain ⟨h2, o2, r2, hd⟩ := mid
  have b2 := fz_lt b1 (agE_lt (numE C 0 6 i1 j1) td V)
  obtain ⟨h3, x3, o3, r3, -⟩ := x_rn (lo := 0) (hb := 100) (a := 0) (b := 99) (by rfl) (by first | rfl | decide) r2 b2 s2 d2 (by decide) (by decide)
  have b3 := fz_lt b2 (numE_lt C 0 100 i2 j2)
  obtain ⟨h4, x4, o4, r4⟩ := x_clauseEnds r3 b3 s3
  have oo : oF h h4 := ((o1.tr o2).tr o3).tr o4
  have gg := g.of ht oo
  have e16 : h4 t 16 = nI td := by rw [oo t (by rcases ht with e | e <;> omega)]; exact htd
  have fF : fz (fz (fz (fz 0 (numE C 0 6 i1 j1)) (agE (numE C 0 6 i1 j1) td V)) (numE C 0 100 i2 j2)) (enE len C i3) = (fe L).1 := by rw [eL] at fg ⊢; exact congrArg Prod.fst fg
  have fG : gz (fz (fz (fz 0 (numE C 0 6 i1 j1)) (agE (numE C 0 6 i1 j1) td V)) (numE C 0 100 i2 j2)) (enE len C i3) (gz (fz (fz 0 (numE C 0 6 i1 j1)) (agE (numE C 0 6 i1 j1) td V)) (numE C 0 100 i2 j2) (gz (fz 0 (numE C 0 6 i1 j1)) (agE (numE C 0 6 i1 j1) td V) (gz 0 (numE C 0 6 i1 j1) (-1) i1) i1) i2) i3 = if (fe L).1 = 0 then -1 else nI (fe L).2 := by rw [eL] at fg ⊢; exact congrArg Prod.snd fg
  rw [fF] at x4 r4
  rw [fG] at r4
  by_cases F0 : (fe L).1 = 0
  · have al := F0
    rw [eL] at al
    simp only [fe0] at al
    obtain ⟨a1, a2, a3, a4, -⟩ := al
    have vb := numE_0 a1
    rw [← eV] at vb
    rw [F0, if_pos rfl, a4, if_pos rfl] at r4
    rw [F0, decide_eq_true rfl] at x4
    obtain ⟨h9, x9, t9, q9, g9⟩ := x_tellHarm (k := V) (v := dvN C i2 (min (j2 - i2) 3)) ht gg vb.2 e16 h64
    refine ⟨h9, hd _ _ ?_, fun b q1 q2 => by rw [t9 b q2]; exact oo b q1, fun z => absurd F0 z, fun _ => ⟨?_, g9, q9⟩⟩
    · rw [b_X2_readHarm_31 ht, mn_cl_i x3, b_X2_readHarm_38 ht, mn_cl_i x4, b_X2_readHarm_43 ht, if_neg (by decide), b_X2_readHarm_46 ht, mn_cl_v x9, b_X2_readHarm_55 ht]; exact ⟨rfl, rfl⟩
    · have e1 := t9 1 (by rcases ht with e | e <;> omega)
      have e2 := t9 2 (by rcases ht with e | e <;> omega)
      obtain ⟨u1, u2, u3, u4, u5, u6⟩ := r4
      exact ⟨u1.row e2, by rw [e1]; exact u2, by rw [e1]; exact u3, u4, by rw [e1]; exact u5, by rw [e1]; exact u6⟩
  · rw [decide_eq_false F0] at x4
    rw [if_neg F0] at r4
    refine ⟨h4, hd _ _ ?_, fun b q _ => oo b q, fun _ => ⟨_, r4⟩, fun z => absurd z F0⟩
    rw [b_X2_readHarm_31 ht, mn_cl_i x3, b_X2_readHarm_38 ht, mn_cl_i x4, b_X2_readHarm_43 ht, if_pos mz_f, b_X2_readHarm_55 ht]; exact ⟨rfl, rfl⟩
end CLA
