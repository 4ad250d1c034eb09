section MNS
variable {D : va_G} {cI cZ cO : ClassId} {ad : Nat → Nat} {lo M : Nat}
variable {p : Program} {l : Launch} {e : Env} {s : State} {m : MethodId} {args : Array Value} {below : List Frame} {meth : Method} {c : Code} {Q : State → Prop}
variable {H : Heap} {locs : List Loc} {lsA : Array Slot} {h h1 : mn_H} {ls st ls' st' : List Value} {pc pc' : Nat}
theorem mn_s_putfield {i : Nat} (C : mn_Cx D cI cZ cO ad lo M p s m args meth c) (S : mn_Sx D cI cZ cO ad lo M s H locs lsA h ls) (hd : decode (mC M) pc = .ok (.putfield i, 3)) (hs : mn_put (mO M) (pc + 3) ls st h i = some (.inl (pc', ls', st', h1)))
    (kk : ∀ (H1 : Heap) (locs1 : List Loc) (lsB : Array Slot), mn_Sx D cI cZ cO ad lo M s H1 locs1 lsB h1 ls' → W p l e (mn_rm M) s m args below meth c H1 locs1 0 0 Q (F0 m pc' lsB (st'.map (mn_cv ad)))) : W p l e (mn_rm M) s m args below meth c H locs 0 0 Q (F0 m pc lsA (st.map (mn_cv ad))) := by
  unfold mn_put at hs
  split at hs
  · next v a st0 ci k hf =>
    obtain ⟨⟨hsh, hci, ha, hk⟩, hs⟩ := mn_ifn hs
    cases v with
    | int x =>
      dsimp only at hs
      obtain ⟨⟨hr, hz, hfin⟩, hs⟩ := mn_ifn hs
      obtain ⟨rfl, rfl, rfl, rfl⟩ := mn_go_inj hs
      have hrf : ∀ j, j ≠ k → mn_isr ci j = true → mn_rf (upd (h a) k x) a j = mn_rf (h a) a j := by
        intro j hj _
        unfold mn_rf
        simp [upd, hj]
      have hv : mn_val ad (upd (h a) k x) a ci k = .int x := by
        unfold mn_val
        rw [if_neg (by rw [hr]; decide)]
        simp [upd]
      rcases mn_fTt ci hci k hk with h0 | ⟨h0, -⟩ | ⟨h0, h7⟩
      · rw [hr] at h0; cases h0
      · exact mn_s_put C S hd hf hsh hci ha hk hfin h0 rfl rfl hv hrf (fun H1 locs1 S1 => kk H1 locs1 lsA S1)
      · have hx : x = 0 ∨ x = 1 := hz.resolve_left (fun q => q h7)
        rcases hx with rfl | rfl
        · exact mn_s_put C S hd hf hsh hci ha hk hfin h0 rfl rfl hv hrf (fun H1 locs1 S1 => kk H1 locs1 lsA S1)
        · exact mn_s_put C S hd hf hsh hci ha hk hfin h0 rfl rfl hv hrf (fun H1 locs1 S1 => kk H1 locs1 lsA S1)
    | ref b =>
      dsimp only at hs
      obtain ⟨⟨ha0, hk6, hb⟩, hs⟩ := mn_ifn hs
      obtain ⟨rfl, rfl, rfl, rfl⟩ := mn_go_inj hs
      subst ha0
      have hci7 : ci = 7 := by
        have : mn_sh 0 = (0, 7) := rfl
        rw [this] at hsh
        cases hsh; rfl
      subst hci7
      have hk8 : k < 8 := hk
      have hb74 : b < 2 ^ 31 := by rcases hb with hb | hb <;> (rw [hb]; decide)
      have hrf : ∀ j, j ≠ k → mn_isr 7 j = true → mn_rf (upd (h 0) k (nI b)) 0 j = mn_rf (h 0) 0 j := by
        intro j hj _
        unfold mn_rf
        simp [upd, hj]
      have hv : mn_val ad (upd (h 0) k (nI b)) 0 7 k = .ref (ad b) := by
        have : k = 6 ∨ k = 7 := by omega
        have hi : mn_isr 7 k = true := by rcases this with rfl | rfl <;> rfl
        unfold mn_val
        rw [if_pos hi]
        unfold mn_rf
        rw [if_pos ⟨rfl, hk6⟩]
        simp [upd, nI_clamp hb74]
      have : k = 6 ∨ k = 7 := by omega
      rcases this with rfl | rfl
      · exact mn_s_put C S hd hf hsh hci ha hk rfl (ty := .object "TomorrowBells$Town") (by decide +kernel) rfl rfl hv hrf (fun H1 locs1 S1 => kk H1 locs1 lsA S1)
      · exact mn_s_put C S hd hf hsh hci ha hk rfl (ty := .object "TomorrowBells$Town") (by decide +kernel) rfl rfl hv hrf (fun H1 locs1 S1 => kk H1 locs1 lsA S1)
    | _ => cases hs
  · cases hs
theorem mn_s_iast (C : mn_Cx D cI cZ cO ad lo M p s m args meth c) (S : mn_Sx D cI cZ cO ad lo M s H locs lsA h ls) (hd : decode (mC M) pc = .ok (.iastore, 1)) (hs : mn_iast (pc + 1) ls st h = some (.inl (pc', ls', st', h1)))
    (kk : ∀ (H1 : Heap) (locs1 : List Loc) (lsB : Array Slot), mn_Sx D cI cZ cO ad lo M s H1 locs1 lsB h1 ls' → W p l e (mn_rm M) s m args below meth c H1 locs1 0 0 Q (F0 m pc' lsB (st'.map (mn_cv ad)))) : W p l e (mn_rm M) s m args below meth c H locs 0 0 Q (F0 m pc lsA (st.map (mn_cv ad))) := by
  unfold mn_iast at hs
  split at hs
  · next x i a st0 =>
    obtain ⟨⟨ha, hsh, hin⟩, hs⟩ := mn_ifn hs
    obtain ⟨rfl, rfl, rfl, rfl⟩ := mn_go_inj hs
    obtain ⟨hx, hb, hr, hml, hown, hts, hlk, hKK, hC, hM⟩ := C
    obtain ⟨hP, hD, hS, hl, hg⟩ := S
    refine va_iast (x := x) hx hb hKK hP hD hS a 0 (n := (mn_sh a).2) (f := h a) (by rw [mn_ws_at ha, mn_cell1 hsh]) rfl (mn_in_iff hin) hd (fun H1 locs1 p1 p2 p3 => kk H1 locs1 lsA ⟨?_, mn_ws_D hD, p3, hl, hg⟩)
    rw [mn_ws_set (h1 := mn_up h a i.toNatClampNeg x) ha (by rw [mn_up_self, mn_cell1 hsh]) (fun b hb => mn_up_ne hb)] at p1
    exact p1
  · cases hs
theorem mn_nar01 {x : Int32} (hx : x = 0 ∨ x = 1) : vp_nar .boolean x = x := by
  rcases hx with rfl | rfl <;> decide +kernel
theorem mn_s_bast (C : mn_Cx D cI cZ cO ad lo M p s m args meth c) (S : mn_Sx D cI cZ cO ad lo M s H locs lsA h ls) (hd : decode (mC M) pc = .ok (.bastore, 1)) (hs : mn_bast (pc + 1) ls st h = some (.inl (pc', ls', st', h1)))
    (kk : ∀ (H1 : Heap) (locs1 : List Loc) (lsB : Array Slot), mn_Sx D cI cZ cO ad lo M s H1 locs1 lsB h1 ls' → W p l e (mn_rm M) s m args below meth c H1 locs1 0 0 Q (F0 m pc' lsB (st'.map (mn_cv ad)))) : W p l e (mn_rm M) s m args below meth c H locs 0 0 Q (F0 m pc lsA (st.map (mn_cv ad))) := by
  unfold mn_bast at hs
  split at hs
  · next x i a st0 =>
    obtain ⟨⟨ha, hsh, hin, hz⟩, hs⟩ := mn_ifn hs
    obtain ⟨rfl, rfl, rfl, rfl⟩ := mn_go_inj hs
    obtain ⟨hx, hb, hr, hml, hown, hts, hlk, hKK, hC, hM⟩ := C
    obtain ⟨hP, hD, hS, hl, hg⟩ := S
    refine va_zast (x := x) hx hb hKK hP hD hS a 1 (n := (mn_sh a).2) (f := h a) (by rw [mn_ws_at ha, mn_cell2 hsh]) rfl (mn_in_iff hin) hd (fun H1 locs1 p1 p2 p3 => kk H1 locs1 lsA ⟨?_, mn_ws_D hD, p3, hl, hg⟩)
    rw [mn_nar01 hz, mn_ws_set (h1 := mn_up h a i.toNatClampNeg x) ha (by rw [mn_up_self, mn_cell2 hsh]) (fun b hb => mn_up_ne hb)] at p1
    exact p1
  · cases hs
theorem mn_s_iald (C : mn_Cx D cI cZ cO ad lo M p s m args meth c) (S : mn_Sx D cI cZ cO ad lo M s H locs lsA h ls) (hd : decode (mC M) pc = .ok (.iaload, 1)) (hs : mn_iald (pc + 1) ls st h = some (.inl (pc', ls', st', h1)))
    (kk : ∀ (H1 : Heap) (locs1 : List Loc) (lsB : Array Slot), mn_Sx D cI cZ cO ad lo M s H1 locs1 lsB h1 ls' → W p l e (mn_rm M) s m args below meth c H1 locs1 0 0 Q (F0 m pc' lsB (st'.map (mn_cv ad)))) : W p l e (mn_rm M) s m args below meth c H locs 0 0 Q (F0 m pc lsA (st.map (mn_cv ad))) := by
  unfold mn_iald at hs
  split at hs
  · next i a st0 =>
    obtain ⟨⟨ha, hsh, hin⟩, hs⟩ := mn_ifn hs
    obtain ⟨rfl, rfl, rfl, rfl⟩ := mn_go_inj hs
    have hK := kk H locs lsA S
    obtain ⟨hx, hb, hr, hml, hown, hts, hlk, hKK, hC, hM⟩ := C
    obtain ⟨hP, hD, hS, hl, hg⟩ := S
    exact va_iald hx hb hKK hP a 0 (n := (mn_sh a).2) (f := h a) (by rw [mn_ws_at ha, mn_cell1 hsh]) rfl (mn_in_iff hin) hd hK
  · cases hs
theorem mn_s_bald (C : mn_Cx D cI cZ cO ad lo M p s m args meth c) (S : mn_Sx D cI cZ cO ad lo M s H locs lsA h ls) (hd : decode (mC M) pc = .ok (.baload, 1)) (hs : mn_bald (pc + 1) ls st h = some (.inl (pc', ls', st', h1)))
    (kk : ∀ (H1 : Heap) (locs1 : List Loc) (lsB : Array Slot), mn_Sx D cI cZ cO ad lo M s H1 locs1 lsB h1 ls' → W p l e (mn_rm M) s m args below meth c H1 locs1 0 0 Q (F0 m pc' lsB (st'.map (mn_cv ad)))) : W p l e (mn_rm M) s m args below meth c H locs 0 0 Q (F0 m pc lsA (st.map (mn_cv ad))) := by
  unfold mn_bald at hs
  split at hs
  · next i a st0 =>
    by_cases h2 : a < 74 ∧ (mn_sh a).1 = 2 ∧ mn_in i (mn_sh a).2 = true
    · rw [if_pos h2] at hs
      obtain ⟨ha, hsh, hin⟩ := h2
      obtain ⟨rfl, rfl, rfl, rfl⟩ := mn_go_inj hs
      have hK := kk H locs lsA S
      obtain ⟨hx, hb, hr, hml, hown, hts, hlk, hKK, hC, hM⟩ := C
      obtain ⟨hP, hD, hS, hl, hg⟩ := S
      exact va_zald hx hb hKK hP a 1 (n := (mn_sh a).2) (f := h a) (by rw [mn_ws_at ha, mn_cell2 hsh]) rfl (mn_in_iff hin) hd hK
    · rw [if_neg h2] at hs
      obtain ⟨⟨ha, hin⟩, hs2⟩ := mn_ifn hs
      obtain ⟨rfl, rfl, rfl, rfl⟩ := mn_go_inj hs2
      clear hs hs2
      subst ha
      have hK := kk H locs lsA S
      obtain ⟨hx, hb, hr, hml, hown, hts, hlk, hKK, hC, hM⟩ := C
      obtain ⟨hP, hD, hS, hl, hg⟩ := S
      obtain ⟨c1, c2, c3, c4, c5, c6, c7, c8, c9⟩ := hC
      exact va_tb hx hb c8 hS (mn_in_iff hin) rfl hd hK
  · cases hs
theorem mn_s_lald (C : mn_Cx D cI cZ cO ad lo M p s m args meth c) (S : mn_Sx D cI cZ cO ad lo M s H locs lsA h ls) (hd : decode (mC M) pc = .ok (.laload, 1)) (hs : mn_lald (pc + 1) ls st h = some (.inl (pc', ls', st', h1)))
    (kk : ∀ (H1 : Heap) (locs1 : List Loc) (lsB : Array Slot), mn_Sx D cI cZ cO ad lo M s H1 locs1 lsB h1 ls' → W p l e (mn_rm M) s m args below meth c H1 locs1 0 0 Q (F0 m pc' lsB (st'.map (mn_cv ad)))) : W p l e (mn_rm M) s m args below meth c H locs 0 0 Q (F0 m pc lsA (st.map (mn_cv ad))) := by
  unfold mn_lald at hs
  split at hs
  · next i a st0 =>
    obtain ⟨⟨ha, hin⟩, hs2⟩ := mn_ifn hs
    obtain ⟨rfl, rfl, rfl, rfl⟩ := mn_go_inj hs2
    clear hs hs2
    subst ha
    have hK := kk H locs lsA S
    obtain ⟨hx, hb, hr, hml, hown, hts, hlk, hKK, hC, hM⟩ := C
    obtain ⟨hP, hD, hS, hl, hg⟩ := S
    obtain ⟨c1, c2, c3, c4, c5, c6, c7, c8, c9⟩ := hC
    exact va_tl hx hb c2 hS (mn_in_iff hin) rfl hd hK
  · cases hs
theorem mn_s_aald (C : mn_Cx D cI cZ cO ad lo M p s m args meth c) (S : mn_Sx D cI cZ cO ad lo M s H locs lsA h ls) (hd : decode (mC M) pc = .ok (.aaload, 1)) (hs : mn_aald (pc + 1) ls st h = some (.inl (pc', ls', st', h1)))
    (kk : ∀ (H1 : Heap) (locs1 : List Loc) (lsB : Array Slot), mn_Sx D cI cZ cO ad lo M s H1 locs1 lsB h1 ls' → W p l e (mn_rm M) s m args below meth c H1 locs1 0 0 Q (F0 m pc' lsB (st'.map (mn_cv ad)))) : W p l e (mn_rm M) s m args below meth c H locs 0 0 Q (F0 m pc lsA (st.map (mn_cv ad))) := by
  unfold mn_aald at hs
  split at hs
  · next i a st0 =>
    obtain ⟨⟨ha, hin⟩, hs2⟩ := mn_ifn hs
    obtain ⟨rfl, rfl, rfl, rfl⟩ := mn_go_inj hs2
    clear hs hs2
    subst ha
    have hK := kk H locs lsA S
    obtain ⟨hx, hb, hr, hml, hown, hts, hlk, hKK, hC, hM⟩ := C
    obtain ⟨hP, hD, hS, hl, hg⟩ := S
    exact va_aldq hx hb hKK hP 9 2 (C := "TomorrowBells$Course") (n := 2) (f := fun i => some (ad (5 + 2 * i))) (by rw [mn_ws_at (by decide)]; rfl) rfl (mn_in_iff hin) hd hK
  · cases hs
theorem mn_s_alen (C : mn_Cx D cI cZ cO ad lo M p s m args meth c) (S : mn_Sx D cI cZ cO ad lo M s H locs lsA h ls) (hd : decode (mC M) pc = .ok (.arraylength, 1)) (hs : mn_alen (pc + 1) ls st h = some (.inl (pc', ls', st', h1)))
    (kk : ∀ (H1 : Heap) (locs1 : List Loc) (lsB : Array Slot), mn_Sx D cI cZ cO ad lo M s H1 locs1 lsB h1 ls' → W p l e (mn_rm M) s m args below meth c H1 locs1 0 0 Q (F0 m pc' lsB (st'.map (mn_cv ad)))) : W p l e (mn_rm M) s m args below meth c H locs 0 0 Q (F0 m pc lsA (st.map (mn_cv ad))) := by
  unfold mn_alen at hs
  split at hs
  · next a st0 =>
    obtain ⟨ha, hs⟩ := mn_ifn hs
    obtain ⟨rfl, rfl, rfl, rfl⟩ := mn_go_inj hs
    have hK := kk H locs lsA S
    obtain ⟨hx, hb, hr, hml, hown, hts, hlk, hKK, hC, hM⟩ := C
    obtain ⟨hP, hD, hS, hl, hg⟩ := S
    obtain ⟨c1, c2, c3, c4, c5, c6, c7, c8, c9⟩ := hC
    rcases ha with ⟨ha, hsh⟩ | rfl
    · exact va_alen hx hb hKK hP a 0 (x := ((mn_sh a).2, .inl (h a))) (by rw [mn_ws_at ha, mn_cell1 hsh]) rfl rfl hd hK
    · exact va_tlen hx hb c8 hS rfl hd hK
  · cases hs
theorem mn_s_math {i k : Nat} (C : mn_Cx D cI cZ cO ad lo M p s m args meth c) (S : mn_Sx D cI cZ cO ad lo M s H locs lsA h ls) (hd : decode (mC M) pc = .ok (.invokestatic i, 3)) (hm : mn_ma (mO M) i = some k) (hs : mn_math M pc k ls st h = some (.inl (pc', ls', st', h1)))
    (kk : ∀ (H1 : Heap) (locs1 : List Loc) (lsB : Array Slot), mn_Sx D cI cZ cO ad lo M s H1 locs1 lsB h1 ls' → W p l e (mn_rm M) s m args below meth c H1 locs1 0 0 Q (F0 m pc' lsB (st'.map (mn_cv ad)))) : W p l e (mn_rm M) s m args below meth c H locs 0 0 Q (F0 m pc lsA (st.map (mn_cv ad))) := by
  have hcat : ∀ v : List Value, ((v.map (mn_cv ad)).map fun v => v.category).sum = mn_cat v := by
    intro v
    unfold mn_cat
    rw [List.map_map]
    congr 1
    apply List.map_congr_left
    intro a _
    exact mn_cv_cat ad a
  unfold mn_math at hs
  split at hs
  · next y x st0 =>
    obtain ⟨⟨hf, hw⟩, hs⟩ := mn_ifn hs
    obtain ⟨rfl, rfl, rfl, rfl⟩ := mn_go_inj hs
    have hK := kk H locs lsA S
    obtain ⟨hx, hb, hr, hml, hown, hts, hlk, hKK, hC, hM⟩ := C
    obtain ⟨hP, hD, hS, hl, hg⟩ := S
    exact va_mmax hx hb (hml.trans hl.1.symm) hown (hts _ (mn_wt mn_Gh (List.mem_map.mpr ⟨_, mn_ma_of hm, rfl⟩))) (hts _ (mn_wt mn_Gj (List.mem_of_getElem? (i := 1) rfl))) (hts _ (mn_wt mn_Gz (List.mem_map.mpr ⟨13, by decide, rfl⟩))) (hts _ (mn_wt mn_Gj (List.mem_of_getElem? (i := 0) rfl))) hf (by rw [hcat]; exact hw) (Nat.zero_le _) (Nat.zero_le _) hd hK
  · next y x st0 =>
    obtain ⟨⟨hf, hw⟩, hs⟩ := mn_ifn hs
    obtain ⟨rfl, rfl, rfl, rfl⟩ := mn_go_inj hs
    have hK := kk H locs lsA S
    obtain ⟨hx, hb, hr, hml, hown, hts, hlk, hKK, hC, hM⟩ := C
    obtain ⟨hP, hD, hS, hl, hg⟩ := S
    exact va_mmin hx hb (hml.trans hl.1.symm) hown (hts _ (mn_wt mn_Gh (List.mem_map.mpr ⟨_, mn_ma_of hm, rfl⟩))) (hts _ (mn_wt mn_Gj (List.mem_of_getElem? (i := 3) rfl))) (hts _ (mn_wt mn_Gz (List.mem_map.mpr ⟨13, by decide, rfl⟩))) (hts _ (mn_wt mn_Gj (List.mem_of_getElem? (i := 2) rfl))) hf (by rw [hcat]; exact hw) (Nat.zero_le _) (Nat.zero_le _) hd hK
  · next x st0 =>
    obtain ⟨⟨hf, hw⟩, hs⟩ := mn_ifn hs
    obtain ⟨rfl, rfl, rfl, rfl⟩ := mn_go_inj hs
    have hK := kk H locs lsA S
    obtain ⟨hx, hb, hr, hml, hown, hts, hlk, hKK, hC, hM⟩ := C
    obtain ⟨hP, hD, hS, hl, hg⟩ := S
    exact va_mabs hx hb (hml.trans hl.1.symm) hown (hts _ (mn_wt mn_Gh (List.mem_map.mpr ⟨_, mn_ma_of hm, rfl⟩))) (hts _ (mn_wt mn_Gj (List.mem_of_getElem? (i := 5) rfl))) (hts _ (mn_wt mn_Gz (List.mem_map.mpr ⟨13, by decide, rfl⟩))) (hts _ (mn_wt mn_Gj (List.mem_of_getElem? (i := 4) rfl))) hf (by rw [hcat]; exact hw) (Nat.zero_le _) (Nat.zero_le _) hd hK
  · cases hs
theorem mn_s_acpy {i : Nat} (C : mn_Cx D cI cZ cO ad lo M p s m args meth c) (S : mn_Sx D cI cZ cO ad lo M s H locs lsA h ls) (hd : decode (mC M) pc = .ok (.invokestatic i, 3)) (hm : mO M = 1 ∧ i = 31) (hs : mn_acpy M pc ls st h = some (.inl (pc', ls', st', h1)))
    (kk : ∀ (H1 : Heap) (locs1 : List Loc) (lsB : Array Slot), mn_Sx D cI cZ cO ad lo M s H1 locs1 lsB h1 ls' → W p l e (mn_rm M) s m args below meth c H1 locs1 0 0 Q (F0 m pc' lsB (st'.map (mn_cv ad)))) : W p l e (mn_rm M) s m args below meth c H locs 0 0 Q (F0 m pc lsA (st.map (mn_cv ad))) := by
  have hcat : ∀ v : List Value, ((v.map (mn_cv ad)).map fun v => v.category).sum = mn_cat v := by
    intro v
    unfold mn_cat
    rw [List.map_map]
    congr 1
    apply List.map_congr_left
    intro a _
    exact mn_cv_cat ad a
  unfold mn_acpy at hs
  split at hs
  · next n dp b sp a st0 =>
    obtain ⟨⟨ha, hb', s1, s2, b1, b2, b3, b4, b5, hf, hw⟩, hs⟩ := mn_ifn hs
    obtain ⟨rfl, rfl, rfl, rfl⟩ := mn_go_inj hs
    obtain ⟨hx, hb, hr, hml, hown, hts, hlk, hKK, hC, hM⟩ := C
    obtain ⟨hP, hD, hS, hl, hg⟩ := S
    have ho : mn_cn (mO M) = "TomorrowBells$Course" := by rw [hm.1]; rfl
    rw [ho] at hown
    rw [hm.2] at hd
    refine va_copyi hx hb (hml.trans hl.1.symm) hown (hts _ (mn_wt mn_Gr (List.mem_of_getElem? (i := 2) rfl))) (hts _ (mn_wt mn_Gr (List.mem_of_getElem? (i := 3) rfl))) (hts _ (mn_wt mn_Gr (List.mem_of_getElem? (i := 4) rfl))) (hts _ (mn_wt mn_Gr (List.mem_of_getElem? (i := 5) rfl))) hKK hP hD hS a b 0 0 (n0 := (mn_sh a).2) (n1 := (mn_sh b).2) (f := h a) (g := h b) (ty := .int) (by rw [mn_ws_at ha, mn_cell1 s1]) (by rw [mn_ws_at hb', mn_cell1 s2]) rfl rfl rfl b1 b2 b3 b4 b5 (fun _ _ => rfl) hf (by rw [hcat]; exact Nat.le_trans (Nat.add_le_add_left mn_nfw _) hw) hd (fun H1 locs1 p1 p2 p3 => kk H1 locs1 lsA ⟨?_, mn_ws_D hD, p3, hl, hg⟩)
    rw [mn_ws_set (h1 := mn_set h b (va_cpy (h a) (h b) sp.toNatClampNeg dp.toNatClampNeg n.toNatClampNeg)) hb' (by simp only [mn_set, if_pos]; rw [mn_cell1 s2]) (fun q hq => by simp [mn_set, hq])] at p1
    exact p1
  · cases hs
end MNS
