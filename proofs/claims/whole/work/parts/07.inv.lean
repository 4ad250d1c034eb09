theorem mn_go_inj {pc pc' : Nat} {ls st ls' st' : List Value} {h h' : mn_H} (e : mn_go pc ls st h = some (.inl (pc', ls', st', h'))) : pc = pc' ∧ ls = ls' ∧ st = st' ∧ h = h' := by
  unfold mn_go at e
  cases e
  exact ⟨rfl, rfl, rfl, rfl⟩
theorem mn_il_inv {pc i pc' : Nat} {ls st ls' st' : List Value} {h h' : mn_H} (e : mn_il pc ls st h i = some (.inl (pc', ls', st', h'))) : ∃ x, ls[i]? = some (.int x) ∧ pc = pc' ∧ ls = ls' ∧ .int x :: st = st' ∧ h = h' := by
  unfold mn_il at e
  split at e
  · next x hx => exact ⟨x, hx, mn_go_inj e⟩
  · cases e
theorem mn_ll_inv {pc i pc' : Nat} {ls st ls' st' : List Value} {h h' : mn_H} (e : mn_ll pc ls st h i = some (.inl (pc', ls', st', h'))) : ∃ x, ls[i]? = some (.long x) ∧ pc = pc' ∧ ls = ls' ∧ .long x :: st = st' ∧ h = h' := by
  unfold mn_ll at e
  split at e
  · next x hx => exact ⟨x, hx, mn_go_inj e⟩
  · cases e
theorem mn_al_inv {pc i pc' : Nat} {ls st ls' st' : List Value} {h h' : mn_H} (e : mn_al pc ls st h i = some (.inl (pc', ls', st', h'))) : ∃ x, ls[i]? = some (.ref x) ∧ pc = pc' ∧ ls = ls' ∧ .ref x :: st = st' ∧ h = h' := by
  unfold mn_al at e
  split at e
  · next x hx => exact ⟨x, hx, mn_go_inj e⟩
  · cases e
theorem mn_is_inv {M pc i pc' : Nat} {ls st ls' st' : List Value} {h h' : mn_H} (e : mn_is M pc ls st h i = some (.inl (pc', ls', st', h'))) : ∃ x, st = .int x :: st' ∧ mn_so M i ls = true ∧ pc = pc' ∧ ls.set i (.int x) = ls' ∧ h = h' := by
  unfold mn_is at e
  split at e
  · next x st0 =>
    obtain ⟨e1, e2⟩ := mn_ifn e
    obtain ⟨a, b, c, d⟩ := mn_go_inj e2
    exact ⟨x, by rw [c], e1, a, b, d⟩
  · cases e
theorem mn_as_inv {M pc i pc' : Nat} {ls st ls' st' : List Value} {h h' : mn_H} (e : mn_as M pc ls st h i = some (.inl (pc', ls', st', h'))) : ∃ x, st = .ref x :: st' ∧ mn_so M i ls = true ∧ pc = pc' ∧ ls.set i (.ref x) = ls' ∧ h = h' := by
  unfold mn_as at e
  split at e
  · next x st0 =>
    obtain ⟨e1, e2⟩ := mn_ifn e
    obtain ⟨a, b, c, d⟩ := mn_go_inj e2
    exact ⟨x, by rw [c], e1, a, b, d⟩
  · cases e
theorem mn_ls_inv {M pc i pc' : Nat} {ls st ls' st' : List Value} {h h' : mn_H} (e : mn_ls M pc ls st h i = some (.inl (pc', ls', st', h'))) : ∃ x, st = .long x :: st' ∧ mn_so2 M i ls = true ∧ pc = pc' ∧ ls.set i (.long x) = ls' ∧ h = h' := by
  unfold mn_ls at e
  split at e
  · next x st0 =>
    obtain ⟨e1, e2⟩ := mn_ifn e
    obtain ⟨a, b, c, d⟩ := mn_go_inj e2
    exact ⟨x, by rw [c], e1, a, b, d⟩
  · cases e
theorem mn_i2_inv {pc pc' : Nat} {ls st ls' st' : List Value} {h h' : mn_H} {f : Int32 → Int32 → Int32} (e : mn_i2 pc ls st h f = some (.inl (pc', ls', st', h'))) : ∃ x y st0, st = .int y :: .int x :: st0 ∧ pc = pc' ∧ ls = ls' ∧ .int (f x y) :: st0 = st' ∧ h = h' := by
  unfold mn_i2 at e
  split at e
  · next y x st0 => exact ⟨x, y, st0, rfl, mn_go_inj e⟩
  · cases e
theorem mn_l2_inv {pc pc' : Nat} {ls st ls' st' : List Value} {h h' : mn_H} {f : Int64 → Int64 → Int64} (e : mn_l2 pc ls st h f = some (.inl (pc', ls', st', h'))) : ∃ x y st0, st = .long y :: .long x :: st0 ∧ pc = pc' ∧ ls = ls' ∧ .long (f x y) :: st0 = st' ∧ h = h' := by
  unfold mn_l2 at e
  split at e
  · next y x st0 => exact ⟨x, y, st0, rfl, mn_go_inj e⟩
  · cases e
theorem mn_ls2_inv {pc pc' : Nat} {ls st ls' st' : List Value} {h h' : mn_H} {f : Int64 → Int32 → Int64} (e : mn_ls2 pc ls st h f = some (.inl (pc', ls', st', h'))) : ∃ x y st0, st = .int y :: .long x :: st0 ∧ pc = pc' ∧ ls = ls' ∧ .long (f x y) :: st0 = st' ∧ h = h' := by
  unfold mn_ls2 at e
  split at e
  · next y x st0 => exact ⟨x, y, st0, rfl, mn_go_inj e⟩
  · cases e
theorem mn_i1_inv {pc pc' : Nat} {ls st ls' st' : List Value} {h h' : mn_H} {f : Int32 → Int32} (e : mn_i1 pc ls st h f = some (.inl (pc', ls', st', h'))) : ∃ x st0, st = .int x :: st0 ∧ pc = pc' ∧ ls = ls' ∧ .int (f x) :: st0 = st' ∧ h = h' := by
  unfold mn_i1 at e
  split at e
  · next x st0 => exact ⟨x, st0, rfl, mn_go_inj e⟩
  · cases e
theorem mn_jmp_inv {pc pc' : Nat} {off : Int} {ls st ls' st' : List Value} {h h' : mn_H} (e : mn_jmp pc off ls st h = some (.inl (pc', ls', st', h'))) : (pc : Int) + off = (pc' : Int) ∧ ls = ls' ∧ st = st' ∧ h = h' := by
  unfold mn_jmp at e
  obtain ⟨e1, e2⟩ := mn_ifn e
  obtain ⟨a, b, c, d⟩ := mn_go_inj e2
  exact ⟨by omega, b, c, d⟩
theorem mn_csta_no {M pc C : Nat} {st : List Value} {q : mn_S} (e : mn_csta M pc C st = some (.inl q)) : False := by
  unfold mn_csta at e
  obtain ⟨-, e2⟩ := mn_ifn e
  cases e2
theorem mn_virt_no {M o pc i : Nat} {ls st : List Value} {h : mn_H} {q : mn_S} (e : mn_virt M o pc ls st h i = some (.inl q)) : False := by
  unfold mn_virt at e
  split at e
  · split at e
    · obtain ⟨-, e2⟩ := mn_ifn e
      cases e2
    · cases e
  · cases e
theorem mn_sh9 : ∀ a, a < 77 → mn_sh a = (0, 9) → a = 75 := by decide +kernel
section MNS
variable {D : va_G} {cI cZ cO : ClassId} {ad : Nat → Nat} {lo M : Nat}
variable {p : Program} {l : Launch} {e : Env} {s : State} {m : MethodId} {args : Array Value} {below : List Frame} {meth : Method} {c : Code} {Q : State → Prop}
theorem mn_sG {H : Heap} {locs : List Loc} {lsA : Array Slot} {h : mn_H} {ls : List Value} (S : mn_Sx D cI cZ cO ad lo M s H locs lsA h ls) : mn_Sx D cI cZ cO ad lo M s H locs lsA h ls := S
/-- a store of one slot -/
theorem mn_sS {H : Heap} {locs : List Loc} {lsA lsB : Array Slot} {h : mn_H} {ls : List Value} {i : Nat} {x : Value} (S : mn_Sx D cI cZ cO ad lo M s H locs lsA h ls) (hs : mn_so M i ls = true) (hc : x.category = 1) (hl : lv_has lsB (mL M) ((i, mn_cv ad x) :: (mn_lv ad ls).filter (fun q => !(q.1 == i) && !(q.1 + 1 == i && q.2.category == 2)))) : mn_Sx D cI cZ cO ad lo M s H locs lsB h (ls.set i x) :=
  ⟨S.1, S.2.1, S.2.2.1, mn_lvsub hl (mn_lv1 S.2.2.2.2 hs), mn_g1 S.2.2.2.2 hs hc⟩
theorem mn_sS2 {H : Heap} {locs : List Loc} {lsA lsB : Array Slot} {h : mn_H} {ls : List Value} {i : Nat} {x : Value} (S : mn_Sx D cI cZ cO ad lo M s H locs lsA h ls) (hs : mn_so2 M i ls = true) (hl : lv_has lsB (mL M) ((i, mn_cv ad x) :: (mn_lv ad ls).filter (fun q => !(q.1 == i) && (!(q.1 == i + 1) && !(q.1 + 1 == i && q.2.category == 2))))) : mn_Sx D cI cZ cO ad lo M s H locs lsB h (ls.set i x) :=
  ⟨S.1, S.2.1, S.2.2.1, mn_lvsub hl (mn_lv2 S.2.2.2.2 hs), mn_g2 S.2.2.2.2 hs⟩
theorem mn_lvk {ls : List Value} {i : Nat} {v : Value} (hv : ls[i]? = some v) (hn : mn_isn v = false) : ∃ k : Nat, (mn_lv ad ls)[k]? = some (i, mn_cv ad v) := by
  have := mn_lv_mem (ad := ad) (ls := ls) (q := (i, mn_cv ad v)) |>.mpr ⟨v, hv, hn, rfl⟩
  exact List.getElem?_of_mem this
theorem mn_s_getfield {H : Heap} {locs : List Loc} {lsA : Array Slot} {h h1 : mn_H} {ls st ls' st' : List Value} {pc pc' i : Nat} (C : mn_Cx D cI cZ cO ad lo M p s m args meth c) (S : mn_Sx D cI cZ cO ad lo M s H locs lsA h ls) (hd : decode (mC M) pc = .ok (.getfield i, 3)) (hs : mn_get (mO M) (pc + 3) ls st h i = some (.inl (pc', ls', st', h1)))
    (kk : ∀ (H1 : Heap) (locs1 : List Loc) (lsB : Array Slot), mn_Sx D cI cZ cO ad lo M s H1 locs1 lsB h1 ls' → W p l e (mn_rm M) s m args below meth c H1 locs1 0 0 Q (F0 m pc' lsB (st'.map (mn_cv ad)))) : W p l e (mn_rm M) s m args below meth c H locs 0 0 Q (F0 m pc lsA (st.map (mn_cv ad))) := by
  unfold mn_get at hs
  split at hs
  · next a st0 ci k hf =>
    obtain ⟨hsh, hs⟩ := mn_ifn hs
    by_cases h9 : ci = 9
    · subst h9
      rw [if_pos rfl] at hs
      obtain ⟨rfl, rfl, rfl, rfl⟩ := mn_go_inj hs
      have hK := kk H locs lsA S
      obtain ⟨hx, hb, hr, hml, hown, hts, hlk, hKK, hC, hM⟩ := C
      obtain ⟨hP, hD, hS, hl, hg⟩ := S
      obtain ⟨c1, c2, c3, c4, c5, c6, c7, c8, c9⟩ := hC
      have ha : a = 75 := by
        have h77 : a < 77 := by
          rcases Nat.lt_or_ge a 77 with hn | hn
          · exact hn
          have : mn_sh a = (9, 9) := by
            unfold mn_sh
            rw [List.getD_eq_getElem?_getD, List.getElem?_eq_none (show mn_shL.length ≤ a from hn)]
            rfl
          rw [this] at hsh; cases hsh
        exact mn_sh9 a h77 hsh
      subst ha
      have hfl := hts _ (mn_wt mn_Gf (List.mem_map.mpr ⟨_, mn_fl_of hf, rfl⟩))
      dsimp only at hfl
      by_cases hk : k = 0
      · subst hk
        exact vk_getf hx hb c7 hS hown hfl (fun _ q => q) hd hK
      · rw [if_neg hk] at hK
        have e1 : mn_fT 9 k = ("java/lang/String", "coder", "B", true) := by
          unfold mn_fT
          rw [if_pos rfl, if_neg hk]
        rw [e1] at hfl
        exact vk_getf hx hb c6 hS hown hfl (fun _ q => q) hd hK
    · rw [if_neg h9] at hs
      obtain ⟨⟨ha, hk⟩, hs⟩ := mn_ifn hs
      obtain ⟨rfl, rfl, rfl, rfl⟩ := mn_go_inj hs
      have hci : ci < 9 := by
        apply Classical.byContradiction
        intro hn
        have : mn_nf ci = 0 := by
          unfold mn_nf
          rw [List.getD_eq_getElem?_getD, List.getElem?_eq_none (show mn_nfL.length ≤ ci from by rw [show mn_nfL.length = 9 from rfl]; omega)]
          rfl
        omega
      exact mn_s_get C S hd hf hsh hci ha hk (kk H locs lsA S)
  · cases hs
end MNS
