theorem mn_flat_len (ad : Nat → Nat) (vs : List Value) : (lg_sl (vs.map (mn_cv ad))).length = (mn_flat vs).length := by
  induction vs with
  | nil => rfl
  | cons v vs ih =>
    simp only [List.map_cons, lg_sl, List.flatMap_cons, List.length_append, mn_flat, mn_cv_cat] at ih ⊢
    by_cases hc : v.category = 2
    · simp only [hc, if_pos, List.length_cons, List.length_nil]; rw [ih]; omega
    · simp only [if_neg hc, List.length_cons, List.length_nil]; rw [ih]; omega
theorem mn_args_mem (ad : Nat → Nat) (m : Nat) : ∀ (vs : List Value) (i k : Nat) (v : Value), (mn_flat vs ++ List.replicate m .null)[k]? = some v → mn_isn v = false → (i + k, mn_cv ad v) ∈ lv_args i (vs.map (mn_cv ad)) := by
  intro vs
  induction vs with
  | nil =>
    intro i k v hv hn
    simp only [mn_flat, List.nil_append] at hv
    obtain ⟨h1, h2⟩ := List.getElem?_eq_some_iff.mp hv
    rw [List.getElem_replicate] at h2
    subst h2
    cases hn
  | cons w vs ih =>
    intro i k v hv hn
    simp only [List.map_cons, lv_args, mn_cv_cat]
    simp only [mn_flat] at hv
    by_cases hc : w.category = 2
    · rw [if_pos hc] at hv ⊢
      match k, hv with
      | 0, hv => cases hv; exact List.mem_cons_self
      | 1, hv => cases hv; cases hn
      | k + 2, hv =>
        have := ih (i + 2) k v hv hn
        rw [show i + 2 + k = i + (k + 2) by omega] at this
        exact List.mem_cons_of_mem _ this
    · rw [if_neg hc] at hv ⊢
      match k, hv with
      | 0, hv => cases hv; exact List.mem_cons_self
      | k + 1, hv =>
        have := ih (i + 1) k v hv hn
        rw [show i + 1 + k = i + (k + 1) by omega] at this
        exact List.mem_cons_of_mem _ this
theorem mn_entry (ad : Nat → Nat) (vs : List Value) {n : Nat} (hn : (mn_flat vs).length ≤ n) : lv_has ((lg_sl (vs.map (mn_cv ad)) ++ List.replicate (n - (lg_sl (vs.map (mn_cv ad))).length) Slot.unset).toArray) n (mn_lv ad (mn_ent vs n)) := by
  refine mn_lvsub (lv_entry (vs.map (mn_cv ad)) (n := n) (by rw [mn_flat_len]; exact hn)) (fun q hq => ?_)
  obtain ⟨v, hv, hn, e⟩ := mn_lv_mem.mp hq
  have := mn_args_mem ad _ vs 0 q.1 v hv hn
  rw [Nat.zero_add, ← e] at this
  exact this
theorem mn_sh0 : ∀ a, a < 77 → (mn_sh a).1 = 0 → ((mn_sh a).2 < 9 ∧ a < 74) ∨ ((mn_sh a).2 = 9 ∧ a = 75) := by decide +kernel
theorem mn_sh0' {a ci : Nat} (hs : mn_sh a = (0, ci)) : (ci < 9 ∧ a < 74) ∨ (ci = 9 ∧ a = 75) := by
  have h77 : a < 77 := by
    rcases Nat.lt_or_ge a 77 with hn | hn
    · exact hn
    · have : mn_sh a = (9, 9) := by
        unfold mn_sh
        rw [List.getD_eq_getElem?_getD, List.getElem?_eq_none (show mn_shL.length ≤ a from hn)]
        rfl
      rw [this] at hs; cases hs
  have := mn_sh0 a h77 (by rw [hs])
  rw [hs] at this
  exact this
theorem mn_csta_inv {M pc C pc' K : Nat} {st vs st' : List Value} (e : mn_csta M pc K st = some (.inr (.inr (C, vs, pc', st')))) : K = C ∧ st = vs.reverse ++ st' ∧ vs.length = mP C ∧ mn_cok M C vs st' = true ∧ mSt C = true ∧ pc' = pc + 3 := by
  unfold mn_csta at e
  obtain ⟨⟨h1, h2, h3⟩, e⟩ := mn_ifn e
  cases e
  refine ⟨rfl, ?_, ?_, h1, h3, rfl⟩
  · rw [List.reverse_reverse, List.take_append_drop]
  · rw [List.length_reverse, List.length_take]; omega
theorem mn_stp_call {M pc C pc' : Nat} {ls st vs st' : List Value} {h : mn_H} (hs : mn_stp M pc ls st h = some (.inr (.inr (C, vs, pc', st')))) :
    (∃ i, decode (mC M) pc = .ok (.invokestatic i, 3) ∧ (mn_ml (mO M) i = some C ∨ mn_nl (mO M) i = some C) ∧ st = vs.reverse ++ st' ∧ vs.length = mP C ∧ mn_cok M C vs st' = true ∧ mSt C = true ∧ pc' = pc + 3) ∨
    (∃ i a vs0, decode (mC M) pc = .ok (.invokevirtual i, 3) ∧ mn_ml (mO M) i = some C ∧ vs = .ref a :: vs0 ∧ st = vs0.reverse ++ .ref a :: st' ∧ vs0.length = mP C ∧ mn_sh a = (0, mO C) ∧ mn_cok M C vs st' = true ∧ mSt C = false ∧ pc' = pc + 3) := by
  unfold mn_stp at hs
  cases hd : decode (mC M) pc with
  | error x => rw [hd] at hs; cases hs
  | ok q =>
  obtain ⟨op, len⟩ := q
  rw [hd] at hs
  dsimp only at hs
  cases op with
  | invokestatic i =>
    dsimp only [mn_op] at hs
    replace hs := mn_ifn hs; obtain ⟨hlen, hs⟩ := hs; subst hlen
    unfold mn_stat at hs
    left
    split at hs
    · next K hK =>
      obtain ⟨rfl, h1, h2, h3, h4, h5⟩ := mn_csta_inv hs
      exact ⟨i, rfl, Or.inl hK, h1, h2, h3, h4, h5⟩
    · split at hs
      · next K hK =>
        obtain ⟨rfl, h1, h2, h3, h4, h5⟩ := mn_csta_inv hs
        exact ⟨i, rfl, Or.inr hK, h1, h2, h3, h4, h5⟩
      · split at hs
        · next k hk =>
          unfold mn_math at hs
          split at hs
          · replace hs := mn_ifn hs; obtain ⟨-, hs⟩ := hs; cases hs
          · replace hs := mn_ifn hs; obtain ⟨-, hs⟩ := hs; cases hs
          · replace hs := mn_ifn hs; obtain ⟨-, hs⟩ := hs; cases hs
          · cases hs
        · replace hs := mn_ifn hs; obtain ⟨-, hs⟩ := hs
          unfold mn_acpy at hs
          split at hs
          · replace hs := mn_ifn hs; obtain ⟨-, hs⟩ := hs; cases hs
          · cases hs
  | invokevirtual i =>
    dsimp only [mn_op] at hs
    replace hs := mn_ifn hs; obtain ⟨hlen, hs⟩ := hs; subst hlen
    unfold mn_virt at hs
    right
    split at hs
    · next K hK =>
      split at hs
      · next a st0 hdr =>
        replace hs := mn_ifn hs; obtain ⟨⟨h1, h2, h3, h4⟩, hs⟩ := hs
        cases hs
        refine ⟨i, a, _, rfl, hK, rfl, ?_, ?_, h2, h1, h4, rfl⟩
        · rw [List.reverse_reverse, ← hdr, List.take_append_drop]
        · rw [List.length_reverse, List.length_take]; omega
      · cases hs
    · cases hs
  | ireturn =>
    dsimp only [mn_op] at hs
    replace hs := mn_ifn hs; obtain ⟨-, hs⟩ := hs
    split at hs
    · replace hs := mn_ifn hs; obtain ⟨-, hs⟩ := hs; cases hs
    · cases hs
  | lreturn =>
    dsimp only [mn_op] at hs
    replace hs := mn_ifn hs; obtain ⟨-, hs⟩ := hs
    split at hs
    · replace hs := mn_ifn hs; obtain ⟨-, hs⟩ := hs; cases hs
    · cases hs
  | return_ =>
    dsimp only [mn_op] at hs
    replace hs := mn_ifn hs; obtain ⟨-, hs⟩ := hs
    split at hs
    · replace hs := mn_ifn hs; obtain ⟨-, hs⟩ := hs; cases hs
    · cases hs
  | _ =>
    exfalso
    first
      | (cases hs; done)
      | (simp only [mn_op, mn_il, mn_ll, mn_al, mn_is, mn_as, mn_ls, mn_i2, mn_l2, mn_ls2, mn_i1, mn_get, mn_put, mn_iald, mn_bald, mn_lald, mn_aald, mn_iast, mn_bast, mn_alen, mn_jmp, mn_go] at hs
         repeat' (first | (cases hs; done) | split at hs))
theorem mn_stp_ret {M pc : Nat} {ls st : List Value} {h : mn_H} {v : Option Value} (hs : mn_stp M pc ls st h = some (.inr (.inl v))) :
    (∃ x, decode (mC M) pc = .ok (.ireturn, 1) ∧ st = [.int x] ∧ v = some (.int x) ∧ (mR M = some .int ∨ (mR M = some .boolean ∧ (x = 0 ∨ x = 1)) ∨ (mR M = some .byte ∧ x = 0))) ∨
    (∃ x, decode (mC M) pc = .ok (.lreturn, 1) ∧ st = [.long x] ∧ v = some (.long x) ∧ mR M = some .long) ∨
    (decode (mC M) pc = .ok (.return_, 1) ∧ st = [] ∧ v = none ∧ mR M = none) := by
  unfold mn_stp at hs
  cases hd : decode (mC M) pc with
  | error x => rw [hd] at hs; cases hs
  | ok q =>
  obtain ⟨op, len⟩ := q
  rw [hd] at hs
  dsimp only at hs
  cases op with
  | ireturn =>
    dsimp only [mn_op] at hs
    replace hs := mn_ifn hs; obtain ⟨hlen, hs⟩ := hs; subst hlen
    split at hs
    · next x => replace hs := mn_ifn hs; obtain ⟨h1, hs⟩ := hs; cases hs; exact Or.inl ⟨x, rfl, rfl, rfl, h1⟩
    · cases hs
  | lreturn =>
    dsimp only [mn_op] at hs
    replace hs := mn_ifn hs; obtain ⟨hlen, hs⟩ := hs; subst hlen
    split at hs
    · next x => replace hs := mn_ifn hs; obtain ⟨h1, hs⟩ := hs; cases hs; exact Or.inr (Or.inl ⟨x, rfl, rfl, rfl, h1⟩)
    · cases hs
  | return_ =>
    dsimp only [mn_op] at hs
    replace hs := mn_ifn hs; obtain ⟨hlen, hs⟩ := hs; subst hlen
    split at hs
    · replace hs := mn_ifn hs; obtain ⟨h1, hs⟩ := hs; cases hs; exact Or.inr (Or.inr ⟨rfl, rfl, rfl, h1⟩)
    · cases hs
  | invokestatic i =>
    exfalso
    dsimp only [mn_op] at hs
    replace hs := mn_ifn hs; obtain ⟨-, hs⟩ := hs
    simp only [mn_stat, mn_csta, mn_math, mn_acpy, mn_go] at hs
    repeat' (first | (cases hs; done) | split at hs)
  | invokevirtual i =>
    exfalso
    dsimp only [mn_op] at hs
    replace hs := mn_ifn hs; obtain ⟨-, hs⟩ := hs
    simp only [mn_virt] at hs
    repeat' (first | (cases hs; done) | split at hs)
  | _ =>
    exfalso
    first
      | (cases hs; done)
      | (simp only [mn_op, mn_il, mn_ll, mn_al, mn_is, mn_as, mn_ls, mn_i2, mn_l2, mn_ls2, mn_i1, mn_get, mn_put, mn_iald, mn_bald, mn_lald, mn_aald, mn_iast, mn_bast, mn_alen, mn_jmp, mn_go] at hs
         repeat' (first | (cases hs; done) | split at hs))
