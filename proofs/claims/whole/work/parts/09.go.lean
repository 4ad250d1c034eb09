section MNS
variable {D : va_G} {cI cZ cO : ClassId} {ad : Nat → Nat} {lo M : Nat}
variable {p : Program} {l : Launch} {e : Env} {s : State} {m : MethodId} {args : Array Value} {below : List Frame} {meth : Method} {c : Code} {Q : State → Prop}
variable {H : Heap} {locs : List Loc} {lsA : Array Slot} {h h1 : mn_H} {ls st ls' st' : List Value} {pc pc' : Nat}
theorem mn_s_if {off : Int} {cd : Jvm.ClassFile.Cond} (C : mn_Cx D cI cZ cO ad lo M p s m args meth c) (S : mn_Sx D cI cZ cO ad lo M s H locs lsA h ls) (hd : decode (mC M) pc = .ok (.ifCond cd off, 3)) (hs : (match st with
    | .int x :: st => if 0 ≤ (pc : Int) + off then (if mn_cond cd x 0 = true then mn_go ((pc : Int) + off).toNat ls st h else mn_go (pc + 3) ls st h) else none
    | _ => none) = some (.inl (pc', ls', st', h1)))
    (kk : ∀ (H1 : Heap) (locs1 : List Loc) (lsB : Array Slot), mn_Sx D cI cZ cO ad lo M s H1 locs1 lsB h1 ls' → W p l e (mn_rm M) s m args below meth c H1 locs1 0 0 Q (F0 m pc' lsB (st'.map (mn_cv ad)))) : W p l e (mn_rm M) s m args below meth c H locs 0 0 Q (F0 m pc lsA (st.map (mn_cv ad))) := by
  have hx := C.1
  have hb := C.2.1
  split at hs
  · next x st0 =>
    replace hs := mn_ifn hs; obtain ⟨h0, hs⟩ := hs
    have ht : (pc : Int) + off = ((((pc : Int) + off).toNat : Nat) : Int) := by omega
    by_cases hz : mn_cond cd x 0 = true
    · rw [if_pos hz] at hs
      obtain ⟨rfl, rfl, rfl, rfl⟩ := mn_go_inj hs
      have K := kk H locs lsA S
      cases cd with
      | eq => exact lv_if_eq hx hb hd ht (fun _ => K) (fun q => absurd (of_decide_eq_true hz) q)
      | ne => exact lv_if_ne hx hb hd ht (fun _ => K) (fun q => absurd q (of_decide_eq_true hz))
      | lt => exact lv_if_lt hx hb hd ht (fun _ => K) (fun q => absurd (of_decide_eq_true hz) q)
      | ge => exact lv_if_ge hx hb hd ht (fun _ => K) (fun q => absurd (of_decide_eq_true hz) q)
      | gt => exact lv_if_gt hx hb hd ht (fun _ => K) (fun q => absurd (of_decide_eq_true hz) q)
      | le => exact lv_if_le hx hb hd ht (fun _ => K) (fun q => absurd (of_decide_eq_true hz) q)
    · rw [if_neg hz] at hs
      obtain ⟨rfl, rfl, rfl, rfl⟩ := mn_go_inj hs
      have K := kk H locs lsA S
      cases cd with
      | eq => exact lv_if_eq hx hb hd ht (fun q => absurd (decide_eq_true q) hz) (fun _ => K)
      | ne => exact lv_if_ne hx hb hd ht (fun q => absurd (decide_eq_true q) hz) (fun _ => K)
      | lt => exact lv_if_lt hx hb hd ht (fun q => absurd (decide_eq_true q) hz) (fun _ => K)
      | ge => exact lv_if_ge hx hb hd ht (fun q => absurd (decide_eq_true q) hz) (fun _ => K)
      | gt => exact lv_if_gt hx hb hd ht (fun q => absurd (decide_eq_true q) hz) (fun _ => K)
      | le => exact lv_if_le hx hb hd ht (fun q => absurd (decide_eq_true q) hz) (fun _ => K)
  · cases hs
theorem mn_s_icmp {off : Int} {cd : Jvm.ClassFile.Cond} (C : mn_Cx D cI cZ cO ad lo M p s m args meth c) (S : mn_Sx D cI cZ cO ad lo M s H locs lsA h ls) (hd : decode (mC M) pc = .ok (.if_icmp cd off, 3)) (hs : (match st with
    | .int y :: .int x :: st => if 0 ≤ (pc : Int) + off then (if mn_cond cd x y = true then mn_go ((pc : Int) + off).toNat ls st h else mn_go (pc + 3) ls st h) else none
    | _ => none) = some (.inl (pc', ls', st', h1)))
    (kk : ∀ (H1 : Heap) (locs1 : List Loc) (lsB : Array Slot), mn_Sx D cI cZ cO ad lo M s H1 locs1 lsB h1 ls' → W p l e (mn_rm M) s m args below meth c H1 locs1 0 0 Q (F0 m pc' lsB (st'.map (mn_cv ad)))) : W p l e (mn_rm M) s m args below meth c H locs 0 0 Q (F0 m pc lsA (st.map (mn_cv ad))) := by
  have hx := C.1
  have hb := C.2.1
  split at hs
  · next y x st0 =>
    replace hs := mn_ifn hs; obtain ⟨h0, hs⟩ := hs
    have ht : (pc : Int) + off = ((((pc : Int) + off).toNat : Nat) : Int) := by omega
    by_cases hz : mn_cond cd x y = true
    · rw [if_pos hz] at hs
      obtain ⟨rfl, rfl, rfl, rfl⟩ := mn_go_inj hs
      have K := kk H locs lsA S
      cases cd with
      | eq => exact lv_icmp_eq hx hb hd ht (fun _ => K) (fun q => absurd (of_decide_eq_true hz) q)
      | ne => exact lv_icmp_ne hx hb hd ht (fun _ => K) (fun q => absurd q (of_decide_eq_true hz))
      | lt => exact lv_icmp_lt hx hb hd ht (fun _ => K) (fun q => absurd (of_decide_eq_true hz) q)
      | ge => exact lv_icmp_ge hx hb hd ht (fun _ => K) (fun q => absurd (of_decide_eq_true hz) q)
      | gt => exact lv_icmp_gt hx hb hd ht (fun _ => K) (fun q => absurd (of_decide_eq_true hz) q)
      | le => exact lv_icmp_le hx hb hd ht (fun _ => K) (fun q => absurd (of_decide_eq_true hz) q)
    · rw [if_neg hz] at hs
      obtain ⟨rfl, rfl, rfl, rfl⟩ := mn_go_inj hs
      have K := kk H locs lsA S
      cases cd with
      | eq => exact lv_icmp_eq hx hb hd ht (fun q => absurd (decide_eq_true q) hz) (fun _ => K)
      | ne => exact lv_icmp_ne hx hb hd ht (fun q => absurd (decide_eq_true q) hz) (fun _ => K)
      | lt => exact lv_icmp_lt hx hb hd ht (fun q => absurd (decide_eq_true q) hz) (fun _ => K)
      | ge => exact lv_icmp_ge hx hb hd ht (fun q => absurd (decide_eq_true q) hz) (fun _ => K)
      | gt => exact lv_icmp_gt hx hb hd ht (fun q => absurd (decide_eq_true q) hz) (fun _ => K)
      | le => exact lv_icmp_le hx hb hd ht (fun q => absurd (decide_eq_true q) hz) (fun _ => K)
  · cases hs
set_option maxHeartbeats 4000000 in
theorem mn_s_go (C : mn_Cx D cI cZ cO ad lo M p s m args meth c) (S : mn_Sx D cI cZ cO ad lo M s H locs lsA h ls) (hs : mn_stp M pc ls st h = some (.inl (pc', ls', st', h1)))
    (kk : ∀ (H1 : Heap) (locs1 : List Loc) (lsB : Array Slot), mn_Sx D cI cZ cO ad lo M s H1 locs1 lsB h1 ls' → W p l e (mn_rm M) s m args below meth c H1 locs1 0 0 Q (F0 m pc' lsB (st'.map (mn_cv ad)))) : W p l e (mn_rm M) s m args below meth c H locs 0 0 Q (F0 m pc lsA (st.map (mn_cv ad))) := by
  unfold mn_stp at hs
  cases hd : decode (mC M) pc with
  | error x => rw [hd] at hs; cases hs
  | ok q =>
  obtain ⟨op, len⟩ := q
  rw [hd] at hs
  dsimp only at hs
  have hx := C.1
  have hb := C.2.1
  have hl := S.2.2.2.1
  cases op with
  | iconst n =>
    dsimp only [mn_op] at hs
    replace hs := mn_ifn hs; obtain ⟨hlen, hs⟩ := hs; subst hlen
    obtain ⟨rfl, rfl, rfl, rfl⟩ := mn_go_inj hs
    exact lv_iconst hx hb hd rfl (kk H locs lsA S)
  | bipush n =>
    dsimp only [mn_op] at hs
    replace hs := mn_ifn hs; obtain ⟨hlen, hs⟩ := hs; subst hlen
    obtain ⟨rfl, rfl, rfl, rfl⟩ := mn_go_inj hs
    exact lv_bipush hx hb hd rfl (kk H locs lsA S)
  | sipush n =>
    dsimp only [mn_op] at hs
    replace hs := mn_ifn hs; obtain ⟨hlen, hs⟩ := hs; subst hlen
    obtain ⟨rfl, rfl, rfl, rfl⟩ := mn_go_inj hs
    exact lv_sipush hx hb hd rfl (kk H locs lsA S)
  | lconst n =>
    dsimp only [mn_op] at hs
    replace hs := mn_ifn hs; obtain ⟨hlen, hs⟩ := hs; subst hlen
    obtain ⟨rfl, rfl, rfl, rfl⟩ := mn_go_inj hs
    exact lv_lconst hx hb hd rfl (kk H locs lsA S)
  | ldc i =>
    dsimp only [mn_op] at hs
    replace hs := mn_ifn hs; obtain ⟨hlen, hs⟩ := hs; subst hlen
    have hown := C.2.2.2.2.1
    have hts := C.2.2.2.2.2.1
    by_cases hz : mO M = 2 ∧ i = 118
    · rw [if_pos hz] at hs
      obtain ⟨rfl, rfl, rfl, rfl⟩ := mn_go_inj hs
      have ho : mn_cn (mO M) = "TomorrowBells$Reader" := by rw [hz.1]; rfl
      rw [ho] at hown
      rw [hz.2] at hd
      exact va_ldcS hx hb hown C.2.2.2.2.2.2.2.2.1.2.2.2.1 hd (kk H locs lsA S)
    · rw [if_neg hz] at hs
      split at hs
      · next v hv =>
        obtain ⟨rfl, rfl, rfl, rfl⟩ := mn_go_inj hs
        exact lv_ldc hx hb hown (hts _ (mn_wt mn_Gk (List.mem_map.mpr ⟨_, mn_cst_of hv, rfl⟩))) hd (kk H locs lsA S)
      · cases hs
  | ldc_w i =>
    dsimp only [mn_op] at hs
    replace hs := mn_ifn hs; obtain ⟨hlen, hs⟩ := hs; subst hlen
    have hown := C.2.2.2.2.1
    have hts := C.2.2.2.2.2.1
    split at hs
    · next v hv =>
      obtain ⟨rfl, rfl, rfl, rfl⟩ := mn_go_inj hs
      exact lv_ldcw hx hb hown (hts _ (mn_wt mn_Gk (List.mem_map.mpr ⟨_, mn_cst_of hv, rfl⟩))) hd (kk H locs lsA S)
    · cases hs
  | ldc2_w i =>
    dsimp only [mn_op] at hs
    replace hs := mn_ifn hs; obtain ⟨hlen, hs⟩ := hs; subst hlen
    have hown := C.2.2.2.2.1
    have hts := C.2.2.2.2.2.1
    split at hs
    · next v hv =>
      obtain ⟨rfl, rfl, rfl, rfl⟩ := mn_go_inj hs
      exact lv_ldc2 hx hb hown (hts _ (mn_wt mn_GK (List.mem_map.mpr ⟨_, mn_cstl_of hv, rfl⟩))) hd (kk H locs lsA S)
    · cases hs
  | iload_n k =>
    dsimp only [mn_op] at hs
    replace hs := mn_ifn hs; obtain ⟨hlen, hs⟩ := hs; subst hlen
    obtain ⟨x, hv, rfl, rfl, rfl, rfl⟩ := mn_il_inv hs
    exact lv_iload_n hx hb hd rfl (mn_at hl hv rfl) (kk H locs lsA S)
  | iload i =>
    dsimp only [mn_op] at hs
    replace hs := mn_ifn hs; obtain ⟨hlen, hs⟩ := hs; subst hlen
    obtain ⟨x, hv, rfl, rfl, rfl, rfl⟩ := mn_il_inv hs
    exact lv_iload hx hb hd (mn_at hl hv rfl) (kk H locs lsA S)
  | lload_n k =>
    dsimp only [mn_op] at hs
    replace hs := mn_ifn hs; obtain ⟨hlen, hs⟩ := hs; subst hlen
    obtain ⟨x, hv, rfl, rfl, rfl, rfl⟩ := mn_ll_inv hs
    exact lv_lload_n hx hb hd rfl (mn_at hl hv rfl) (kk H locs lsA S)
  | lload i =>
    dsimp only [mn_op] at hs
    replace hs := mn_ifn hs; obtain ⟨hlen, hs⟩ := hs; subst hlen
    obtain ⟨x, hv, rfl, rfl, rfl, rfl⟩ := mn_ll_inv hs
    exact lv_lload hx hb hd (mn_at hl hv rfl) (kk H locs lsA S)
  | aload_n k =>
    dsimp only [mn_op] at hs
    replace hs := mn_ifn hs; obtain ⟨hlen, hs⟩ := hs; subst hlen
    obtain ⟨x, hv, rfl, rfl, rfl, rfl⟩ := mn_al_inv hs
    exact lv_aload_n hx hb hd rfl (mn_at hl hv rfl) (kk H locs lsA S)
  | aload i =>
    dsimp only [mn_op] at hs
    replace hs := mn_ifn hs; obtain ⟨hlen, hs⟩ := hs; subst hlen
    obtain ⟨x, hv, rfl, rfl, rfl, rfl⟩ := mn_al_inv hs
    exact lv_aload hx hb hd (mn_at hl hv rfl) (kk H locs lsA S)
  | istore_n k =>
    dsimp only [mn_op] at hs
    replace hs := mn_ifn hs; obtain ⟨hlen, hs⟩ := hs; subst hlen
    obtain ⟨x, rfl, hz, rfl, rfl, rfl⟩ := mn_is_inv hs
    exact lv_istore_n hx hb hd rfl hl (mn_so_of hz).1 rfl (fun lsB hB => kk H locs lsB (mn_sS S hz rfl hB))
  | istore i =>
    dsimp only [mn_op] at hs
    replace hs := mn_ifn hs; obtain ⟨hlen, hs⟩ := hs; subst hlen
    obtain ⟨x, rfl, hz, rfl, rfl, rfl⟩ := mn_is_inv hs
    exact lv_istore hx hb hd hl (mn_so_of hz).1 rfl (fun lsB hB => kk H locs lsB (mn_sS S hz rfl hB))
  | astore_n k =>
    dsimp only [mn_op] at hs
    replace hs := mn_ifn hs; obtain ⟨hlen, hs⟩ := hs; subst hlen
    obtain ⟨x, rfl, hz, rfl, rfl, rfl⟩ := mn_as_inv hs
    exact lv_astore_n hx hb hd rfl hl (mn_so_of hz).1 rfl (fun lsB hB => kk H locs lsB (mn_sS S hz rfl hB))
  | astore i =>
    dsimp only [mn_op] at hs
    replace hs := mn_ifn hs; obtain ⟨hlen, hs⟩ := hs; subst hlen
    obtain ⟨x, rfl, hz, rfl, rfl, rfl⟩ := mn_as_inv hs
    exact lv_astore hx hb hd hl (mn_so_of hz).1 rfl (fun lsB hB => kk H locs lsB (mn_sS S hz rfl hB))
  | lstore_n k =>
    dsimp only [mn_op] at hs
    replace hs := mn_ifn hs; obtain ⟨hlen, hs⟩ := hs; subst hlen
    obtain ⟨x, rfl, hz, rfl, rfl, rfl⟩ := mn_ls_inv hs
    exact lv_lstore_n hx hb hd rfl hl (mn_so2_of hz).1 rfl (fun lsB hB => kk H locs lsB (mn_sS2 S hz hB))
  | lstore i =>
    dsimp only [mn_op] at hs
    replace hs := mn_ifn hs; obtain ⟨hlen, hs⟩ := hs; subst hlen
    obtain ⟨x, rfl, hz, rfl, rfl, rfl⟩ := mn_ls_inv hs
    exact lv_lstore hx hb hd hl (mn_so2_of hz).1 rfl (fun lsB hB => kk H locs lsB (mn_sS2 S hz hB))
  | iinc i n =>
    dsimp only [mn_op] at hs
    replace hs := mn_ifn hs; obtain ⟨hlen, hs⟩ := hs; subst hlen
    split at hs
    · next x hv =>
      replace hs := mn_ifn hs; obtain ⟨hz, hs⟩ := hs
      obtain ⟨rfl, rfl, rfl, rfl⟩ := mn_go_inj hs
      obtain ⟨k, hk⟩ := mn_lvk (ad := ad) hv rfl
      exact lv_iinc hx hb hd hl hk rfl (mn_so_of hz).1 rfl (fun lsB hB => kk H locs lsB (mn_sS S hz rfl hB))
    · cases hs
  | iadd =>
    dsimp only [mn_op] at hs
    replace hs := mn_ifn hs; obtain ⟨hlen, hs⟩ := hs; subst hlen
    obtain ⟨x, y, st0, rfl, rfl, rfl, rfl, rfl⟩ := mn_i2_inv hs
    exact lv_iadd hx hb hd (kk H locs lsA S)
  | isub =>
    dsimp only [mn_op] at hs
    replace hs := mn_ifn hs; obtain ⟨hlen, hs⟩ := hs; subst hlen
    obtain ⟨x, y, st0, rfl, rfl, rfl, rfl, rfl⟩ := mn_i2_inv hs
    exact lv_isub hx hb hd (kk H locs lsA S)
  | imul =>
    dsimp only [mn_op] at hs
    replace hs := mn_ifn hs; obtain ⟨hlen, hs⟩ := hs; subst hlen
    obtain ⟨x, y, st0, rfl, rfl, rfl, rfl, rfl⟩ := mn_i2_inv hs
    exact lv_imul hx hb hd (kk H locs lsA S)
  | iand =>
    dsimp only [mn_op] at hs
    replace hs := mn_ifn hs; obtain ⟨hlen, hs⟩ := hs; subst hlen
    obtain ⟨x, y, st0, rfl, rfl, rfl, rfl, rfl⟩ := mn_i2_inv hs
    exact lv_iand hx hb hd (kk H locs lsA S)
  | ior =>
    dsimp only [mn_op] at hs
    replace hs := mn_ifn hs; obtain ⟨hlen, hs⟩ := hs; subst hlen
    obtain ⟨x, y, st0, rfl, rfl, rfl, rfl, rfl⟩ := mn_i2_inv hs
    exact lv_ior hx hb hd (kk H locs lsA S)
  | ixor =>
    dsimp only [mn_op] at hs
    replace hs := mn_ifn hs; obtain ⟨hlen, hs⟩ := hs; subst hlen
    obtain ⟨x, y, st0, rfl, rfl, rfl, rfl, rfl⟩ := mn_i2_inv hs
    exact lv_ixor hx hb hd (kk H locs lsA S)
  | ishl =>
    dsimp only [mn_op] at hs
    replace hs := mn_ifn hs; obtain ⟨hlen, hs⟩ := hs; subst hlen
    obtain ⟨x, y, st0, rfl, rfl, rfl, rfl, rfl⟩ := mn_i2_inv hs
    exact lv_ishl hx hb hd (kk H locs lsA S)
  | ishr =>
    dsimp only [mn_op] at hs
    replace hs := mn_ifn hs; obtain ⟨hlen, hs⟩ := hs; subst hlen
    obtain ⟨x, y, st0, rfl, rfl, rfl, rfl, rfl⟩ := mn_i2_inv hs
    exact lv_ishr hx hb hd (kk H locs lsA S)
  | iushr =>
    dsimp only [mn_op] at hs
    replace hs := mn_ifn hs; obtain ⟨hlen, hs⟩ := hs; subst hlen
    obtain ⟨x, y, st0, rfl, rfl, rfl, rfl, rfl⟩ := mn_i2_inv hs
    exact lv_iushr hx hb hd rfl (kk H locs lsA S)
  | idiv =>
    dsimp only [mn_op] at hs
    replace hs := mn_ifn hs; obtain ⟨hlen, hs⟩ := hs; subst hlen
    split at hs
    · next y x st0 =>
      by_cases hy : y = 0
      · rw [if_pos hy] at hs; cases hs
      · rw [if_neg hy] at hs
        obtain ⟨rfl, rfl, rfl, rfl⟩ := mn_go_inj hs
        exact lv_idiv hx hb hd hy (kk H locs lsA S)
    · cases hs
  | irem =>
    dsimp only [mn_op] at hs
    replace hs := mn_ifn hs; obtain ⟨hlen, hs⟩ := hs; subst hlen
    split at hs
    · next y x st0 =>
      by_cases hy : y = 0
      · rw [if_pos hy] at hs; cases hs
      · rw [if_neg hy] at hs
        obtain ⟨rfl, rfl, rfl, rfl⟩ := mn_go_inj hs
        exact lv_irem hx hb hd hy (kk H locs lsA S)
    · cases hs
  | ineg =>
    dsimp only [mn_op] at hs
    replace hs := mn_ifn hs; obtain ⟨hlen, hs⟩ := hs; subst hlen
    obtain ⟨x, st0, rfl, rfl, rfl, rfl, rfl⟩ := mn_i1_inv hs
    exact lv_ineg hx hb hd (kk H locs lsA S)
  | i2b =>
    dsimp only [mn_op] at hs
    replace hs := mn_ifn hs; obtain ⟨hlen, hs⟩ := hs; subst hlen
    obtain ⟨x, st0, rfl, rfl, rfl, rfl, rfl⟩ := mn_i1_inv hs
    exact lv_i2b hx hb hd rfl (kk H locs lsA S)
  | i2c =>
    dsimp only [mn_op] at hs
    replace hs := mn_ifn hs; obtain ⟨hlen, hs⟩ := hs; subst hlen
    obtain ⟨x, st0, rfl, rfl, rfl, rfl, rfl⟩ := mn_i1_inv hs
    exact lv_i2c hx hb hd rfl (kk H locs lsA S)
  | i2l =>
    dsimp only [mn_op] at hs
    replace hs := mn_ifn hs; obtain ⟨hlen, hs⟩ := hs; subst hlen
    split at hs
    · obtain ⟨rfl, rfl, rfl, rfl⟩ := mn_go_inj hs
      exact lv_i2l hx hb hd rfl (kk H locs lsA S)
    · cases hs
  | l2i =>
    dsimp only [mn_op] at hs
    replace hs := mn_ifn hs; obtain ⟨hlen, hs⟩ := hs; subst hlen
    split at hs
    · obtain ⟨rfl, rfl, rfl, rfl⟩ := mn_go_inj hs
      exact lv_l2i hx hb hd rfl (kk H locs lsA S)
    · cases hs
  | ladd =>
    dsimp only [mn_op] at hs
    replace hs := mn_ifn hs; obtain ⟨hlen, hs⟩ := hs; subst hlen
    obtain ⟨x, y, st0, rfl, rfl, rfl, rfl, rfl⟩ := mn_l2_inv hs
    exact lv_ladd hx hb hd (kk H locs lsA S)
  | lsub =>
    dsimp only [mn_op] at hs
    replace hs := mn_ifn hs; obtain ⟨hlen, hs⟩ := hs; subst hlen
    obtain ⟨x, y, st0, rfl, rfl, rfl, rfl, rfl⟩ := mn_l2_inv hs
    exact lv_lsub hx hb hd (kk H locs lsA S)
  | lmul =>
    dsimp only [mn_op] at hs
    replace hs := mn_ifn hs; obtain ⟨hlen, hs⟩ := hs; subst hlen
    obtain ⟨x, y, st0, rfl, rfl, rfl, rfl, rfl⟩ := mn_l2_inv hs
    exact lv_lmul hx hb hd (kk H locs lsA S)
  | land =>
    dsimp only [mn_op] at hs
    replace hs := mn_ifn hs; obtain ⟨hlen, hs⟩ := hs; subst hlen
    obtain ⟨x, y, st0, rfl, rfl, rfl, rfl, rfl⟩ := mn_l2_inv hs
    exact lv_land hx hb hd (kk H locs lsA S)
  | lor =>
    dsimp only [mn_op] at hs
    replace hs := mn_ifn hs; obtain ⟨hlen, hs⟩ := hs; subst hlen
    obtain ⟨x, y, st0, rfl, rfl, rfl, rfl, rfl⟩ := mn_l2_inv hs
    exact lv_lor hx hb hd (kk H locs lsA S)
  | lxor =>
    dsimp only [mn_op] at hs
    replace hs := mn_ifn hs; obtain ⟨hlen, hs⟩ := hs; subst hlen
    obtain ⟨x, y, st0, rfl, rfl, rfl, rfl, rfl⟩ := mn_l2_inv hs
    exact lv_lxor hx hb hd (kk H locs lsA S)
  | lshl =>
    dsimp only [mn_op] at hs
    replace hs := mn_ifn hs; obtain ⟨hlen, hs⟩ := hs; subst hlen
    obtain ⟨x, y, st0, rfl, rfl, rfl, rfl, rfl⟩ := mn_ls2_inv hs
    exact lv_lshl hx hb hd rfl (kk H locs lsA S)
  | lushr =>
    dsimp only [mn_op] at hs
    replace hs := mn_ifn hs; obtain ⟨hlen, hs⟩ := hs; subst hlen
    obtain ⟨x, y, st0, rfl, rfl, rfl, rfl, rfl⟩ := mn_ls2_inv hs
    exact lv_lushr hx hb hd rfl (kk H locs lsA S)
  | lcmp =>
    dsimp only [mn_op] at hs
    replace hs := mn_ifn hs; obtain ⟨hlen, hs⟩ := hs; subst hlen
    split at hs
    · obtain ⟨rfl, rfl, rfl, rfl⟩ := mn_go_inj hs
      exact W.lcmp hx hb hd (kk H locs lsA S)
    · cases hs
  | dup =>
    dsimp only [mn_op] at hs
    replace hs := mn_ifn hs; obtain ⟨hlen, hs⟩ := hs; subst hlen
    split at hs
    · next v st0 =>
      replace hs := mn_ifn hs; obtain ⟨hc, hs⟩ := hs
      obtain ⟨rfl, rfl, rfl, rfl⟩ := mn_go_inj hs
      exact lv_dup hx hb hd (by rw [mn_cv_cat]; exact hc) (kk H locs lsA S)
    · cases hs
  | dup2 =>
    dsimp only [mn_op] at hs
    replace hs := mn_ifn hs; obtain ⟨hlen, hs⟩ := hs; subst hlen
    split at hs
    · next v w st0 =>
      replace hs := mn_ifn hs; obtain ⟨⟨hc1, hc2⟩, hs⟩ := hs
      obtain ⟨rfl, rfl, rfl, rfl⟩ := mn_go_inj hs
      exact lv_dup2_11 hx hb hd (by rw [mn_cv_cat]; exact hc1) (by rw [mn_cv_cat]; exact hc2) (kk H locs lsA S)
    · cases hs
  | ifCond cd off =>
    dsimp only [mn_op] at hs
    replace hs := mn_ifn hs; obtain ⟨hlen, hs⟩ := hs; subst hlen
    exact mn_s_if C S hd hs kk
  | if_icmp cd off =>
    dsimp only [mn_op] at hs
    replace hs := mn_ifn hs; obtain ⟨hlen, hs⟩ := hs; subst hlen
    exact mn_s_icmp C S hd hs kk
  | goto off =>
    dsimp only [mn_op] at hs
    replace hs := mn_ifn hs; obtain ⟨hlen, hs⟩ := hs; subst hlen
    obtain ⟨ht, rfl, rfl, rfl⟩ := mn_jmp_inv hs
    exact lv_goto hx hb hd ht (kk H locs lsA S)
  | tableswitch d lo2 hi offs =>
    dsimp only [mn_op] at hs
    split at hs
    · next x st0 =>
      replace hs := mn_ifn hs; obtain ⟨⟨hz, hn⟩, hs⟩ := hs
      obtain ⟨rfl, rfl, rfl, rfl⟩ := mn_go_inj hs
      have K := kk H locs lsA S
      have ht : mn_tsw pc d lo2 hi offs x = (((mn_tsw pc d lo2 hi offs x).toNat : Nat) : Int) := by omega
      generalize (mn_tsw pc d lo2 hi offs x).toNat = tgt at ht K
      unfold mn_tsw at ht
      by_cases ho : x.toInt < lo2 ∨ hi < x.toInt
      · rw [if_pos ho] at ht
        exact lv_tableOut hx hb hd ho ht K
      · rw [if_neg ho] at ht
        have hi2 : (x.toInt - lo2).toNat < offs.size := by omega
        refine lv_tableIn hx hb hd (fun q => ho (Or.inl q)) (fun q => ho (Or.inr q)) (Array.getElem?_eq_getElem hi2) ?_ K
        rw [← ht]; simp [Array.getD, hi2]
    · cases hs
  | getfield i =>
    dsimp only [mn_op] at hs
    replace hs := mn_ifn hs; obtain ⟨hlen, hs⟩ := hs; subst hlen
    exact mn_s_getfield C S hd hs kk
  | putfield i =>
    dsimp only [mn_op] at hs
    replace hs := mn_ifn hs; obtain ⟨hlen, hs⟩ := hs; subst hlen
    exact mn_s_putfield C S hd hs kk
  | getstatic i =>
    dsimp only [mn_op] at hs
    replace hs := mn_ifn hs; obtain ⟨hlen, hs⟩ := hs; subst hlen
    have hown := C.2.2.2.2.1
    have hts := C.2.2.2.2.2.1
    have hC := C.2.2.2.2.2.2.2.2.1
    have hS := S.2.2.1
    by_cases hz : mO M = 7 ∧ i = 330
    · rw [if_pos hz] at hs
      obtain ⟨rfl, rfl, rfl, rfl⟩ := mn_go_inj hs
      have ho : mn_cn (mO M) = "TomorrowBells" := by rw [hz.1]; rfl
      rw [ho] at hown
      rw [hz.2] at hd
      exact va_gets hx hb hC.1 hS hown (hts _ (mn_wt mn_Gr (List.mem_of_getElem? (i := 0) rfl))) (fun _ q => q) hd (kk H locs lsA S)
    · rw [if_neg hz] at hs
      replace hs := mn_ifn hs; obtain ⟨hz, hs⟩ := hs
      obtain ⟨rfl, rfl, rfl, rfl⟩ := mn_go_inj hs
      have ho : mn_cn (mO M) = "java/lang/String" := by rw [hz.1]; rfl
      rw [ho] at hown
      rw [hz.2] at hd
      exact va_gets hx hb hC.2.2.1 hS hown (hts _ (mn_wt mn_Gr (List.mem_of_getElem? (i := 1) rfl))) (fun _ q => q) hd (kk H locs lsA S)
  | iaload =>
    dsimp only [mn_op] at hs
    replace hs := mn_ifn hs; obtain ⟨hlen, hs⟩ := hs; subst hlen
    exact mn_s_iald C S hd hs kk
  | baload =>
    dsimp only [mn_op] at hs
    replace hs := mn_ifn hs; obtain ⟨hlen, hs⟩ := hs; subst hlen
    exact mn_s_bald C S hd hs kk
  | laload =>
    dsimp only [mn_op] at hs
    replace hs := mn_ifn hs; obtain ⟨hlen, hs⟩ := hs; subst hlen
    exact mn_s_lald C S hd hs kk
  | aaload =>
    dsimp only [mn_op] at hs
    replace hs := mn_ifn hs; obtain ⟨hlen, hs⟩ := hs; subst hlen
    exact mn_s_aald C S hd hs kk
  | iastore =>
    dsimp only [mn_op] at hs
    replace hs := mn_ifn hs; obtain ⟨hlen, hs⟩ := hs; subst hlen
    exact mn_s_iast C S hd hs kk
  | bastore =>
    dsimp only [mn_op] at hs
    replace hs := mn_ifn hs; obtain ⟨hlen, hs⟩ := hs; subst hlen
    exact mn_s_bast C S hd hs kk
  | arraylength =>
    dsimp only [mn_op] at hs
    replace hs := mn_ifn hs; obtain ⟨hlen, hs⟩ := hs; subst hlen
    exact mn_s_alen C S hd hs kk
  | invokestatic i =>
    dsimp only [mn_op] at hs
    replace hs := mn_ifn hs; obtain ⟨hlen, hs⟩ := hs; subst hlen
    unfold mn_stat at hs
    split at hs
    · exact absurd hs (fun q => mn_csta_no q)
    · split at hs
      · exact absurd hs (fun q => mn_csta_no q)
      · split at hs
        · next k hk => exact mn_s_math C S hd hk hs kk
        · replace hs := mn_ifn hs; obtain ⟨hz, hs⟩ := hs
          exact mn_s_acpy C S hd hz hs kk
  | invokevirtual i =>
    dsimp only [mn_op] at hs
    replace hs := mn_ifn hs; obtain ⟨hlen, hs⟩ := hs; subst hlen
    exact absurd hs (fun q => mn_virt_no q)
  | ireturn =>
    dsimp only [mn_op] at hs
    replace hs := mn_ifn hs; obtain ⟨hlen, hs⟩ := hs; subst hlen
    split at hs
    · replace hs := mn_ifn hs; obtain ⟨-, hs⟩ := hs
      cases hs
    · cases hs
  | lreturn =>
    dsimp only [mn_op] at hs
    replace hs := mn_ifn hs; obtain ⟨hlen, hs⟩ := hs; subst hlen
    split at hs
    · replace hs := mn_ifn hs; obtain ⟨-, hs⟩ := hs
      cases hs
    · cases hs
  | return_ =>
    dsimp only [mn_op] at hs
    replace hs := mn_ifn hs; obtain ⟨hlen, hs⟩ := hs; subst hlen
    split at hs
    · replace hs := mn_ifn hs; obtain ⟨-, hs⟩ := hs
      cases hs
    · cases hs
  | _ => cases hs
end MNS
