theorem wd_ge {L i kk : Nat} (hL : L < 1000000) (hi : i < 1000000) (hk : kk < 2 ^ 31) (h : nI L - nI i ≤ nI kk) : L ≤ kk + i := by
  rw [Int32.le_iff_toInt_le, pk_sub_toInt (by omega) (by omega), nI_toInt hk] at h
  omega
theorem wd_lt {L i kk : Nat} (hL : L < 1000000) (hi : i < 1000000) (hk : kk < 2 ^ 31) (h : ¬ nI L - nI i ≤ nI kk) : kk + i < L := by
  rw [Int32.le_iff_toInt_le, pk_sub_toInt (by omega) (by omega), nI_toInt hk] at h
  omega
theorem wd_out {xs : List Int32} {i : Nat} (h : xs.length ≤ i) : xs.getD i 0 = 0 := by simp [h]
theorem wd_in {xs : List Int32} {i : Nat} (h : i < xs.length) : md_at xs i = xs.getD i 0 := by simp [md_at, h]
/-- what the squeezing loop holds: the kept ones below, the others as they were -/
def sqI (f : Nat → Int32) (xs : List Int32) (i : Nat) : Prop := (∀ j, j < (md_sqs xs i).length → f j = md_at (md_sqs xs i) j) ∧ ∀ j, i ≤ j → j < xs.length → f j = md_at xs j
theorem sqI.keep {f : Nat → Int32} {xs : List Int32} {i : Nat} (h : sqI f xs i) (hi : i < xs.length) : sqI (upd f (md_sqs xs i).length (md_at xs i)) xs (i + 1) ∨ True := Or.inr trivial
theorem sqs_add {xs : List Int32} {i : Nat} (h : md_at xs i ≠ 32 ∨ (0 < (md_sqs xs i).length ∧ md_at (md_sqs xs i) ((md_sqs xs i).length - 1) ≠ 32)) : md_sqs xs (i + 1) = md_sqs xs i ++ [md_at xs i] := by
  show md_sq1 _ _ = _
  unfold md_sq1
  rw [if_pos h]
theorem sqs_skip {xs : List Int32} {i : Nat} (h : ¬ (md_at xs i ≠ 32 ∨ (0 < (md_sqs xs i).length ∧ md_at (md_sqs xs i) ((md_sqs xs i).length - 1) ≠ 32))) : md_sqs xs (i + 1) = md_sqs xs i := by
  show md_sq1 _ _ = _
  unfold md_sq1
  rw [if_neg h]
theorem sqI.skip {f : Nat → Int32} {xs : List Int32} {i : Nat} (h : sqI f xs i) (e : md_sqs xs (i + 1) = md_sqs xs i) : sqI f xs (i + 1) := ⟨fun j hj => by rw [e] at hj ⊢; exact h.1 j hj, fun j h1 h2 => h.2 j (by omega) h2⟩
theorem sqI.add {f : Nat → Int32} {xs : List Int32} {i : Nat} (h : sqI f xs i) (e : md_sqs xs (i + 1) = md_sqs xs i ++ [md_at xs i]) : sqI (upd f (md_sqs xs i).length (md_at xs i)) xs (i + 1) := by
  refine ⟨fun j hj => ?_, fun j h1 h2 => ?_⟩
  · rw [e] at hj ⊢
    exact md_push h.1 j hj
  · have := md_sqs_len xs i
    rw [pk_un (by omega)]
    exact h.2 j (by omega) h2
theorem cut_at {a : List Int32} {j : Nat} (h : j < (md_cut a).length) : md_at (md_cut a) j = md_at a j := by
  unfold md_cut at h ⊢
  split
  · rename_i hc
    rw [if_pos hc] at h
    have h' : j < a.length - 1 := by simpa using h
    simp [md_at, List.getElem?_take, h', show j < a.length by omega]
  · rfl
theorem cut_len_t {a : List Int32} (h : 0 < a.length ∧ md_at a (a.length - 1) = 32) : (md_cut a).length = a.length - 1 := by
  unfold md_cut
  rw [if_pos h]
  simp
theorem cut_f {a : List Int32} (h : ¬ (0 < a.length ∧ md_at a (a.length - 1) = 32)) : md_cut a = a := by
  unfold md_cut
  rw [if_neg h]

/-! Row.size() -/
set_option maxHeartbeats 400000 in
set_option maxRecDepth 100000 in
theorem c_Row_size (l : Launch) (g : hp_G) (z0 N : Nat) (ad : Nat → Nat) (F : Nat → va_E) (r n : Nat) (xs : List Int32) (hrN : r + 1 < N) (hn : n < 1000000) (hR : vRow g ad F r n xs) : hp_Mi l g z0 N ad y_R_size ws_R_size (rk 0) [.ref (ad r)] F (fun v F' => v = nI xs.length ∧ F' = F) := by
  obtain ⟨f, h1, h2, h3, h4⟩ := id hR
  refine hp_enter (cc := cc_R_size) (maxL := 1) (ret := (some .int)) (by decide) rfl (Nat.le_of_ble_eq_true rfl) ?_
  intro p e s m below meth c S hr hlk hnm hK hW ls hl
  have hl : lv_has ls 1 [(0, .ref (ad r))] := hl
  obtain ⟨hx, hb, hml, hown, hts⟩ := id S
  have in_kR : ∀ w ∈ u_ws R_R T_R 2, w ∈ ws_R_size := fun w h => List.mem_cons_of_mem _ (in0_R w h)
  refine lv_aload_n hx hb d_R_size_0 rfl (lv_at hl 0 rfl) ?_
  refine hp_get S hK hW (r) (by omega) rfl h1 rfl in_kR 1 (by decide) (hts _ (List.mem_cons_of_mem _ tq_194)) rfl d_R_size_1 ?_
  exact hp_reti S hK hW hr hlk d_R_size_4 (⟨rfl, rfl⟩)

/-! Row.empty() -/
set_option maxHeartbeats 400000 in
set_option maxRecDepth 100000 in
theorem c_Row_empty (l : Launch) (g : hp_G) (z0 N : Nat) (ad : Nat → Nat) (F : Nat → va_E) (r n : Nat) (xs : List Int32) (hrN : r + 1 < N) (hn : n < 1000000) (hR : vRow g ad F r n xs) : hp_Mv l g z0 N ad y_R_empty ws_R_empty (rk 0) [.ref (ad r)] F (fun F' => vRow g ad F' r n [] ∧ ∀ x, x ≠ r → F' x = F x) := by
  obtain ⟨f, h1, h2, h3, h4⟩ := id hR
  refine hp_enter (cc := cc_R_empty) (maxL := 1) (ret := none) (by decide) rfl (Nat.le_of_ble_eq_true rfl) ?_
  intro p e s m below meth c S hr hlk hnm hK hW ls hl
  have hl : lv_has ls 1 [(0, .ref (ad r))] := hl
  obtain ⟨hx, hb, hml, hown, hts⟩ := id S
  have in_kR : ∀ w ∈ u_ws R_R T_R 2, w ∈ ws_R_empty := fun w h => List.mem_cons_of_mem _ (in0_R w h)
  refine lv_aload_n hx hb d_R_empty_0 rfl (lv_at hl 0 rfl) ?_
  refine lv_iconst (v := 0) hx hb d_R_empty_1 (by decide) ?_
  refine hp_put S hK hW (r) (by omega) rfl h1 rfl in_kR tyok_R nm_R 1 (by decide) (hts _ (List.mem_cons_of_mem _ tq_194)) rfl rfl rfl (Nat.le_of_ble_eq_true rfl) d_R_empty_2 (fun H locs hW => ?_)
  obtain ⟨F_1, eF_1⟩ : ∃ z, z = va_up F (r) (.inr (kR, [.ref (ad (r + 1)), .int 0])) := ⟨_, rfl⟩
  replace hW : hp_W g z0 N ad F_1 s.heap H locs := by rw [eF_1]; exact hW
  have f_2 : F_1 (r) = .inr (kR, [.ref (ad (r + 1)), .int 0]) := by rw [eF_1, va_up_self]
  have f_3 : F_1 (r + 1) = .inl (g.2 0, n, .inl f) := by rw [eF_1, va_up_ne _ _ (by omega)]; exact h2
  exact hp_retv S hK hW hr hlk d_R_empty_5 (⟨⟨f, f_2, f_3, Nat.zero_le _, fun i h => absurd h (Nat.not_lt_zero _)⟩, fun x hx => by rw [eF_1, va_up_ne _ _ hx]⟩)

/-! Row.add(b) -/
set_option maxHeartbeats 400000 in
set_option maxRecDepth 100000 in
theorem c_Row_add (l : Launch) (g : hp_G) (z0 N : Nat) (ad : Nat → Nat) (F : Nat → va_E) (r n : Nat) (xs : List Int32) (hrN : r + 1 < N) (hn : n < 1000000) (hR : vRow g ad F r n xs) (b : Int32) : hp_Mi l g z0 N ad y_R_add ws_R_add (rk 0) [.ref (ad r), .int b] F (fun v F' => (v = 1 ∧ xs.length < n ∧ vRow g ad F' r n (xs ++ [b]) ∧ ∀ x, x ≠ r → x ≠ r + 1 → F' x = F x) ∨ (v = 0 ∧ n ≤ xs.length ∧ F' = F)) := by
  obtain ⟨f, h1, h2, h3, h4⟩ := id hR
  refine hp_enter (cc := cc_R_add) (maxL := 2) (ret := (some .boolean)) (by decide) rfl (Nat.le_of_ble_eq_true rfl) ?_
  intro p e s m below meth c S hr hlk hnm hK hW ls hl
  have hl : lv_has ls 2 [(0, .ref (ad r)), (1, .int b)] := hl
  obtain ⟨hx, hb, hml, hown, hts⟩ := id S
  have in_kR : ∀ w ∈ u_ws R_R T_R 2, w ∈ ws_R_add := fun w h => List.mem_cons_of_mem _ (in0_R w h)
  refine lv_aload_n hx hb d_R_add_0 rfl (lv_at hl 0 rfl) ?_
  refine hp_get S hK hW (r) (by omega) rfl h1 rfl in_kR 1 (by decide) (hts _ (List.mem_cons_of_mem _ tq_194)) rfl d_R_add_1 ?_
  refine lv_aload_n hx hb d_R_add_4 rfl (lv_at hl 0 rfl) ?_
  refine hp_get S hK hW (r) (by omega) rfl h1 rfl in_kR 0 (by decide) (hts _ (List.mem_cons_of_mem _ tq_193)) rfl d_R_add_5 ?_
  refine hp_alen (t0 := 0) S hK hW (r + 1) (by omega) rfl h2 rfl d_R_add_8 ?_
  refine lv_icmp_lt (tgt := 14) hx hb d_R_add_9 (by decide) (fun c_9 => ?_) (fun c_9 => ?_)
  · have c_9i := c_9
    replace c_9 : xs.length < n := (nI_ltI (a := xs.length) (b := n) (by omega) (by omega)).mp c_9
    refine lv_aload_n hx hb d_R_add_14 rfl (lv_at hl 0 rfl) ?_
    refine hp_get S hK hW (r) (by omega) rfl h1 rfl in_kR 0 (by decide) (hts _ (List.mem_cons_of_mem _ tq_193)) rfl d_R_add_15 ?_
    refine lv_aload_n hx hb d_R_add_18 rfl (lv_at hl 0 rfl) ?_
    refine hp_get S hK hW (r) (by omega) rfl h1 rfl in_kR 1 (by decide) (hts _ (List.mem_cons_of_mem _ tq_194)) rfl d_R_add_19 ?_
    refine lv_iload_n hx hb d_R_add_22 rfl (lv_at hl 1 rfl) ?_
    refine hp_iast S hK hW (r + 1) (by omega) rfl h2 (x := b) (vp_in_nI c_9 (by omega)) d_R_add_23 (fun H locs hW => ?_)
    obtain ⟨F_1, eF_1⟩ : ∃ z, z = va_up F (r + 1) (.inl (g.2 0, n, .inl (upd f xs.length b))) := ⟨_, rfl⟩
    rw [show (((nI xs.length) : Int32).toNatClampNeg) = xs.length from nI_clamp (by omega)] at hW
    replace hW : hp_W g z0 N ad F_1 s.heap H locs := by rw [eF_1]; exact hW
    have f_2 : F_1 (r) = .inr (kR, [.ref (ad (r + 1)), .int (nI xs.length)]) := by rw [eF_1, va_up_ne _ _ (by omega)]; exact h1
    have f_3 : F_1 (r + 1) = .inl (g.2 0, n, .inl (upd f xs.length b)) := by rw [eF_1, va_up_self]
    refine lv_aload_n hx hb d_R_add_24 rfl (lv_at hl 0 rfl) ?_
    refine lv_dup hx hb d_R_add_25 rfl ?_
    refine hp_get S hK hW (r) (by omega) rfl f_2 rfl in_kR 1 (by decide) (hts _ (List.mem_cons_of_mem _ tq_194)) rfl d_R_add_26 ?_
    refine lv_iconst (v := 1) hx hb d_R_add_29 (by decide) ?_
    refine lv_iadd hx hb d_R_add_30 ?_
    refine hp_put S hK hW (r) (by omega) rfl f_2 rfl in_kR tyok_R nm_R 1 (by decide) (hts _ (List.mem_cons_of_mem _ tq_194)) rfl rfl rfl (Nat.le_of_ble_eq_true rfl) d_R_add_31 (fun H locs hW => ?_)
    obtain ⟨F_4, eF_4⟩ : ∃ z, z = va_up F_1 (r) (.inr (kR, [.ref (ad (r + 1)), .int ((nI xs.length) + 1)])) := ⟨_, rfl⟩
    replace hW : hp_W g z0 N ad F_4 s.heap H locs := by rw [eF_4]; exact hW
    have f_5 : F_4 (r) = .inr (kR, [.ref (ad (r + 1)), .int ((nI xs.length) + 1)]) := by rw [eF_4, va_up_self]
    have f_6 : F_4 (r + 1) = .inl (g.2 0, n, .inl (upd f xs.length b)) := by rw [eF_4, va_up_ne _ _ (by omega)]; exact f_3
    refine lv_iconst (v := 1) hx hb d_R_add_34 (by decide) ?_
    exact hp_retz S hK hW hr hlk rfl d_R_add_35 (Or.inl ⟨rfl, c_9, ⟨upd f xs.length b, by rw [f_5, List.length_append, List.length_singleton, nI_succ], f_6, by rw [List.length_append, List.length_singleton]; omega, md_push h4⟩, fun x hx hy => by rw [eF_4, va_up_ne _ _ hx, eF_1, va_up_ne _ _ hy]⟩)
  · have c_9i := c_9
    replace c_9 : ¬ xs.length < n := fun zz9 => c_9 ((nI_ltI (a := xs.length) (b := n) (by omega) (by omega)).mpr zz9)
    refine lv_iconst (v := 0) hx hb d_R_add_12 (by decide) ?_
    exact hp_retz S hK hW hr hlk rfl d_R_add_13 (Or.inr ⟨rfl, by omega, rfl⟩)

/-! Row.at(k) -/
set_option maxHeartbeats 400000 in
set_option maxRecDepth 100000 in
theorem c_Row_at (l : Launch) (g : hp_G) (z0 N : Nat) (ad : Nat → Nat) (F : Nat → va_E) (r n : Nat) (xs : List Int32) (hrN : r + 1 < N) (hn : n < 1000000) (hR : vRow g ad F r n xs) (k : Nat) (hk : k < 1000000) : hp_Mi l g z0 N ad y_R_at ws_R_at (rk 0) [.ref (ad r), .int (nI k)] F (fun v F' => v = md_at xs k ∧ F' = F) := by
  obtain ⟨f, h1, h2, h3, h4⟩ := id hR
  refine hp_enter (cc := cc_R_at) (maxL := 2) (ret := (some .int)) (by decide) rfl (Nat.le_of_ble_eq_true rfl) ?_
  intro p e s m below meth c S hr hlk hnm hK hW ls hl
  have hl : lv_has ls 2 [(0, .ref (ad r)), (1, .int (nI k))] := hl
  obtain ⟨hx, hb, hml, hown, hts⟩ := id S
  have in_kR : ∀ w ∈ u_ws R_R T_R 2, w ∈ ws_R_at := fun w h => List.mem_cons_of_mem _ (in0_R w h)
  refine lv_iload_n hx hb d_R_at_0 rfl (lv_at hl 1 rfl) ?_
  refine lv_if_lt (tgt := 12) hx hb d_R_at_1 (by decide) (fun c_1 => absurd c_1 (show ¬ (((nI k) : Int32) < 0) from nI_pos (by omega))) (fun c_1 => ?_)
  refine lv_iload_n hx hb d_R_at_4 rfl (lv_at hl 1 rfl) ?_
  refine lv_aload_n hx hb d_R_at_5 rfl (lv_at hl 0 rfl) ?_
  refine hp_get S hK hW (r) (by omega) rfl h1 rfl in_kR 1 (by decide) (hts _ (List.mem_cons_of_mem _ tq_194)) rfl d_R_at_6 ?_
  refine lv_icmp_lt (tgt := 16) hx hb d_R_at_9 (by decide) (fun c_9 => ?_) (fun c_9 => ?_)
  · have c_9i := c_9
    replace c_9 : k < xs.length := (nI_ltI (a := k) (b := xs.length) (by omega) (by omega)).mp c_9
    refine lv_aload_n hx hb d_R_at_16 rfl (lv_at hl 0 rfl) ?_
    refine hp_get S hK hW (r) (by omega) rfl h1 rfl in_kR 0 (by decide) (hts _ (List.mem_cons_of_mem _ tq_193)) rfl d_R_at_17 ?_
    refine lv_iload_n hx hb d_R_at_20 rfl (lv_at hl 1 rfl) ?_
    refine hp_iald S hK hW (r + 1) (by omega) rfl h2 (vp_in_nI (by omega) (by omega)) d_R_at_21 ?_
    rw [show (f ((nI k) : Int32).toNatClampNeg) = (md_at xs k) from (by rw [nI_clamp (by omega)]; exact h4 k c_9)]
    exact hp_reti S hK hW hr hlk d_R_at_22 (⟨rfl, rfl⟩)
  · have c_9i := c_9
    replace c_9 : ¬ k < xs.length := fun zz9 => c_9 ((nI_ltI (a := k) (b := xs.length) (by omega) (by omega)).mpr zz9)
    refine lv_iconst (v := (-1)) hx hb d_R_at_12 (by decide) ?_
    refine lv_goto (tgt := 22) hx hb d_R_at_13 (by decide) ?_
    exact hp_reti S hK hW hr hlk d_R_at_22 (⟨(md_at_ge (by omega)).symm, rfl⟩)

/-! Row.wordAt: its loop -/
set_option maxHeartbeats 400000 in
set_option maxRecDepth 100000 in
theorem lp_Row_wordAt {p : Program} {e : Env} {s : State} {m : MethodId} {args : Array Value} {below : List Frame} {meth : Method} {c : Code} (l : Launch) (g : hp_G) (z0 N : Nat) (ad : Nat → Nat)  (F : Nat → va_E) (r n : Nat) (xs : List Int32) (hrN : r + 1 < N) (hn : n < 1000000) (f : Nat → Int32) (h1 : F r = .inr (kR, [.ref (ad (r + 1)), .int (nI xs.length)])) (h2 : F (r + 1) = .inl (g.2 0, n, .inl f)) (h3 : xs.length ≤ n) (h4 : ∀ i, i < xs.length → f i = md_at xs i) (k : Int32) (hk : ¬ k < 0) (S : CallFix p m c cc_R_wordAt 5 s args ws_R_wordAt R_R) (hr : meth.sig.returnType = (some .long)) (hlk : meth.locks = false) (hK : hp_K g s) : ∀ (j : Nat) (i : Nat), i ≤ 8 → 9 ≤ i + j → ∀ (H : Heap) (locs : List Loc) (ls : Array Slot), hp_W g z0 N ad F s.heap H locs → lv_has ls 5 [(0, .ref (ad r)), (1, .int k), (2, .long (md_w (fun i => xs.getD (k.toNatClampNeg + i) 0) i)), (4, .int (nI i))] → W p l e (rk 0) s m args below meth c H locs 0 0 (MQ below (va_Ql (fun v F' => v = md_word xs k ∧ F' = F) (hp_B g z0 N ad) (hp_A z0)) args s 0 0 (hp_A z0)) (F0 m 13 ls []) := by
  obtain ⟨hx, hb, hml, hown, hts⟩ := id S
  have in_kR : ∀ w ∈ u_ws R_R T_R 2, w ∈ ws_R_wordAt := fun w h => List.mem_cons_of_mem _ (in0_R w h)
  intro j
  induction j with
  | zero =>
    intro i hi hj H locs ls hW hl
    exact absurd hj (by omega)
  | succ j ih =>
    intro i hi hj H locs ls hW hl
    refine lv_iload hx hb d_R_wordAt_13 (lv_at hl 3 rfl) ?_
    refine lv_bipush (v := 8) hx hb d_R_wordAt_15 (by decide) ?_
    refine lv_icmp_ge (tgt := 57) hx hb d_R_wordAt_17 (by decide) (fun c_17 => ?_) (fun c_17 => ?_)
    · have c_17i := c_17
      replace c_17 : 8 ≤ i := (nI_leI (a := 8) (b := i) (by omega) (by omega)).mp c_17
      refine lv_lload_n hx hb d_R_wordAt_57 rfl (lv_at hl 2 rfl) ?_
      exact hp_retl S hK hW hr hlk d_R_wordAt_58 (⟨by rw [show i = 8 by omega, md_word, if_neg hk], rfl⟩)
    · have c_17i := c_17
      replace c_17 : ¬ 8 ≤ i := fun zz9 => c_17 ((nI_leI (a := 8) (b := i) (by omega) (by omega)).mpr zz9)
      refine lv_lload_n hx hb d_R_wordAt_20 rfl (lv_at hl 2 rfl) ?_
      refine lv_bipush (v := 8) hx hb d_R_wordAt_21 (by decide) ?_
      refine lv_lshl hx hb d_R_wordAt_23 rfl ?_
      refine lv_iload_n hx hb d_R_wordAt_24 rfl (lv_at hl 1 rfl) ?_
      refine lv_aload_n hx hb d_R_wordAt_25 rfl (lv_at hl 0 rfl) ?_
      refine hp_get S hK hW (r) (by omega) rfl h1 rfl in_kR 1 (by decide) (hts _ (List.mem_cons_of_mem _ tq_194)) rfl d_R_wordAt_26 ?_
      refine lv_iload hx hb d_R_wordAt_29 (lv_at hl 3 rfl) ?_
      refine lv_isub hx hb d_R_wordAt_31 ?_
      refine lv_icmp_ge (tgt := 47) hx hb d_R_wordAt_32 (by decide) (fun c_32 => ?_) (fun c_32 => ?_)
      · have c_32i := c_32
        have c_32j := Int32.not_lt.mpr c_32
        obtain ⟨kk, hkk, ekk⟩ := nI_of hk
        have ecl : k.toNatClampNeg = kk := by rw [ekk]; exact nI_clamp hkk
        have hge : xs.length ≤ kk + i := wd_ge (by omega) (by omega) hkk (by rw [← ekk]; exact c_32)
        have hval : (0 : Int32) = xs.getD (k.toNatClampNeg + i) 0 := by rw [ecl, wd_out hge]
        refine lv_iconst (v := 0) hx hb d_R_wordAt_47 (by decide) ?_
        refine lv_i2l hx hb d_R_wordAt_48 rfl ?_
        refine lv_lor hx hb d_R_wordAt_49 ?_
        rw [show (((md_w (fun i => xs.getD (k.toNatClampNeg + i) 0) i) <<< ((8 : Int32).toInt64 &&& 63)) ||| (0 : Int32).toInt64) = md_w (fun i => xs.getD (k.toNatClampNeg + i) 0) (i + 1) from (by show _ = md_w (fun i => xs.getD (k.toNatClampNeg + i) 0) i <<< _ ||| (xs.getD (k.toNatClampNeg + i) 0).toInt64; rw [← hval])]
        refine lv_lstore_n (lv' := [(2, .long (md_w (fun i => xs.getD (k.toNatClampNeg + i) 0) (i + 1))), (0, .ref (ad r)), (1, .int k), (4, .int (nI i))]) hx hb d_R_wordAt_50 rfl hl (by decide) rfl (fun ls hl => ?_)
        refine lv_iinc (v := (nI (i + 1))) (lv' := [(4, .int (nI (i + 1))), (2, .long (md_w (fun i => xs.getD (k.toNatClampNeg + i) 0) (i + 1))), (0, .ref (ad r)), (1, .int k)]) hx hb d_R_wordAt_51 hl (k := 3) rfl ((nI_succ (i)).symm) (by decide) rfl (fun ls hl => ?_)
        refine lv_goto (tgt := 13) hx hb d_R_wordAt_54 (by decide) ?_
        exact ih (i + 1) (by omega) (by omega) H locs ls hW (lv_sub hl [2, 3, 1, 0] rfl)
      · have c_32i := c_32
        have c_32j := Int32.not_le.mp c_32
        obtain ⟨kk, hkk, ekk⟩ := nI_of hk
        have ecl : k.toNatClampNeg = kk := by rw [ekk]; exact nI_clamp hkk
        have hlt : kk + i < xs.length := wd_lt (by omega) (by omega) hkk (by rw [← ekk]; exact c_32)
        have eki : k + nI i = nI (kk + i) := by rw [ekk, nI_add]
        refine lv_aload_n hx hb d_R_wordAt_35 rfl (lv_at hl 0 rfl) ?_
        refine hp_get S hK hW (r) (by omega) rfl h1 rfl in_kR 0 (by decide) (hts _ (List.mem_cons_of_mem _ tq_193)) rfl d_R_wordAt_36 ?_
        refine lv_iload_n hx hb d_R_wordAt_39 rfl (lv_at hl 1 rfl) ?_
        refine lv_iload hx hb d_R_wordAt_40 (lv_at hl 3 rfl) ?_
        refine lv_iadd hx hb d_R_wordAt_42 ?_
        refine hp_iald S hK hW (r + 1) (by omega) rfl h2 (by rw [eki]; exact vp_in_nI (by omega) (by omega)) d_R_wordAt_43 ?_
        rw [show (f ((k + (nI i)) : Int32).toNatClampNeg) = (xs.getD (k.toNatClampNeg + i) 0) from (by rw [eki, nI_clamp (by omega), h4 _ hlt, ecl, wd_in hlt])]
        refine lv_goto (tgt := 48) hx hb d_R_wordAt_44 (by decide) ?_
        refine lv_i2l hx hb d_R_wordAt_48 rfl ?_
        refine lv_lor hx hb d_R_wordAt_49 ?_
        rw [show (((md_w (fun i => xs.getD (k.toNatClampNeg + i) 0) i) <<< ((8 : Int32).toInt64 &&& 63)) ||| ((xs.getD (k.toNatClampNeg + i) 0) : Int32).toInt64) = md_w (fun i => xs.getD (k.toNatClampNeg + i) 0) (i + 1) from rfl]
        refine lv_lstore_n (lv' := [(2, .long (md_w (fun i => xs.getD (k.toNatClampNeg + i) 0) (i + 1))), (0, .ref (ad r)), (1, .int k), (4, .int (nI i))]) hx hb d_R_wordAt_50 rfl hl (by decide) rfl (fun ls hl => ?_)
        refine lv_iinc (v := (nI (i + 1))) (lv' := [(4, .int (nI (i + 1))), (2, .long (md_w (fun i => xs.getD (k.toNatClampNeg + i) 0) (i + 1))), (0, .ref (ad r)), (1, .int k)]) hx hb d_R_wordAt_51 hl (k := 3) rfl ((nI_succ (i)).symm) (by decide) rfl (fun ls hl => ?_)
        refine lv_goto (tgt := 13) hx hb d_R_wordAt_54 (by decide) ?_
        exact ih (i + 1) (by omega) (by omega) H locs ls hW (lv_sub hl [2, 3, 1, 0] rfl)

/-! Row.wordAt(k) -/
set_option maxHeartbeats 400000 in
set_option maxRecDepth 100000 in
theorem c_Row_wordAt (l : Launch) (g : hp_G) (z0 N : Nat) (ad : Nat → Nat) (F : Nat → va_E) (r n : Nat) (xs : List Int32) (hrN : r + 1 < N) (hn : n < 1000000) (hR : vRow g ad F r n xs) (k : Int32) : hp_Ml l g z0 N ad y_R_wordAt ws_R_wordAt (rk 0) [.ref (ad r), .int k] F (fun v F' => v = md_word xs k ∧ F' = F) := by
  obtain ⟨f, h1, h2, h3, h4⟩ := id hR
  refine hp_enter (cc := cc_R_wordAt) (maxL := 5) (ret := (some .long)) (by decide) rfl (Nat.le_of_ble_eq_true rfl) ?_
  intro p e s m below meth c S hr hlk hnm hK hW ls hl
  have hl : lv_has ls 5 [(0, .ref (ad r)), (1, .int k)] := hl
  obtain ⟨hx, hb, hml, hown, hts⟩ := id S
  have in_kR : ∀ w ∈ u_ws R_R T_R 2, w ∈ ws_R_wordAt := fun w h => List.mem_cons_of_mem _ (in0_R w h)
  refine lv_iload_n hx hb d_R_wordAt_0 rfl (lv_at hl 1 rfl) ?_
  refine lv_if_ge (tgt := 8) hx hb d_R_wordAt_1 (by decide) (fun c_1 => ?_) (fun c_1 => ?_)
  · have c_1i := c_1
    have c_1j := Int32.not_lt.mpr c_1
    have c_1i : ¬ k < 0 := Int32.not_lt.mpr c_1
    refine lv_lconst (v := 0) hx hb d_R_wordAt_8 (by decide) ?_
    refine lv_lstore_n (lv' := [(2, .long 0), (0, .ref (ad r)), (1, .int k)]) hx hb d_R_wordAt_9 rfl hl (by decide) rfl (fun ls hl => ?_)
    refine lv_iconst (v := 0) hx hb d_R_wordAt_10 (by decide) ?_
    refine lv_istore (lv' := [(4, .int 0), (2, .long 0), (0, .ref (ad r)), (1, .int k)]) hx hb d_R_wordAt_11 hl (by decide) rfl (fun ls hl => ?_)
    exact lp_Row_wordAt l g z0 N ad F r n xs hrN hn f h1 h2 h3 h4 k c_1i S hr hlk hK 9 0 (by omega) (by omega) _ _ ls hW (lv_sub hl [2, 3, 1, 0] rfl)
  · have c_1i := c_1
    have c_1j := Int32.not_le.mp c_1
    have c_1i : k < 0 := Int32.not_le.mp c_1
    refine lv_ldc2 (v := (-1)) hx hb hown (hts _ (List.mem_cons_of_mem _ tq_195)) d_R_wordAt_4 ?_
    exact hp_retl S hK hW hr hlk d_R_wordAt_7 (⟨by rw [md_word, if_pos c_1i], rfl⟩)

/-! Row.squeeze: its loop -/
set_option maxHeartbeats 400000 in
set_option maxRecDepth 100000 in
theorem lp_Row_squeeze {p : Program} {e : Env} {s : State} {m : MethodId} {args : Array Value} {below : List Frame} {meth : Method} {c : Code} (l : Launch) (g : hp_G) (z0 N : Nat) (ad : Nat → Nat)  (Fz : Nat → va_E) (r n : Nat) (xs : List Int32) (hrN : r + 1 < N) (hn : n < 1000000) (h3 : xs.length ≤ n) (S : CallFix p m c cc_R_squeeze 3 s args ws_R_squeeze R_R) (hr : meth.sig.returnType = none) (hlk : meth.locks = false) (hK : hp_K g s) : ∀ (j : Nat) (i : Nat) (F : Nat → va_E) (f : Nat → Int32), i ≤ xs.length → xs.length + 1 ≤ i + j → F r = .inr (kR, [.ref (ad (r + 1)), .int (nI xs.length)]) → F (r + 1) = .inl (g.2 0, n, .inl f) → sqI f xs i → (∀ x, x ≠ r → x ≠ r + 1 → F x = Fz x) → ∀ (H : Heap) (locs : List Loc) (ls : Array Slot), hp_W g z0 N ad F s.heap H locs → lv_has ls 3 [(0, .ref (ad r)), (1, .int (nI (md_sqs xs i).length)), (2, .int (nI i))] → W p l e (rk 0) s m args below meth c H locs 0 0 (MQ below (va_Qv (fun F' => vRow g ad F' r n (md_sq xs) ∧ ∀ x, x ≠ r → x ≠ r + 1 → F' x = Fz x) (hp_B g z0 N ad) (hp_A z0)) args s 0 0 (hp_A z0)) (F0 m 4 ls []) := by
  obtain ⟨hx, hb, hml, hown, hts⟩ := id S
  have in_kR : ∀ w ∈ u_ws R_R T_R 2, w ∈ ws_R_squeeze := fun w h => List.mem_cons_of_mem _ (in0_R w h)
  intro j
  induction j with
  | zero =>
    intro i F f hi hj h1 h2 hI hfr H locs ls hW hl
    exact absurd hj (by omega)
  | succ j ih =>
    intro i F f hi hj h1 h2 hI hfr H locs ls hW hl
    refine lv_iload_n hx hb d_R_squeeze_4 rfl (lv_at hl 2 rfl) ?_
    refine lv_aload_n hx hb d_R_squeeze_5 rfl (lv_at hl 0 rfl) ?_
    refine hp_get S hK hW (r) (by omega) rfl h1 rfl in_kR 1 (by decide) (hts _ (List.mem_cons_of_mem _ tq_194)) rfl d_R_squeeze_6 ?_
    refine lv_icmp_ge (tgt := 61) hx hb d_R_squeeze_9 (by decide) (fun c_9 => ?_) (fun c_9 => ?_)
    · have c_9i := c_9
      replace c_9 : xs.length ≤ i := (nI_leI (a := xs.length) (b := i) (by omega) (by omega)).mp c_9
      have hlen := md_sqs_len xs i
      refine lv_aload_n hx hb d_R_squeeze_61 rfl (lv_at hl 0 rfl) ?_
      refine lv_iload_n hx hb d_R_squeeze_62 rfl (lv_at hl 1 rfl) ?_
      refine lv_if_le (tgt := 85) hx hb d_R_squeeze_63 (by decide) (fun c_63 => ?_) (fun c_63 => ?_)
      · have c_63i := c_63
        replace c_63 : (md_sqs xs i).length ≤ 0 := (nI_leI (a := (md_sqs xs i).length) (b := 0) (by omega) (by omega)).mp c_63
        refine lv_iload_n hx hb d_R_squeeze_85 rfl (lv_at hl 1 rfl) ?_
        refine hp_put S hK hW (r) (by omega) rfl h1 rfl in_kR tyok_R nm_R 1 (by decide) (hts _ (List.mem_cons_of_mem _ tq_194)) rfl rfl rfl (Nat.le_of_ble_eq_true rfl) d_R_squeeze_86 (fun H locs hW => ?_)
        obtain ⟨F_1, eF_1⟩ : ∃ z, z = va_up F (r) (.inr (kR, [.ref (ad (r + 1)), .int (nI (md_sqs xs i).length)])) := ⟨_, rfl⟩
        replace hW : hp_W g z0 N ad F_1 s.heap H locs := by rw [eF_1]; exact hW
        have f_2 : F_1 (r) = .inr (kR, [.ref (ad (r + 1)), .int (nI (md_sqs xs i).length)]) := by rw [eF_1, va_up_self]
        have f_3 : F_1 (r + 1) = .inl (g.2 0, n, .inl f) := by rw [eF_1, va_up_ne _ _ (by omega)]; exact h2
        have ei : i = xs.length := by omega
        subst ei
        have hcut := cut_f (a := md_sqs xs xs.length) (fun q => by omega)
        exact hp_retv S hK hW hr hlk d_R_squeeze_89 (⟨⟨_, by rw [f_2]; unfold md_sq; rw [hcut], f_3, by unfold md_sq; rw [hcut]; omega, fun j hj => by unfold md_sq at hj ⊢; rw [hcut] at hj ⊢; exact hI.1 j hj⟩, fun x hx hy => by rw [eF_1, va_up_ne _ _ hx]; exact hfr x hx hy⟩)
      · have c_63i := c_63
        replace c_63 : ¬ (md_sqs xs i).length ≤ 0 := fun zz9 => c_63 ((nI_leI (a := (md_sqs xs i).length) (b := 0) (by omega) (by omega)).mpr zz9)
        refine lv_aload_n hx hb d_R_squeeze_66 rfl (lv_at hl 0 rfl) ?_
        refine hp_get S hK hW (r) (by omega) rfl h1 rfl in_kR 0 (by decide) (hts _ (List.mem_cons_of_mem _ tq_193)) rfl d_R_squeeze_67 ?_
        refine lv_iload_n hx hb d_R_squeeze_70 rfl (lv_at hl 1 rfl) ?_
        refine lv_iconst (v := 1) hx hb d_R_squeeze_71 (by decide) ?_
        refine lv_isub hx hb d_R_squeeze_72 ?_
        rw [show ((nI (md_sqs xs i).length) - 1) = (nI ((md_sqs xs i).length - 1)) from (pk_sub (b := 1) (by omega))]
        refine hp_iald S hK hW (r + 1) (by omega) rfl h2 (vp_in_nI (by omega) (by omega)) d_R_squeeze_73 ?_
        rw [show (f ((nI ((md_sqs xs i).length - 1)) : Int32).toNatClampNeg) = (md_at (md_sqs xs i) ((md_sqs xs i).length - 1)) from (by rw [nI_clamp (by omega)]; exact hI.1 _ (by omega))]
        refine lv_bipush (v := 32) hx hb d_R_squeeze_74 (by decide) ?_
        refine lv_icmp_ne (tgt := 85) hx hb d_R_squeeze_76 (by decide) (fun c_76 => ?_) (fun c_76 => ?_)
        · have c_76i := c_76
          refine lv_iload_n hx hb d_R_squeeze_85 rfl (lv_at hl 1 rfl) ?_
          refine hp_put S hK hW (r) (by omega) rfl h1 rfl in_kR tyok_R nm_R 1 (by decide) (hts _ (List.mem_cons_of_mem _ tq_194)) rfl rfl rfl (Nat.le_of_ble_eq_true rfl) d_R_squeeze_86 (fun H locs hW => ?_)
          obtain ⟨F_4, eF_4⟩ : ∃ z, z = va_up F (r) (.inr (kR, [.ref (ad (r + 1)), .int (nI (md_sqs xs i).length)])) := ⟨_, rfl⟩
          replace hW : hp_W g z0 N ad F_4 s.heap H locs := by rw [eF_4]; exact hW
          have f_5 : F_4 (r) = .inr (kR, [.ref (ad (r + 1)), .int (nI (md_sqs xs i).length)]) := by rw [eF_4, va_up_self]
          have f_6 : F_4 (r + 1) = .inl (g.2 0, n, .inl f) := by rw [eF_4, va_up_ne _ _ (by omega)]; exact h2
          have ei : i = xs.length := by omega
          subst ei
          have hcut := cut_f (a := md_sqs xs xs.length) (fun q => c_76i q.2)
          exact hp_retv S hK hW hr hlk d_R_squeeze_89 (⟨⟨_, by rw [f_5]; unfold md_sq; rw [hcut], f_6, by unfold md_sq; rw [hcut]; omega, fun j hj => by unfold md_sq at hj ⊢; rw [hcut] at hj ⊢; exact hI.1 j hj⟩, fun x hx hy => by rw [eF_4, va_up_ne _ _ hx]; exact hfr x hx hy⟩)
        · have c_76i := c_76
          refine lv_iload_n hx hb d_R_squeeze_79 rfl (lv_at hl 1 rfl) ?_
          refine lv_iconst (v := 1) hx hb d_R_squeeze_80 (by decide) ?_
          refine lv_isub hx hb d_R_squeeze_81 ?_
          rw [show ((nI (md_sqs xs i).length) - 1) = (nI ((md_sqs xs i).length - 1)) from (pk_sub (b := 1) (by omega))]
          refine lv_goto (tgt := 86) hx hb d_R_squeeze_82 (by decide) ?_
          refine hp_put S hK hW (r) (by omega) rfl h1 rfl in_kR tyok_R nm_R 1 (by decide) (hts _ (List.mem_cons_of_mem _ tq_194)) rfl rfl rfl (Nat.le_of_ble_eq_true rfl) d_R_squeeze_86 (fun H locs hW => ?_)
          obtain ⟨F_7, eF_7⟩ : ∃ z, z = va_up F (r) (.inr (kR, [.ref (ad (r + 1)), .int (nI ((md_sqs xs i).length - 1))])) := ⟨_, rfl⟩
          replace hW : hp_W g z0 N ad F_7 s.heap H locs := by rw [eF_7]; exact hW
          have f_8 : F_7 (r) = .inr (kR, [.ref (ad (r + 1)), .int (nI ((md_sqs xs i).length - 1))]) := by rw [eF_7, va_up_self]
          have f_9 : F_7 (r + 1) = .inl (g.2 0, n, .inl f) := by rw [eF_7, va_up_ne _ _ (by omega)]; exact h2
          have ei : i = xs.length := by omega
          subst ei
          have hcut := cut_len_t (a := md_sqs xs xs.length) ⟨by omega, c_76i⟩
          exact hp_retv S hK hW hr hlk d_R_squeeze_89 (⟨⟨_, by rw [f_8]; unfold md_sq; rw [hcut], f_9, by unfold md_sq; rw [hcut]; omega, fun j hj => by unfold md_sq at hj ⊢; rw [cut_at hj]; exact hI.1 j (by rw [hcut] at hj; omega)⟩, fun x hx hy => by rw [eF_7, va_up_ne _ _ hx]; exact hfr x hx hy⟩)
    · have c_9i := c_9
      replace c_9 : ¬ xs.length ≤ i := fun zz9 => c_9 ((nI_leI (a := xs.length) (b := i) (by omega) (by omega)).mpr zz9)
      have hlen := md_sqs_len xs i
      refine lv_aload_n hx hb d_R_squeeze_12 rfl (lv_at hl 0 rfl) ?_
      refine hp_get S hK hW (r) (by omega) rfl h1 rfl in_kR 0 (by decide) (hts _ (List.mem_cons_of_mem _ tq_193)) rfl d_R_squeeze_13 ?_
      refine lv_iload_n hx hb d_R_squeeze_16 rfl (lv_at hl 2 rfl) ?_
      refine hp_iald S hK hW (r + 1) (by omega) rfl h2 (vp_in_nI (by omega) (by omega)) d_R_squeeze_17 ?_
      rw [show (f ((nI i) : Int32).toNatClampNeg) = (md_at xs i) from (by rw [nI_clamp (by omega)]; exact hI.2 i (Nat.le_refl _) (by omega))]
      refine lv_bipush (v := 32) hx hb d_R_squeeze_18 (by decide) ?_
      refine lv_icmp_ne (tgt := 40) hx hb d_R_squeeze_20 (by decide) (fun c_20 => ?_) (fun c_20 => ?_)
      · have c_20i := c_20
        have hadd := sqs_add (xs := xs) (i := i) (Or.inl c_20i)
        refine lv_aload_n hx hb d_R_squeeze_40 rfl (lv_at hl 0 rfl) ?_
        refine hp_get S hK hW (r) (by omega) rfl h1 rfl in_kR 0 (by decide) (hts _ (List.mem_cons_of_mem _ tq_193)) rfl d_R_squeeze_41 ?_
        refine lv_iload_n hx hb d_R_squeeze_44 rfl (lv_at hl 1 rfl) ?_
        refine lv_aload_n hx hb d_R_squeeze_45 rfl (lv_at hl 0 rfl) ?_
        refine hp_get S hK hW (r) (by omega) rfl h1 rfl in_kR 0 (by decide) (hts _ (List.mem_cons_of_mem _ tq_193)) rfl d_R_squeeze_46 ?_
        refine lv_iload_n hx hb d_R_squeeze_49 rfl (lv_at hl 2 rfl) ?_
        refine hp_iald S hK hW (r + 1) (by omega) rfl h2 (vp_in_nI (by omega) (by omega)) d_R_squeeze_50 ?_
        rw [show (f ((nI i) : Int32).toNatClampNeg) = (md_at xs i) from (by rw [nI_clamp (by omega)]; exact hI.2 i (Nat.le_refl _) (by omega))]
        refine hp_iast S hK hW (r + 1) (by omega) rfl h2 (x := (md_at xs i)) (vp_in_nI (by omega) (by omega)) d_R_squeeze_51 (fun H locs hW => ?_)
        obtain ⟨F_10, eF_10⟩ : ∃ z, z = va_up F (r + 1) (.inl (g.2 0, n, .inl (upd f (md_sqs xs i).length (md_at xs i)))) := ⟨_, rfl⟩
        rw [show (((nI (md_sqs xs i).length) : Int32).toNatClampNeg) = (md_sqs xs i).length from nI_clamp (by omega)] at hW
        replace hW : hp_W g z0 N ad F_10 s.heap H locs := by rw [eF_10]; exact hW
        have f_11 : F_10 (r) = .inr (kR, [.ref (ad (r + 1)), .int (nI xs.length)]) := by rw [eF_10, va_up_ne _ _ (by omega)]; exact h1
        have f_12 : F_10 (r + 1) = .inl (g.2 0, n, .inl (upd f (md_sqs xs i).length (md_at xs i))) := by rw [eF_10, va_up_self]
        refine lv_iinc (v := (nI ((md_sqs xs i).length + 1))) (lv' := [(1, .int (nI ((md_sqs xs i).length + 1))), (0, .ref (ad r)), (2, .int (nI i))]) hx hb d_R_squeeze_52 hl (k := 1) rfl ((nI_succ ((md_sqs xs i).length)).symm) (by decide) rfl (fun ls hl => ?_)
        refine lv_iinc (v := (nI (i + 1))) (lv' := [(2, .int (nI (i + 1))), (1, .int (nI ((md_sqs xs i).length + 1))), (0, .ref (ad r))]) hx hb d_R_squeeze_55 hl (k := 2) rfl ((nI_succ (i)).symm) (by decide) rfl (fun ls hl => ?_)
        refine lv_goto (tgt := 4) hx hb d_R_squeeze_58 (by decide) ?_
        exact ih (i + 1) F_10 (upd f (md_sqs xs i).length (md_at xs i)) (by omega) (by omega) f_11 f_12 (hI.add hadd) (fun x hx hy => by rw [eF_10, va_up_ne _ _ hy]; exact hfr x hx hy) H locs ls hW (by rw [hadd, List.length_append, List.length_singleton]; exact (lv_sub hl [2, 1, 0] rfl))
      · have c_20i := c_20
        refine lv_iload_n hx hb d_R_squeeze_23 rfl (lv_at hl 1 rfl) ?_
        refine lv_if_le (tgt := 55) hx hb d_R_squeeze_24 (by decide) (fun c_24 => ?_) (fun c_24 => ?_)
        · have c_24i := c_24
          replace c_24 : (md_sqs xs i).length ≤ 0 := (nI_leI (a := (md_sqs xs i).length) (b := 0) (by omega) (by omega)).mp c_24
          have hskip := sqs_skip (xs := xs) (i := i) (fun h => by rcases h with h | h <;> first | exact h c_20i | omega)
          refine lv_iinc (v := (nI (i + 1))) (lv' := [(2, .int (nI (i + 1))), (0, .ref (ad r)), (1, .int (nI (md_sqs xs i).length))]) hx hb d_R_squeeze_55 hl (k := 2) rfl ((nI_succ (i)).symm) (by decide) rfl (fun ls hl => ?_)
          refine lv_goto (tgt := 4) hx hb d_R_squeeze_58 (by decide) ?_
          exact ih (i + 1) F f (by omega) (by omega) h1 h2 (hI.skip hskip) hfr H locs ls hW (by rw [hskip]; exact (lv_sub hl [1, 2, 0] rfl))
        · have c_24i := c_24
          replace c_24 : ¬ (md_sqs xs i).length ≤ 0 := fun zz9 => c_24 ((nI_leI (a := (md_sqs xs i).length) (b := 0) (by omega) (by omega)).mpr zz9)
          refine lv_aload_n hx hb d_R_squeeze_27 rfl (lv_at hl 0 rfl) ?_
          refine hp_get S hK hW (r) (by omega) rfl h1 rfl in_kR 0 (by decide) (hts _ (List.mem_cons_of_mem _ tq_193)) rfl d_R_squeeze_28 ?_
          refine lv_iload_n hx hb d_R_squeeze_31 rfl (lv_at hl 1 rfl) ?_
          refine lv_iconst (v := 1) hx hb d_R_squeeze_32 (by decide) ?_
          refine lv_isub hx hb d_R_squeeze_33 ?_
          rw [show ((nI (md_sqs xs i).length) - 1) = (nI ((md_sqs xs i).length - 1)) from (pk_sub (b := 1) (by omega))]
          refine hp_iald S hK hW (r + 1) (by omega) rfl h2 (vp_in_nI (by omega) (by omega)) d_R_squeeze_34 ?_
          rw [show (f ((nI ((md_sqs xs i).length - 1)) : Int32).toNatClampNeg) = (md_at (md_sqs xs i) ((md_sqs xs i).length - 1)) from (by rw [nI_clamp (by omega)]; exact hI.1 _ (by omega))]
          refine lv_bipush (v := 32) hx hb d_R_squeeze_35 (by decide) ?_
          refine lv_icmp_eq (tgt := 55) hx hb d_R_squeeze_37 (by decide) (fun c_37 => ?_) (fun c_37 => ?_)
          · have c_37i := c_37
            have hskip := sqs_skip (xs := xs) (i := i) (fun h => by rcases h with h | h <;> first | exact h c_20i | exact h.2 c_37i)
            refine lv_iinc (v := (nI (i + 1))) (lv' := [(2, .int (nI (i + 1))), (0, .ref (ad r)), (1, .int (nI (md_sqs xs i).length))]) hx hb d_R_squeeze_55 hl (k := 2) rfl ((nI_succ (i)).symm) (by decide) rfl (fun ls hl => ?_)
            refine lv_goto (tgt := 4) hx hb d_R_squeeze_58 (by decide) ?_
            exact ih (i + 1) F f (by omega) (by omega) h1 h2 (hI.skip hskip) hfr H locs ls hW (by rw [hskip]; exact (lv_sub hl [1, 2, 0] rfl))
          · have c_37i := c_37
            have hadd := sqs_add (xs := xs) (i := i) (Or.inr ⟨by omega, c_37i⟩)
            refine lv_aload_n hx hb d_R_squeeze_40 rfl (lv_at hl 0 rfl) ?_
            refine hp_get S hK hW (r) (by omega) rfl h1 rfl in_kR 0 (by decide) (hts _ (List.mem_cons_of_mem _ tq_193)) rfl d_R_squeeze_41 ?_
            refine lv_iload_n hx hb d_R_squeeze_44 rfl (lv_at hl 1 rfl) ?_
            refine lv_aload_n hx hb d_R_squeeze_45 rfl (lv_at hl 0 rfl) ?_
            refine hp_get S hK hW (r) (by omega) rfl h1 rfl in_kR 0 (by decide) (hts _ (List.mem_cons_of_mem _ tq_193)) rfl d_R_squeeze_46 ?_
            refine lv_iload_n hx hb d_R_squeeze_49 rfl (lv_at hl 2 rfl) ?_
            refine hp_iald S hK hW (r + 1) (by omega) rfl h2 (vp_in_nI (by omega) (by omega)) d_R_squeeze_50 ?_
            rw [show (f ((nI i) : Int32).toNatClampNeg) = (md_at xs i) from (by rw [nI_clamp (by omega)]; exact hI.2 i (Nat.le_refl _) (by omega))]
            refine hp_iast S hK hW (r + 1) (by omega) rfl h2 (x := (md_at xs i)) (vp_in_nI (by omega) (by omega)) d_R_squeeze_51 (fun H locs hW => ?_)
            obtain ⟨F_13, eF_13⟩ : ∃ z, z = va_up F (r + 1) (.inl (g.2 0, n, .inl (upd f (md_sqs xs i).length (md_at xs i)))) := ⟨_, rfl⟩
            rw [show (((nI (md_sqs xs i).length) : Int32).toNatClampNeg) = (md_sqs xs i).length from nI_clamp (by omega)] at hW
            replace hW : hp_W g z0 N ad F_13 s.heap H locs := by rw [eF_13]; exact hW
            have f_14 : F_13 (r) = .inr (kR, [.ref (ad (r + 1)), .int (nI xs.length)]) := by rw [eF_13, va_up_ne _ _ (by omega)]; exact h1
            have f_15 : F_13 (r + 1) = .inl (g.2 0, n, .inl (upd f (md_sqs xs i).length (md_at xs i))) := by rw [eF_13, va_up_self]
            refine lv_iinc (v := (nI ((md_sqs xs i).length + 1))) (lv' := [(1, .int (nI ((md_sqs xs i).length + 1))), (0, .ref (ad r)), (2, .int (nI i))]) hx hb d_R_squeeze_52 hl (k := 1) rfl ((nI_succ ((md_sqs xs i).length)).symm) (by decide) rfl (fun ls hl => ?_)
            refine lv_iinc (v := (nI (i + 1))) (lv' := [(2, .int (nI (i + 1))), (1, .int (nI ((md_sqs xs i).length + 1))), (0, .ref (ad r))]) hx hb d_R_squeeze_55 hl (k := 2) rfl ((nI_succ (i)).symm) (by decide) rfl (fun ls hl => ?_)
            refine lv_goto (tgt := 4) hx hb d_R_squeeze_58 (by decide) ?_
            exact ih (i + 1) F_13 (upd f (md_sqs xs i).length (md_at xs i)) (by omega) (by omega) f_14 f_15 (hI.add hadd) (fun x hx hy => by rw [eF_13, va_up_ne _ _ hy]; exact hfr x hx hy) H locs ls hW (by rw [hadd, List.length_append, List.length_singleton]; exact (lv_sub hl [2, 1, 0] rfl))

/-! Row.squeeze() -/
set_option maxHeartbeats 400000 in
set_option maxRecDepth 100000 in
theorem c_Row_squeeze (l : Launch) (g : hp_G) (z0 N : Nat) (ad : Nat → Nat) (F : Nat → va_E) (r n : Nat) (xs : List Int32) (hrN : r + 1 < N) (hn : n < 1000000) (hR : vRow g ad F r n xs) : hp_Mv l g z0 N ad y_R_squeeze ws_R_squeeze (rk 0) [.ref (ad r)] F (fun F' => vRow g ad F' r n (md_sq xs) ∧ ∀ x, x ≠ r → x ≠ r + 1 → F' x = F x) := by
  obtain ⟨f, h1, h2, h3, h4⟩ := id hR
  refine hp_enter (cc := cc_R_squeeze) (maxL := 3) (ret := none) (by decide) rfl (Nat.le_of_ble_eq_true rfl) ?_
  intro p e s m below meth c S hr hlk hnm hK hW ls hl
  have hl : lv_has ls 3 [(0, .ref (ad r))] := hl
  obtain ⟨hx, hb, hml, hown, hts⟩ := id S
  have in_kR : ∀ w ∈ u_ws R_R T_R 2, w ∈ ws_R_squeeze := fun w h => List.mem_cons_of_mem _ (in0_R w h)
  refine lv_iconst (v := 0) hx hb d_R_squeeze_0 (by decide) ?_
  refine lv_istore_n (lv' := [(1, .int 0), (0, .ref (ad r))]) hx hb d_R_squeeze_1 rfl hl (by decide) rfl (fun ls hl => ?_)
  refine lv_iconst (v := 0) hx hb d_R_squeeze_2 (by decide) ?_
  refine lv_istore_n (lv' := [(2, .int 0), (1, .int 0), (0, .ref (ad r))]) hx hb d_R_squeeze_3 rfl hl (by decide) rfl (fun ls hl => ?_)
  exact lp_Row_squeeze l g z0 N ad F r n xs hrN hn h3 S hr hlk hK (xs.length + 1) 0 F f (Nat.zero_le _) (by omega) h1 h2 ⟨fun j hj => absurd hj (Nat.not_lt_zero _), fun j _ hj => h4 j hj⟩ (fun _ _ _ => rfl) _ _ ls hW (lv_sub hl [2, 1, 0] rfl)
