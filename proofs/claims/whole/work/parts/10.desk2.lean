/-! known: its loop -/
set_option maxHeartbeats 400000 in
set_option maxRecDepth 100000 in
theorem lp_known {p : Program} {e : Env} {s : State} {m : MethodId} {args : Array Value} {below : List Frame} {meth : Method} {c : Code} (l : Launch) (g : hp_G) (z0 N : Nat) (ad : Nat → Nat)  (F : Nat → va_E) (hN : 87 ≤ N) (rs : Nat → List Int32) (kn op : Nat → Bool) (fp lm me dp wh te nu en : Int32) (hS : vSt g ad F rs kn op fp lm me dp wh te nu en) (fe : Nat → Option Nat) (h7 : F 7 = .inl (g.2 1, 26, .inr (.inr (.inr (.inr fe))))) (h7b : ∀ k, k < 26 → fe k = some (ad (8 + 3 * k))) (S : CallFix p m c cc_D_known 3 s args ws_D_known R_D) (hr : meth.sig.returnType = (some .int)) (hlk : meth.locks = false) (hK : hp_K g s) : ∀ (j : Nat) (i : Nat), i ≤ 26 → 27 ≤ i + j → ∀ (H : Heap) (locs : List Loc) (ls : Array Slot), hp_W g z0 N ad F s.heap H locs → lv_has ls 3 [(0, .ref (ad 0)), (1, .int (nI (md_kn kn i))), (2, .int (nI i))] → W p l e (rk 0) s m args below meth c H locs 0 0 (MQ below (va_Qi (fun v F' => v = nI (md_kn kn 26) ∧ F' = F) (hp_B g z0 N ad) (hp_A z0)) args s 0 0 (hp_A z0)) (F0 m 4 ls []) := by
  obtain ⟨hx, hb, hml, hown, hts⟩ := id S
  have in_kD : ∀ w ∈ u_ws R_D T_D 9, w ∈ ws_D_known := fun w h => List.mem_cons_of_mem _ (in0_D w h)
  have in_kE : ∀ w ∈ u_ws R_E T_E 3, w ∈ ws_D_known := fun w h => List.mem_cons_of_mem _ (in0_E w h)
  intro j
  induction j with
  | zero =>
    intro i hi hj H locs ls hW hl
    exact absurd hj (by omega)
  | succ j ih =>
    intro i hi hj H locs ls hW hl
    refine lv_iload_n hx hb d_D_known_4 rfl (lv_at hl 2 rfl) ?_
    refine lv_bipush (v := 26) hx hb d_D_known_5 (by decide) ?_
    refine lv_icmp_ge (tgt := 31) hx hb d_D_known_7 (by decide) (fun c_7 => ?_) (fun c_7 => ?_)
    · have c_7i := c_7
      replace c_7 : 26 ≤ i := (nI_leI (a := 26) (b := i) (by omega) (by omega)).mp c_7
      refine lv_iload_n hx hb d_D_known_31 rfl (lv_at hl 1 rfl) ?_
      exact hp_reti S hK hW hr hlk d_D_known_32 (⟨by rw [show i = 26 by omega], rfl⟩)
    · have c_7i := c_7
      replace c_7 : ¬ 26 ≤ i := fun zz9 => c_7 ((nI_leI (a := 26) (b := i) (by omega) (by omega)).mpr zz9)
      refine lv_aload_n hx hb d_D_known_10 rfl (lv_at hl 0 rfl) ?_
      refine hp_get S hK hW (0) (by omega) rfl hS.1 rfl in_kD 3 (by decide) (hts _ (List.mem_cons_of_mem _ tq_10)) rfl d_D_known_11 ?_
      refine lv_iload_n hx hb d_D_known_14 rfl (lv_at hl 2 rfl) ?_
      refine hp_aald S hK hW (7) 1 (by omega) rfl h7 rfl (vp_in_nI (by omega) (by omega)) d_D_known_15 ?_
      rw [show fe ((nI i) : Int32).toNatClampNeg = some (ad (8 + 3 * i)) from (by rw [nI_clamp (by omega)]; exact h7b i (by omega)), va_rf_some]
      refine hp_getN S hK hW (8 + 3 * i) (by omega) rfl (hS.2.2.2.1 i (by omega)) rfl in_kE 1 (by decide) (List.mem_of_getElem? (i := 1) rfl) rfl d_D_known_16 ?_
      refine lv_if_eq (tgt := 25) hx hb d_D_known_19 (by decide) (fun c_19 => ?_) (fun c_19 => ?_)
      · have c_19i := c_19
        refine lv_iinc (v := (nI (i + 1))) (lv' := [(2, .int (nI (i + 1))), (0, .ref (ad 0)), (1, .int (nI (md_kn kn i)))]) hx hb d_D_known_25 hl (k := 2) rfl ((nI_succ (i)).symm) (by decide) rfl (fun ls hl => ?_)
        refine lv_goto (tgt := 4) hx hb d_D_known_28 (by decide) ?_
        exact ih (i + 1) (by omega) (by omega) H locs ls hW (by rw [kn_t c_19i]; exact (lv_sub hl [1, 2, 0] rfl))
      · have c_19i := c_19
        refine lv_iinc (v := (nI ((md_kn kn i) + 1))) (lv' := [(1, .int (nI ((md_kn kn i) + 1))), (0, .ref (ad 0)), (2, .int (nI i))]) hx hb d_D_known_22 hl (k := 1) rfl ((nI_succ ((md_kn kn i))).symm) (by decide) rfl (fun ls hl => ?_)
        refine lv_iinc (v := (nI (i + 1))) (lv' := [(2, .int (nI (i + 1))), (1, .int (nI ((md_kn kn i) + 1))), (0, .ref (ad 0))]) hx hb d_D_known_25 hl (k := 2) rfl ((nI_succ (i)).symm) (by decide) rfl (fun ls hl => ?_)
        refine lv_goto (tgt := 4) hx hb d_D_known_28 (by decide) ?_
        exact ih (i + 1) (by omega) (by omega) H locs ls hW (by rw [kn_f c_19i]; exact (lv_sub hl [2, 1, 0] rfl))

/-! known() -/
set_option maxHeartbeats 400000 in
set_option maxRecDepth 100000 in
theorem c_known (l : Launch) (g : hp_G) (z0 N : Nat) (ad : Nat → Nat) (F : Nat → va_E) (hN : 87 ≤ N) (rs : Nat → List Int32) (kn op : Nat → Bool) (fp lm me dp wh te nu en : Int32) (hS : vSt g ad F rs kn op fp lm me dp wh te nu en) : hp_Mi l g z0 N ad y_D_known ws_D_known (rk 0) [.ref (ad 0)] F (fun v F' => v = nI (md_kn kn 26) ∧ F' = F) := by
  obtain ⟨fe, h7, h7b⟩ := hS.2.2.1
  refine hp_enter (cc := cc_D_known) (maxL := 3) (ret := (some .int)) (by decide) rfl (Nat.le_of_ble_eq_true rfl) ?_
  intro p e s m below meth c S hr hlk hnm hK hW ls hl
  have hl : lv_has ls 3 [(0, .ref (ad 0))] := hl
  obtain ⟨hx, hb, hml, hown, hts⟩ := id S
  have in_kD : ∀ w ∈ u_ws R_D T_D 9, w ∈ ws_D_known := fun w h => List.mem_cons_of_mem _ (in0_D w h)
  refine lv_iconst (v := 0) hx hb d_D_known_0 (by decide) ?_
  refine lv_istore_n (lv' := [(1, .int 0), (0, .ref (ad 0))]) hx hb d_D_known_1 rfl hl (by decide) rfl (fun ls hl => ?_)
  refine lv_iconst (v := 0) hx hb d_D_known_2 (by decide) ?_
  refine lv_istore_n (lv' := [(2, .int 0), (1, .int 0), (0, .ref (ad 0))]) hx hb d_D_known_3 rfl hl (by decide) rfl (fun ls hl => ?_)
  exact lp_known l g z0 N ad F hN rs kn op fp lm me dp wh te nu en hS fe h7 h7b S hr hlk hK 27 0 (by omega) (by omega) _ _ ls hW (lv_sub hl [2, 1, 0] rfl)

/-! entityOf(k) -/
set_option maxHeartbeats 400000 in
set_option maxRecDepth 100000 in
theorem c_entityOf (l : Launch) (g : hp_G) (z0 N : Nat) (ad : Nat → Nat) (F : Nat → va_E) (hN : 87 ≤ N) (rs : Nat → List Int32) (kn op : Nat → Bool) (fp lm me dp wh te nu en : Int32) (hS : vSt g ad F rs kn op fp lm me dp wh te nu en) (k : Int32) : hp_Mq l g z0 N ad y_D_entityOf ws_D_entityOf (rk 0) [.ref (ad 0), .int k] F (fun v F' => v = entA ad k ∧ F' = F) := by
  obtain ⟨fe, h7, h7b⟩ := hS.2.2.1
  refine hp_enter (cc := cc_D_entityOf) (maxL := 2) (ret := (some (.object "ValueDesk$Entity"))) (by decide) rfl (Nat.le_of_ble_eq_true rfl) ?_
  intro p e s m below meth c S hr hlk hnm hK hW ls hl
  have hl : lv_has ls 2 [(0, .ref (ad 0)), (1, .int k)] := hl
  obtain ⟨hx, hb, hml, hown, hts⟩ := id S
  have in_kD : ∀ w ∈ u_ws R_D T_D 9, w ∈ ws_D_entityOf := fun w h => List.mem_cons_of_mem _ (in0_D w h)
  refine lv_iload_n hx hb d_D_entityOf_0 rfl (lv_at hl 1 rfl) ?_
  refine lv_if_lt (tgt := 10) hx hb d_D_entityOf_1 (by decide) (fun c_1 => ?_) (fun c_1 => ?_)
  · have c_1i := c_1
    have c_1j := Int32.not_le.mpr c_1
    refine lv_null hx hb d_D_entityOf_10 ?_
    refine lv_goto (tgt := 20) hx hb d_D_entityOf_11 (by decide) ?_
    exact hp_retq (v := none) S hK hW hr (Or.inl ⟨_, rfl⟩) hlk d_D_entityOf_20 (⟨(if_neg (fun h => absurd c_1i (Int32.not_lt.mpr h.1))).symm, rfl⟩)
  · have c_1i := c_1
    have c_1j := Int32.not_lt.mp c_1
    refine lv_iload_n hx hb d_D_entityOf_4 rfl (lv_at hl 1 rfl) ?_
    refine lv_bipush (v := 26) hx hb d_D_entityOf_5 (by decide) ?_
    refine lv_icmp_lt (tgt := 14) hx hb d_D_entityOf_7 (by decide) (fun c_7 => ?_) (fun c_7 => ?_)
    · have c_7i := c_7
      have c_7j := Int32.not_le.mpr c_7
      obtain ⟨i, hi, ei⟩ := ent_k c_1i c_7i
      subst ei
      refine lv_aload_n hx hb d_D_entityOf_14 rfl (lv_at hl 0 rfl) ?_
      refine hp_get S hK hW (0) (by omega) rfl hS.1 rfl in_kD 3 (by decide) (hts _ (List.mem_cons_of_mem _ tq_10)) rfl d_D_entityOf_15 ?_
      refine lv_iload_n hx hb d_D_entityOf_18 rfl (lv_at hl 1 rfl) ?_
      refine hp_aald S hK hW (7) 1 (by omega) rfl h7 rfl (vp_in_nI (by omega) (by omega)) d_D_entityOf_19 ?_
      rw [show fe ((nI i) : Int32).toNatClampNeg = some (ad (8 + 3 * i)) from (by rw [nI_clamp (by omega)]; exact h7b i (by omega)), va_rf_some]
      exact hp_retq (v := some ((ad (8 + 3 * i)))) S hK hW hr (Or.inl ⟨_, rfl⟩) hlk d_D_entityOf_20 (⟨(entA_in hi).symm, rfl⟩)
    · have c_7i := c_7
      have c_7j := Int32.not_lt.mp c_7
      refine lv_null hx hb d_D_entityOf_10 ?_
      refine lv_goto (tgt := 20) hx hb d_D_entityOf_11 (by decide) ?_
      exact hp_retq (v := none) S hK hW hr (Or.inl ⟨_, rfl⟩) hlk d_D_entityOf_20 (⟨(if_neg (fun h => c_7i h.2)).symm, rfl⟩)

/-! place() -/
set_option maxHeartbeats 400000 in
set_option maxRecDepth 100000 in
theorem c_place (l : Launch) (g : hp_G) (z0 N : Nat) (ad : Nat → Nat) (F : Nat → va_E) (hN : 87 ≤ N) (rs : Nat → List Int32) (kn op : Nat → Bool) (fp lm me dp wh te nu en : Int32) (hS : vSt g ad F rs kn op fp lm me dp wh te nu en) : hp_Mi l g z0 N ad y_D_place ws_D_place (rk 0) [.ref (ad 0)] F (fun v F' => v = fp ∧ F' = F) := by
  refine hp_enter (cc := cc_D_place) (maxL := 1) (ret := (some .int)) (by decide) rfl (Nat.le_of_ble_eq_true rfl) ?_
  intro p e s m below meth c S hr hlk hnm hK hW ls hl
  have hl : lv_has ls 1 [(0, .ref (ad 0))] := hl
  obtain ⟨hx, hb, hml, hown, hts⟩ := id S
  have in_kD : ∀ w ∈ u_ws R_D T_D 9, w ∈ ws_D_place := fun w h => List.mem_cons_of_mem _ (in0_D w h)
  refine lv_aload_n hx hb d_D_place_0 rfl (lv_at hl 0 rfl) ?_
  refine hp_get S hK hW (0) (by omega) rfl hS.1 rfl in_kD 5 (by decide) (hts _ (List.mem_cons_of_mem _ tq_19)) rfl d_D_place_1 ?_
  exact hp_reti S hK hW hr hlk d_D_place_4 (⟨rfl, rfl⟩)

/-! characters(k) -/
set_option maxHeartbeats 400000 in
set_option maxRecDepth 100000 in
theorem c_characters (l : Launch) (g : hp_G) (z0 N : Nat) (ad : Nat → Nat) (F : Nat → va_E) (hN : 87 ≤ N) (rs : Nat → List Int32) (kn op : Nat → Bool) (fp lm me dp wh te nu en : Int32) (hS : vSt g ad F rs kn op fp lm me dp wh te nu en) (k : Int32) : hp_Ml l g z0 N ad y_D_characters ws_D_characters (rk 1) [.ref (ad 0), .int k] F (fun v F' => v = md_word (rs 5) k ∧ F' = F) := by
  refine hp_enter (cc := cc_D_characters) (maxL := 2) (ret := (some .long)) (by decide) rfl (Nat.le_of_ble_eq_true rfl) ?_
  intro p e s m below meth c S hr hlk hnm hK hW ls hl
  have hl : lv_has ls 2 [(0, .ref (ad 0)), (1, .int k)] := hl
  obtain ⟨hx, hb, hml, hown, hts⟩ := id S
  have in_kD : ∀ w ∈ u_ws R_D T_D 9, w ∈ ws_D_characters := fun w h => List.mem_cons_of_mem _ (in0_D w h)
  refine lv_aload_n hx hb d_D_characters_0 rfl (lv_at hl 0 rfl) ?_
  refine hp_get S hK hW (0) (by omega) rfl hS.1 rfl in_kD 2 (by decide) (hts _ (List.mem_cons_of_mem _ tq_8)) rfl d_D_characters_1 ?_
  refine lv_iload_n hx hb d_D_characters_4 rfl (lv_at hl 1 rfl) ?_
  refine hp_gol hW (va_runV S (s_wordAt l g z0 N ad F hN rs kn op fp lm me dp wh te nu en hS (5) (rowp_5) k) (cwV 1 hts (tb_V cd_R_wordAt tq_49 tq_50 tq_51 tq_3) rfl rfl rfl hd_R_wordAt (rk_ok (by omega) (by omega))) (hp_preV hK hW (by omega) rfl (hS.row rowp_5).obj rfl) rfl rfl hl.1 rfl (lv_room (Nat.le_of_ble_eq_true rfl)) d_D_characters_5 ⟨Nat.zero_le _, Nat.zero_le _⟩) (fun r_1 F_2 H locs hw hW => ?_)
  obtain ⟨hvq, hFq⟩ := hw
  rw [hFq] at hW
  rw [hvq]
  exact hp_retl S hK hW hr hlk d_D_characters_8 (⟨rfl, rfl⟩)

/-! text(e, k), no such entity -/
set_option maxHeartbeats 400000 in
set_option maxRecDepth 100000 in
theorem c_text_out (l : Launch) (g : hp_G) (z0 N : Nat) (ad : Nat → Nat) (F : Nat → va_E) (hN : 87 ≤ N) (rs : Nat → List Int32) (kn op : Nat → Bool) (fp lm me dp wh te nu en : Int32) (hS : vSt g ad F rs kn op fp lm me dp wh te nu en) (e0 k : Int32) (hk : ¬ (0 ≤ e0 ∧ e0 < 26)) : hp_Ml l g z0 N ad y_D_text ws_D_text (rk 1) [.ref (ad 0), .int e0, .int k] F (fun v F' => v = -1 ∧ F' = F) := by
  refine hp_enter (cc := cc_D_text) (maxL := 4) (ret := (some .long)) (by decide) rfl (Nat.le_of_ble_eq_true rfl) ?_
  intro p e s m below meth c S hr hlk hnm hK hW ls hl
  have hl : lv_has ls 4 [(0, .ref (ad 0)), (1, .int e0), (2, .int k)] := hl
  obtain ⟨hx, hb, hml, hown, hts⟩ := id S
  have in_kD : ∀ w ∈ u_ws R_D T_D 9, w ∈ ws_D_text := fun w h => List.mem_cons_of_mem _ (in0_D w h)
  refine lv_aload_n hx hb d_D_text_0 rfl (lv_at hl 0 rfl) ?_
  refine lv_iload_n hx hb d_D_text_1 rfl (lv_at hl 1 rfl) ?_
  refine hp_goq hW (va_runV S (c_entityOf l g z0 N ad F hN rs kn op fp lm me dp wh te nu en hS e0) (cwV 1 hts (tb_V cd_D_entityOf tq_26 tq_28 tq_29 tq_27) rfl rfl rfl hd_D_entityOf (rk_ok (by omega) (by omega))) (hp_preV hK hW (by omega) rfl hS.1 rfl) rfl rfl hl.1 rfl (lv_room (Nat.le_of_ble_eq_true rfl)) d_D_text_2 ⟨Nat.zero_le _, Nat.zero_le _⟩) (fun r_1 F_2 H locs hw hW => ?_)
  obtain ⟨hv, hF⟩ := hw
  rw [hF] at hW
  rw [hv, show entA ad e0 = none from if_neg hk, va_rf_none]
  refine lv_astore_nN (lv' := [(3, .null), (0, .ref (ad 0)), (1, .int e0), (2, .int k)]) hx hb d_D_text_5 rfl hl (by decide) rfl (fun ls hl => ?_)
  refine lv_aload_nN hx hb d_D_text_6 rfl (lv_at hl 0 rfl) ?_
  refine lv_ifnullN (tgt := 17) hx hb d_D_text_7 (by decide) ?_
  refine lv_ldc2 (v := (-1)) hx hb hown (hts _ (List.mem_cons_of_mem _ tq_52)) d_D_text_17 ?_
  refine lv_goto (tgt := 31) hx hb d_D_text_20 (by decide) ?_
  exact hp_retl S hK hW hr hlk d_D_text_31 (⟨rfl, rfl⟩)

/-! text(e, k) -/
set_option maxHeartbeats 400000 in
set_option maxRecDepth 100000 in
theorem c_text_in (l : Launch) (g : hp_G) (z0 N : Nat) (ad : Nat → Nat) (F : Nat → va_E) (hN : 87 ≤ N) (rs : Nat → List Int32) (kn op : Nat → Bool) (fp lm me dp wh te nu en : Int32) (hS : vSt g ad F rs kn op fp lm me dp wh te nu en) (i : Nat) (hi : i < 26) (k : Int32) : hp_Ml l g z0 N ad y_D_text ws_D_text (rk 1) [.ref (ad 0), .int (nI i), .int k] F (fun v F' => v = (if kn i = true then md_word (rs (9 + 3 * i)) k else -1) ∧ F' = F) := by
  refine hp_enter (cc := cc_D_text) (maxL := 4) (ret := (some .long)) (by decide) rfl (Nat.le_of_ble_eq_true rfl) ?_
  intro p e s m below meth c S hr hlk hnm hK hW ls hl
  have hl : lv_has ls 4 [(0, .ref (ad 0)), (1, .int (nI i)), (2, .int k)] := hl
  obtain ⟨hx, hb, hml, hown, hts⟩ := id S
  have in_kD : ∀ w ∈ u_ws R_D T_D 9, w ∈ ws_D_text := fun w h => List.mem_cons_of_mem _ (in0_D w h)
  have in_kE : ∀ w ∈ u_ws R_E T_E 3, w ∈ ws_D_text := fun w h => List.mem_cons_of_mem _ (in0_E w h)
  refine lv_aload_n hx hb d_D_text_0 rfl (lv_at hl 0 rfl) ?_
  refine lv_iload_n hx hb d_D_text_1 rfl (lv_at hl 1 rfl) ?_
  refine hp_goq hW (va_runV S (c_entityOf l g z0 N ad F hN rs kn op fp lm me dp wh te nu en hS (nI i)) (cwV 1 hts (tb_V cd_D_entityOf tq_26 tq_28 tq_29 tq_27) rfl rfl rfl hd_D_entityOf (rk_ok (by omega) (by omega))) (hp_preV hK hW (by omega) rfl hS.1 rfl) rfl rfl hl.1 rfl (lv_room (Nat.le_of_ble_eq_true rfl)) d_D_text_2 ⟨Nat.zero_le _, Nat.zero_le _⟩) (fun r_1 F_2 H locs hw hW => ?_)
  obtain ⟨hv, hF⟩ := hw
  rw [hF] at hW
  rw [hv, entA_in hi, va_rf_some]
  refine lv_astore_n (lv' := [(3, .ref (ad (8 + 3 * i))), (0, .ref (ad 0)), (1, .int (nI i)), (2, .int k)]) hx hb d_D_text_5 rfl hl (by decide) rfl (fun ls hl => ?_)
  refine lv_aload_n hx hb d_D_text_6 rfl (lv_at hl 0 rfl) ?_
  refine lv_ifnull hx hb d_D_text_7 ?_
  refine lv_aload_n hx hb d_D_text_10 rfl (lv_at hl 0 rfl) ?_
  refine hp_getN S hK hW (8 + 3 * i) (by omega) rfl (hS.2.2.2.1 i (by omega)) rfl in_kE 1 (by decide) (List.mem_of_getElem? (i := 1) rfl) rfl d_D_text_11 ?_
  refine lv_if_ne (tgt := 23) hx hb d_D_text_14 (by decide) (fun c_14 => ?_) (fun c_14 => ?_)
  · have c_14i := c_14
    refine lv_aload_n hx hb d_D_text_23 rfl (lv_at hl 0 rfl) ?_
    refine hp_getN S hK hW (8 + 3 * i) (by omega) rfl (hS.2.2.2.1 i (by omega)) rfl in_kE 0 (by decide) (List.mem_of_getElem? (i := 0) rfl) rfl d_D_text_24 ?_
    refine lv_iload_n hx hb d_D_text_27 rfl (lv_at hl 3 rfl) ?_
    refine hp_gol hW (va_runV S (s_wordAt l g z0 N ad F hN rs kn op fp lm me dp wh te nu en hS (9 + 3 * i) (rowp_e hi) k) (cwV 1 hts (tb_V cd_R_wordAt tq_49 tq_50 tq_51 tq_3) rfl rfl rfl hd_R_wordAt (rk_ok (by omega) (by omega))) (hp_preV hK hW (by omega) rfl (hS.row (rowp_e hi)).obj rfl) rfl rfl hl.1 rfl (lv_room (Nat.le_of_ble_eq_true rfl)) d_D_text_28 ⟨Nat.zero_le _, Nat.zero_le _⟩) (fun r_3 F_4 H locs hw hW => ?_)
    obtain ⟨hvq, hFq⟩ := hw
    rw [hFq] at hW
    rw [hvq]
    exact hp_retl S hK hW hr hlk d_D_text_31 (⟨by rw [if_pos (b2_n0.mp c_14i)], rfl⟩)
  · have c_14i := c_14
    refine lv_ldc2 (v := (-1)) hx hb hown (hts _ (List.mem_cons_of_mem _ tq_52)) d_D_text_17 ?_
    refine lv_goto (tgt := 31) hx hb d_D_text_20 (by decide) ?_
    exact hp_retl S hK hW hr hlk d_D_text_31 (⟨by rw [if_neg (by rw [b2_0.mp c_14i]; exact fun q => by cases q)], rfl⟩)

/-! clear: its loop -/
set_option maxHeartbeats 400000 in
set_option maxRecDepth 100000 in
theorem lp_clear {p : Program} {e : Env} {s : State} {m : MethodId} {args : Array Value} {below : List Frame} {meth : Method} {c : Code} (l : Launch) (g : hp_G) (z0 N : Nat) (ad : Nat → Nat)  (Fz : Nat → va_E) (hN : 87 ≤ N) (rs : Nat → List Int32) (kn op : Nat → Bool) (fp lm me dp wh te nu en : Int32)  (x1 : Int32) (hx1 : x1 = nI (md_kn kn 26)) (S : CallFix p m c cc_D_clear 3 s args ws_D_clear R_D) (hr : meth.sig.returnType = (some .int)) (hlk : meth.locks = false) (hK : hp_K g s) : ∀ (j : Nat) (i : Nat) (F : Nat → va_E), i ≤ 26 → 27 ≤ i + j → vSt g ad F rs (clr kn i) op fp lm me dp wh te nu en → vFr Fz F → ∀ (H : Heap) (locs : List Loc) (ls : Array Slot), hp_W g z0 N ad F s.heap H locs → lv_has ls 3 [(0, .ref (ad 0)), (1, .int x1), (2, .int (nI i))] → W p l e (rk 1) s m args below meth c H locs 0 0 (MQ below (va_Qi (fun v F' => v = nI (md_kn kn 26) ∧ vSt g ad F' rs (clr kn 26) op fp lm me dp wh te nu en ∧ vFr Fz F') (hp_B g z0 N ad) (hp_A z0)) args s 0 0 (hp_A z0)) (F0 m 7 ls []) := by
  obtain ⟨hx, hb, hml, hown, hts⟩ := id S
  have in_kD : ∀ w ∈ u_ws R_D T_D 9, w ∈ ws_D_clear := fun w h => List.mem_cons_of_mem _ (in0_D w h)
  have in_kE : ∀ w ∈ u_ws R_E T_E 3, w ∈ ws_D_clear := fun w h => List.mem_cons_of_mem _ (in0_E w h)
  intro j
  induction j with
  | zero =>
    intro i F hi hj hS hfr H locs ls hW hl
    exact absurd hj (by omega)
  | succ j ih =>
    intro i F hi hj hS hfr H locs ls hW hl
    obtain ⟨fe, h7, h7b⟩ := hS.2.2.1
    refine lv_iload_n hx hb d_D_clear_7 rfl (lv_at hl 2 rfl) ?_
    refine lv_bipush (v := 26) hx hb d_D_clear_8 (by decide) ?_
    refine lv_icmp_ge (tgt := 29) hx hb d_D_clear_10 (by decide) (fun c_10 => ?_) (fun c_10 => ?_)
    · have c_10i := c_10
      replace c_10 : 26 ≤ i := (nI_leI (a := 26) (b := i) (by omega) (by omega)).mp c_10
      refine lv_iload_n hx hb d_D_clear_29 rfl (lv_at hl 1 rfl) ?_
      exact hp_reti S hK hW hr hlk d_D_clear_30 (⟨hx1, by rw [show (26 : Nat) = i by omega]; exact hS, hfr⟩)
    · have c_10i := c_10
      replace c_10 : ¬ 26 ≤ i := fun zz9 => c_10 ((nI_leI (a := 26) (b := i) (by omega) (by omega)).mpr zz9)
      refine lv_aload_n hx hb d_D_clear_13 rfl (lv_at hl 0 rfl) ?_
      refine hp_get S hK hW (0) (by omega) rfl hS.1 rfl in_kD 3 (by decide) (hts _ (List.mem_cons_of_mem _ tq_10)) rfl d_D_clear_14 ?_
      refine lv_iload_n hx hb d_D_clear_17 rfl (lv_at hl 2 rfl) ?_
      refine hp_aald S hK hW (7) 1 (by omega) rfl h7 rfl (vp_in_nI (by omega) (by omega)) d_D_clear_18 ?_
      rw [show fe ((nI i) : Int32).toNatClampNeg = some (ad (8 + 3 * i)) from (by rw [nI_clamp (by omega)]; exact h7b i (by omega)), va_rf_some]
      refine lv_iconst (v := 0) hx hb d_D_clear_19 (by decide) ?_
      refine hp_putN S hK hW (8 + 3 * i) (by omega) rfl (hS.2.2.2.1 i (by omega)) rfl in_kE tyok_E nm_E 1 (by decide) (List.mem_of_getElem? (i := 1) rfl) rfl rfl rfl (Nat.le_of_ble_eq_true rfl) d_D_clear_20 (fun H locs hW => ?_)
      obtain ⟨F_1, eF_1⟩ : ∃ z, z = va_up F (8 + 3 * i) (.inr (kE, [.ref (ad (9 + 3 * i)), .int 0, .int (b2 (op i))])) := ⟨_, rfl⟩
      replace hW : hp_W g z0 N ad F_1 s.heap H locs := by rw [eF_1]; exact hW
      have f_2 : F_1 (0) = .inr (kD, [.ref (ad 1), .ref (ad 3), .ref (ad 5), .ref (ad 7), .ref (ad 86), .int fp, .int lm, .int me, .int dp]) := by rw [eF_1, va_up_ne _ _ (by omega)]; exact hS.1
      have f_3 : F_1 (86) = .inr (kF, [.int wh, .int te, .int nu, .int en]) := by rw [eF_1, va_up_ne _ _ (by omega)]; exact hS.2.2.2.2
      have f_4 : F_1 (7) = .inl (g.2 1, 26, .inr (.inr (.inr (.inr fe)))) := by rw [eF_1, va_up_ne _ _ (by omega)]; exact h7
      have f_5 : F_1 (8 + 3 * i) = .inr (kE, [.ref (ad (9 + 3 * i)), .int 0, .int (b2 (op i))]) := by rw [eF_1, va_up_self]
      refine lv_iinc (v := (nI (i + 1))) (lv' := [(2, .int (nI (i + 1))), (0, .ref (ad 0)), (1, .int x1)]) hx hb d_D_clear_23 hl (k := 2) rfl ((nI_succ (i)).symm) (by decide) rfl (fun ls hl => ?_)
      refine lv_goto (tgt := 7) hx hb d_D_clear_26 (by decide) ?_
      have hS1 := hS.setEnt (k := i) (by omega) (u := false) (v := op i) f_5 (fun x hx => by rw [eF_1, va_up_ne _ _ hx])
      rw [clr_s, va_up_eta] at hS1
      exact ih (i + 1) F_1 (by omega) (by omega) hS1 (fun x hx => by rw [eF_1, va_up_ne _ _ (by omega)]; exact hfr x hx) H locs ls hW (lv_sub hl [1, 2, 0] rfl)

/-! clear() -/
set_option maxHeartbeats 400000 in
set_option maxRecDepth 100000 in
theorem c_clear (l : Launch) (g : hp_G) (z0 N : Nat) (ad : Nat → Nat) (F : Nat → va_E) (hN : 87 ≤ N) (rs : Nat → List Int32) (kn op : Nat → Bool) (fp lm me dp wh te nu en : Int32) (hS : vSt g ad F rs kn op fp lm me dp wh te nu en) : hp_Mi l g z0 N ad y_D_clear ws_D_clear (rk 1) [.ref (ad 0)] F (fun v F' => v = nI (md_kn kn 26) ∧ vSt g ad F' rs (clr kn 26) op fp lm me dp wh te nu en ∧ vFr F F') := by
  refine hp_enter (cc := cc_D_clear) (maxL := 3) (ret := (some .int)) (by decide) rfl (Nat.le_of_ble_eq_true rfl) ?_
  intro p e s m below meth c S hr hlk hnm hK hW ls hl
  have hl : lv_has ls 3 [(0, .ref (ad 0))] := hl
  obtain ⟨hx, hb, hml, hown, hts⟩ := id S
  have in_kD : ∀ w ∈ u_ws R_D T_D 9, w ∈ ws_D_clear := fun w h => List.mem_cons_of_mem _ (in0_D w h)
  refine lv_aload_n hx hb d_D_clear_0 rfl (lv_at hl 0 rfl) ?_
  refine hp_goi hW (va_runV S (c_known l g z0 N ad F hN rs kn op fp lm me dp wh te nu en hS) (cwV 0 hts (tb_V cd_D_known tq_53 tq_54 tq_55 tq_27) rfl rfl rfl hd_D_known (rk_ok (by omega) (by omega))) (hp_preV hK hW (by omega) rfl hS.1 rfl) rfl rfl hl.1 rfl (lv_room (Nat.le_of_ble_eq_true rfl)) d_D_clear_1 ⟨Nat.zero_le _, Nat.zero_le _⟩) (fun r_1 F_2 H locs hw hW => ?_)
  obtain ⟨hvq, hFq⟩ := hw
  rw [hFq] at hW
  rw [hvq]
  refine lv_istore_n (lv' := [(1, .int (nI (md_kn kn 26))), (0, .ref (ad 0))]) hx hb d_D_clear_4 rfl hl (by decide) rfl (fun ls hl => ?_)
  refine lv_iconst (v := 0) hx hb d_D_clear_5 (by decide) ?_
  refine lv_istore_n (lv' := [(2, .int 0), (1, .int (nI (md_kn kn 26))), (0, .ref (ad 0))]) hx hb d_D_clear_6 rfl hl (by decide) rfl (fun ls hl => ?_)
  exact lp_clear l g z0 N ad F hN rs kn op fp lm me dp wh te nu en _ rfl S hr hlk hK 27 0 F (by omega) (by omega) (by rw [clr_0]; exact hS) vFr.rf _ _ ls hW (lv_sub hl [2, 1, 0] rfl)

def md_ct (rs : Nat → List Int32) (kn : Nat → Bool) (me dp x : Int32) : Int32 := if x = 0 then nI (rs 1).length else if x = 1 then nI (md_kn kn 26) else if x = 2 then nI (rs 5).length else if x = 3 then me else if x = 4 then dp else -1
theorem ct_out {rs : Nat → List Int32} {kn : Nat → Bool} {me dp x : Int32} (h : x.toInt < 0 ∨ 4 < x.toInt) : md_ct rs kn me dp x = -1 := by
  have no : ∀ k : Int32, 0 ≤ k.toInt → k.toInt ≤ 4 → ¬ x = k := fun k h0 h4 e => by subst e; omega
  unfold md_ct
  rw [if_neg (no 0 (by decide) (by decide)), if_neg (no 1 (by decide) (by decide)), if_neg (no 2 (by decide) (by decide)), if_neg (no 3 (by decide) (by decide)), if_neg (no 4 (by decide) (by decide))]

/-! count(what) -/
set_option maxHeartbeats 400000 in
set_option maxRecDepth 100000 in
theorem c_count (l : Launch) (g : hp_G) (z0 N : Nat) (ad : Nat → Nat) (F : Nat → va_E) (hN : 87 ≤ N) (rs : Nat → List Int32) (kn op : Nat → Bool) (fp lm me dp wh te nu en : Int32) (hS : vSt g ad F rs kn op fp lm me dp wh te nu en) (x : Int32) : hp_Mi l g z0 N ad y_D_count ws_D_count (rk 1) [.ref (ad 0), .int x] F (fun v F' => v = md_ct rs kn me dp x ∧ F' = F) := by
  refine hp_enter (cc := cc_D_count) (maxL := 2) (ret := (some .int)) (by decide) rfl (Nat.le_of_ble_eq_true rfl) ?_
  intro p e s m below meth c S hr hlk hnm hK hW ls hl
  have hl : lv_has ls 2 [(0, .ref (ad 0)), (1, .int x)] := hl
  obtain ⟨hx, hb, hml, hown, hts⟩ := id S
  have in_kD : ∀ w ∈ u_ws R_D T_D 9, w ∈ ws_D_count := fun w h => List.mem_cons_of_mem _ (in0_D w h)
  refine lv_iload_n hx hb d_D_count_0 rfl (lv_at hl 1 rfl) ?_
  rcases i5 x with rfl | rfl | rfl | rfl | rfl | hx5
  · refine lv_tableIn (tgt := 36) hx hb d_D_count_1 (by decide) (by decide) rfl (by decide) ?_
    refine lv_aload_n hx hb d_D_count_36 rfl (lv_at hl 0 rfl) ?_
    refine hp_get S hK hW (0) (by omega) rfl hS.1 rfl in_kD 0 (by decide) (hts _ (List.mem_cons_of_mem _ tq_6)) rfl d_D_count_37 ?_
    refine hp_goi hW (va_runV S (s_size l g z0 N ad F hN rs kn op fp lm me dp wh te nu en hS 1 rowp_1) (cwV 0 hts (tb_V cd_R_size tq_20 tq_21 tq_22 tq_3) rfl rfl rfl hd_R_size (rk_ok (by omega) (by omega))) (hp_preV hK hW (by omega) rfl (hS.row rowp_1).obj rfl) rfl rfl hl.1 rfl (lv_room (Nat.le_of_ble_eq_true rfl)) d_D_count_40 ⟨Nat.zero_le _, Nat.zero_le _⟩) (fun r_1 F_2 H locs hw hW => ?_)
    obtain ⟨hvq, hFq⟩ := hw
    rw [hFq] at hW
    rw [hvq]
    exact hp_reti S hK hW hr hlk d_D_count_43 (⟨rfl, rfl⟩)
  · refine lv_tableIn (tgt := 44) hx hb d_D_count_1 (by decide) (by decide) rfl (by decide) ?_
    refine lv_aload_n hx hb d_D_count_44 rfl (lv_at hl 0 rfl) ?_
    refine hp_goi hW (va_runV S (c_known l g z0 N ad F hN rs kn op fp lm me dp wh te nu en hS) (cwV 0 hts (tb_V cd_D_known tq_53 tq_54 tq_55 tq_27) rfl rfl rfl hd_D_known (rk_ok (by omega) (by omega))) (hp_preV hK hW (by omega) rfl hS.1 rfl) rfl rfl hl.1 rfl (lv_room (Nat.le_of_ble_eq_true rfl)) d_D_count_45 ⟨Nat.zero_le _, Nat.zero_le _⟩) (fun r_3 F_4 H locs hw hW => ?_)
    obtain ⟨hvq, hFq⟩ := hw
    rw [hFq] at hW
    rw [hvq]
    exact hp_reti S hK hW hr hlk d_D_count_48 (⟨rfl, rfl⟩)
  · refine lv_tableIn (tgt := 49) hx hb d_D_count_1 (by decide) (by decide) rfl (by decide) ?_
    refine lv_aload_n hx hb d_D_count_49 rfl (lv_at hl 0 rfl) ?_
    refine hp_get S hK hW (0) (by omega) rfl hS.1 rfl in_kD 2 (by decide) (hts _ (List.mem_cons_of_mem _ tq_8)) rfl d_D_count_50 ?_
    refine hp_goi hW (va_runV S (s_size l g z0 N ad F hN rs kn op fp lm me dp wh te nu en hS 5 rowp_5) (cwV 0 hts (tb_V cd_R_size tq_20 tq_21 tq_22 tq_3) rfl rfl rfl hd_R_size (rk_ok (by omega) (by omega))) (hp_preV hK hW (by omega) rfl (hS.row rowp_5).obj rfl) rfl rfl hl.1 rfl (lv_room (Nat.le_of_ble_eq_true rfl)) d_D_count_53 ⟨Nat.zero_le _, Nat.zero_le _⟩) (fun r_5 F_6 H locs hw hW => ?_)
    obtain ⟨hvq, hFq⟩ := hw
    rw [hFq] at hW
    rw [hvq]
    exact hp_reti S hK hW hr hlk d_D_count_56 (⟨rfl, rfl⟩)
  · refine lv_tableIn (tgt := 57) hx hb d_D_count_1 (by decide) (by decide) rfl (by decide) ?_
    refine lv_aload_n hx hb d_D_count_57 rfl (lv_at hl 0 rfl) ?_
    refine hp_get S hK hW (0) (by omega) rfl hS.1 rfl in_kD 7 (by decide) (hts _ (List.mem_cons_of_mem _ tq_41)) rfl d_D_count_58 ?_
    exact hp_reti S hK hW hr hlk d_D_count_61 (⟨rfl, rfl⟩)
  · refine lv_tableIn (tgt := 62) hx hb d_D_count_1 (by decide) (by decide) rfl (by decide) ?_
    refine lv_aload_n hx hb d_D_count_62 rfl (lv_at hl 0 rfl) ?_
    refine hp_get S hK hW (0) (by omega) rfl hS.1 rfl in_kD 8 (by decide) (hts _ (List.mem_cons_of_mem _ tq_42)) rfl d_D_count_63 ?_
    exact hp_reti S hK hW hr hlk d_D_count_66 (⟨rfl, rfl⟩)
  · refine lv_tableOut (tgt := 67) hx hb d_D_count_1 hx5 (by decide) ?_
    refine lv_iconst (v := (-1)) hx hb d_D_count_67 (by decide) ?_
    exact hp_reti S hK hW hr hlk d_D_count_68 (⟨(ct_out hx5).symm, rfl⟩)
