theorem take_s {xs : List Int32} {t : Nat} (h : t < xs.length) : xs.take t ++ [md_at xs t] = xs.take (t + 1) := by
  rw [md_at_lt h]
  exact List.take_append_getElem h

/-! learn: its loop -/
set_option maxHeartbeats 400000 in
set_option maxRecDepth 100000 in
theorem lp_learn {p : Program} {e : Env} {s : State} {m : MethodId} {args : Array Value} {below : List Frame} {meth : Method} {c : Code} (l : Launch) (g : hp_G) (z0 N : Nat) (ad : Nat → Nat)  (Fz : Nat → va_E) (hN : 87 ≤ N) (rs : Nat → List Int32) (kn op : Nat → Bool) (fp lm me dp wh te nu en : Int32) (i : Nat) (hi : i < 26) (hlen : (rs 3).length ≤ 100) (S : CallFix p m c cc_E_learn 3 s args ws_E_learn R_E) (hr : meth.sig.returnType = none) (hlk : meth.locks = false) (hK : hp_K g s) : ∀ (j : Nat) (t : Nat) (F : Nat → va_E), t ≤ (rs 3).length → (rs 3).length + 1 ≤ t + j → vSt g ad F (va_up rs (9 + 3 * i) ((rs 3).take t)) kn op fp lm me dp wh te nu en → vFr Fz F → ∀ (H : Heap) (locs : List Loc) (ls : Array Slot), hp_W g z0 N ad F s.heap H locs → lv_has ls 3 [(0, .ref (ad (8 + 3 * i))), (1, .ref (ad 3)), (2, .int (nI t))] → W p l e (rk 1) s m args below meth c H locs 0 0 (MQ below (va_Qv (fun F' => vSt g ad F' (va_up rs (9 + 3 * i) (rs 3)) (va_up kn i true) op fp lm me dp wh te nu en ∧ vFr Fz F') (hp_B g z0 N ad) (hp_A z0)) args s 0 0 (hp_A z0)) (F0 m 9 ls []) := by
  obtain ⟨hx, hb, hml, hown, hts⟩ := id S
  have in_kE : ∀ w ∈ u_ws R_E T_E 3, w ∈ ws_E_learn := fun w h => List.mem_cons_of_mem _ (in0_E w h)
  have in_kR : ∀ w ∈ u_ws R_R T_R 2, w ∈ ws_E_learn := fun w h => List.mem_cons_of_mem _ (in0_R w h)
  intro j
  induction j with
  | zero =>
    intro t F ht hj hS hfr H locs ls hW hl
    exact absurd hj (by omega)
  | succ j ih =>
    intro t F ht hj hS hfr H locs ls hW hl
    refine lv_iload_n hx hb d_E_learn_9 rfl (lv_at hl 2 rfl) ?_
    refine lv_aload_n hx hb d_E_learn_10 rfl (lv_at hl 1 rfl) ?_
    refine hp_goi hW (va_runV S (s_size l g z0 N ad F hN (va_up rs (9 + 3 * i) ((rs 3).take t)) kn op fp lm me dp wh te nu en hS 3 rowp_3) (cwV 0 hts (tb_V cd_R_size tq_170 tq_21 tq_22 tq_3) rfl rfl rfl hd_R_size (rk_ok (by omega) (by omega))) (hp_preV hK hW (by omega) rfl (hS.row rowp_3).obj rfl) rfl rfl hl.1 rfl (lv_room (Nat.le_of_ble_eq_true rfl)) d_E_learn_11 ⟨Nat.zero_le _, Nat.zero_le _⟩) (fun r_1 F_2 H locs hw hW => ?_)
    obtain ⟨hvq, hFq⟩ := hw
    rw [hFq] at hW
    rw [hvq]
    rw [(show (va_up rs (9 + 3 * i) ((rs 3).take t)) 3 = rs 3 from va_up_ne _ _ (by omega))]
    refine lv_icmp_ge (tgt := 36) hx hb d_E_learn_14 (by decide) (fun c_14 => ?_) (fun c_14 => ?_)
    · have c_14i := c_14
      replace c_14 : (rs 3).length ≤ t := (nI_leI (a := (rs 3).length) (b := t) (by omega) (by omega)).mp c_14
      refine lv_aload_n hx hb d_E_learn_36 rfl (lv_at hl 0 rfl) ?_
      refine lv_iconst (v := 1) hx hb d_E_learn_37 (by decide) ?_
      refine hp_put S hK hW (8 + 3 * i) (by omega) rfl (hS.2.2.2.1 i hi) rfl in_kE tyok_E nm_E 1 (by decide) (hts _ (List.mem_cons_of_mem _ tq_173)) rfl rfl rfl (Nat.le_of_ble_eq_true rfl) d_E_learn_38 (fun H locs hW => ?_)
      obtain ⟨F_3, eF_3⟩ : ∃ z, z = va_up F (8 + 3 * i) (.inr (kE, [.ref (ad (9 + 3 * i)), .int 1, .int (b2 (op i))])) := ⟨_, rfl⟩
      replace hW : hp_W g z0 N ad F_3 s.heap H locs := by rw [eF_3]; exact hW
      have f_4 : F_3 (8 + 3 * i) = .inr (kE, [.ref (ad (9 + 3 * i)), .int 1, .int (b2 (op i))]) := by rw [eF_3, va_up_self]
      have f_5 : F_3 (3) = .inr (kR, [.ref (ad (3 + 1)), .int (nI ((va_up rs (9 + 3 * i) ((rs 3).take t)) (3)).length)]) := by rw [eF_3, va_up_ne _ _ (by omega)]; exact (hS.row rowp_3).obj
      have f_6 : F_3 (9 + 3 * i) = .inr (kR, [.ref (ad (9 + 3 * i + 1)), .int (nI ((va_up rs (9 + 3 * i) ((rs 3).take t)) (9 + 3 * i)).length)]) := by rw [eF_3, va_up_ne _ _ (by omega)]; exact (hS.row (rowp_e hi)).obj
      have et : t = (rs 3).length := by omega
      subst et
      exact hp_retv S hK hW hr hlk d_E_learn_41 (⟨by have := hS.setEnt (k := i) hi (u := true) (v := op i) f_4 (fun x hx => by rw [eF_3, va_up_ne _ _ hx]); rw [va_up_eta, List.take_length] at this; exact this, hfr.tr (fun x hx => by rw [eF_3, va_up_ne _ _ (by omega)])⟩)
    · have c_14i := c_14
      replace c_14 : ¬ (rs 3).length ≤ t := fun zz9 => c_14 ((nI_leI (a := (rs 3).length) (b := t) (by omega) (by omega)).mpr zz9)
      refine lv_aload_n hx hb d_E_learn_17 rfl (lv_at hl 0 rfl) ?_
      refine hp_get S hK hW (8 + 3 * i) (by omega) rfl (hS.2.2.2.1 i hi) rfl in_kE 0 (by decide) (hts _ (List.mem_cons_of_mem _ tq_168)) rfl d_E_learn_18 ?_
      refine lv_aload_n hx hb d_E_learn_21 rfl (lv_at hl 1 rfl) ?_
      refine lv_iload_n hx hb d_E_learn_22 rfl (lv_at hl 2 rfl) ?_
      refine hp_goi hW (va_runV S (s_at l g z0 N ad F hN (va_up rs (9 + 3 * i) ((rs 3).take t)) kn op fp lm me dp wh te nu en hS 3 rowp_3 t (by omega)) (cwV 1 hts (tb_V cd_R_at tq_171 tq_60 tq_61 tq_3) rfl rfl rfl hd_R_at (rk_ok (by omega) (by omega))) (hp_preV hK hW (by omega) rfl (hS.row rowp_3).obj rfl) rfl rfl hl.1 rfl (lv_room (Nat.le_of_ble_eq_true rfl)) d_E_learn_23 ⟨Nat.zero_le _, Nat.zero_le _⟩) (fun r_7 F_8 H locs hw hW => ?_)
      obtain ⟨hvq, hFq⟩ := hw
      rw [hFq] at hW
      rw [hvq]
      rw [(show (va_up rs (9 + 3 * i) ((rs 3).take t)) 3 = rs 3 from va_up_ne _ _ (by omega))]
      refine hp_goi hW (va_runV S (s_add l g z0 N ad F hN (va_up rs (9 + 3 * i) ((rs 3).take t)) kn op fp lm me dp wh te nu en hS (9 + 3 * i) (rowp_e hi) (md_at (rs 3) t)) (cwV 1 hts (tb_V cd_R_add tq_172 tq_24 tq_25 tq_3) rfl rfl rfl hd_R_add (rk_ok (by omega) (by omega))) (hp_preV hK hW (by omega) rfl (hS.row (rowp_e hi)).obj rfl) rfl rfl hl.1 rfl (lv_room (Nat.le_of_ble_eq_true rfl)) d_E_learn_26 ⟨Nat.zero_le _, Nat.zero_le _⟩) (fun r_9 F_10 H locs hw hW => ?_)
      obtain ⟨hv1, hS1, hf1⟩ := hw
      rw [hv1]
      refine lv_pop hx hb d_E_learn_29 rfl ?_
      refine lv_iinc (v := (nI (t + 1))) (lv' := [(2, .int (nI (t + 1))), (0, .ref (ad (8 + 3 * i))), (1, .ref (ad 3))]) hx hb d_E_learn_30 hl (k := 2) rfl ((nI_succ (t)).symm) (by decide) rfl (fun ls hl => ?_)
      refine lv_goto (tgt := 9) hx hb d_E_learn_33 (by decide) ?_
      have hX : (md_ad (cap (9 + 3 * i)) ((va_up rs (9 + 3 * i) ((rs 3).take t)) (9 + 3 * i)) (md_at (rs 3) t)) = ((rs 3).take (t + 1), 0) := by rw [va_up_self, cap_e]; exact (if_pos (by rw [List.length_take]; omega)).trans (by rw [take_s (by omega)])
      rw [hX, up_up] at hS1
      exact ih (t + 1) F_10 (by omega) (by omega) hS1 (hfr.tr hf1) H locs ls hW (lv_sub hl [1, 2, 0] rfl)

/-! Entity.learn(draft) -/
set_option maxHeartbeats 400000 in
set_option maxRecDepth 100000 in
theorem c_learn (l : Launch) (g : hp_G) (z0 N : Nat) (ad : Nat → Nat) (F : Nat → va_E) (hN : 87 ≤ N) (rs : Nat → List Int32) (kn op : Nat → Bool) (fp lm me dp wh te nu en : Int32) (hS : vSt g ad F rs kn op fp lm me dp wh te nu en) (i : Nat) (hi : i < 26) (hlen : (rs 3).length ≤ 100) : hp_Mv l g z0 N ad y_E_learn ws_E_learn (rk 1) [.ref (ad (8 + 3 * i)), .ref (ad 3)] F (fun F' => vSt g ad F' (va_up rs (9 + 3 * i) (rs 3)) (va_up kn i true) op fp lm me dp wh te nu en ∧ vFr F F') := by
  refine hp_enter (cc := cc_E_learn) (maxL := 3) (ret := none) (by decide) rfl (Nat.le_of_ble_eq_true rfl) ?_
  intro p e s m below meth c S hr hlk hnm hK hW ls hl
  have hl : lv_has ls 3 [(0, .ref (ad (8 + 3 * i))), (1, .ref (ad 3))] := hl
  obtain ⟨hx, hb, hml, hown, hts⟩ := id S
  have in_kE : ∀ w ∈ u_ws R_E T_E 3, w ∈ ws_E_learn := fun w h => List.mem_cons_of_mem _ (in0_E w h)
  have in_kR : ∀ w ∈ u_ws R_R T_R 2, w ∈ ws_E_learn := fun w h => List.mem_cons_of_mem _ (in0_R w h)
  refine lv_aload_n hx hb d_E_learn_0 rfl (lv_at hl 0 rfl) ?_
  refine hp_get S hK hW (8 + 3 * i) (by omega) rfl (hS.2.2.2.1 i hi) rfl in_kE 0 (by decide) (hts _ (List.mem_cons_of_mem _ tq_168)) rfl d_E_learn_1 ?_
  refine hp_gov hW (va_runV S (s_empty l g z0 N ad F hN rs kn op fp lm me dp wh te nu en hS (9 + 3 * i) (rowp_e hi)) (cwV 0 hts (tb_V cd_R_empty tq_169 tq_34 tq_35 tq_3) rfl rfl rfl hd_R_empty (rk_ok (by omega) (by omega))) (hp_preV hK hW (by omega) rfl (hS.row (rowp_e hi)).obj rfl) rfl rfl hl.1 rfl (lv_room (Nat.le_of_ble_eq_true rfl)) d_E_learn_4 ⟨Nat.zero_le _, Nat.zero_le _⟩) (fun F_2 H locs hw hW => ?_)
  obtain ⟨hS1, hf1⟩ := hw
  refine lv_iconst (v := 0) hx hb d_E_learn_7 (by decide) ?_
  refine lv_istore_n (lv' := [(2, .int 0), (0, .ref (ad (8 + 3 * i))), (1, .ref (ad 3))]) hx hb d_E_learn_8 rfl hl (by decide) rfl (fun ls hl => ?_)
  exact lp_learn l g z0 N ad F hN rs kn op fp lm me dp wh te nu en i hi hlen S hr hlk hK ((rs 3).length + 1) 0 F_2 (by omega) (by omega) (by rw [List.take_zero]; exact hS1) hf1 _ _ ls hW (lv_sub hl [1, 2, 0] rfl)

/-! draftByte(q) -/
set_option maxHeartbeats 400000 in
set_option maxRecDepth 100000 in
theorem c_draftByte (l : Launch) (g : hp_G) (z0 N : Nat) (ad : Nat → Nat) (F : Nat → va_E) (hN : 87 ≤ N) (rs : Nat → List Int32) (kn op : Nat → Bool) (fp lm me dp wh te nu en : Int32) (hS : vSt g ad F rs kn op fp lm me dp wh te nu en) (q : Nat) (hq : q < 1000) : hp_Mi l g z0 N ad y_D_draftByte ws_D_draftByte (rk 2) [.ref (ad 0), .int (nI q)] F (fun v F' => v = nI (if md_ch (md_at (rs 1) q) = true then md_ad 100 (rs 3) (md_at (rs 1) q) else (rs 3, 1)).2 ∧ vSt g ad F' (va_up rs 3 (if md_ch (md_at (rs 1) q) = true then md_ad 100 (rs 3) (md_at (rs 1) q) else (rs 3, 1)).1) kn op (pf (if md_ch (md_at (rs 1) q) = true then md_ad 100 (rs 3) (md_at (rs 1) q) else (rs 3, 1)).2 fp (nI q)) lm me dp wh te nu en ∧ vFr F F') := by
  refine hp_enter (cc := cc_D_draftByte) (maxL := 3) (ret := (some .int)) (by decide) rfl (Nat.le_of_ble_eq_true rfl) ?_
  intro p e s m below meth c S hr hlk hnm hK hW ls hl
  have hl : lv_has ls 3 [(0, .ref (ad 0)), (1, .int (nI q))] := hl
  obtain ⟨hx, hb, hml, hown, hts⟩ := id S
  have in_kD : ∀ w ∈ u_ws R_D T_D 9, w ∈ ws_D_draftByte := fun w h => List.mem_cons_of_mem _ (in0_D w h)
  refine lv_aload_n hx hb d_D_draftByte_0 rfl (lv_at hl 0 rfl) ?_
  refine hp_get S hK hW (0) (by omega) rfl hS.1 rfl in_kD 0 (by decide) (hts _ (List.mem_cons_of_mem _ tq_6)) rfl d_D_draftByte_1 ?_
  refine lv_iload_n hx hb d_D_draftByte_4 rfl (lv_at hl 1 rfl) ?_
  refine hp_goi hW (va_runV S (s_at l g z0 N ad F hN rs kn op fp lm me dp wh te nu en hS 1 rowp_1 q (by omega)) (cwV 1 hts (tb_V cd_R_at tq_59 tq_60 tq_61 tq_3) rfl rfl rfl hd_R_at (rk_ok (by omega) (by omega))) (hp_preV hK hW (by omega) rfl (hS.row rowp_1).obj rfl) rfl rfl hl.1 rfl (lv_room (Nat.le_of_ble_eq_true rfl)) d_D_draftByte_5 ⟨Nat.zero_le _, Nat.zero_le _⟩) (fun r_1 F_2 H locs hw hW => ?_)
  obtain ⟨hvq, hFq⟩ := hw
  rw [hFq] at hW
  rw [hvq]
  refine lv_istore_n (lv' := [(2, .int (md_at (rs 1) q)), (0, .ref (ad 0)), (1, .int (nI q))]) hx hb d_D_draftByte_8 rfl hl (by decide) rfl (fun ls hl => ?_)
  refine lv_iload_n hx hb d_D_draftByte_9 rfl (lv_at hl 0 rfl) ?_
  refine hp_goi hW (va_runS S (c_isCharacter l g z0 N ad F ((md_at (rs 1) q))) (va_cwS 1 hts (tb_S cd_D_isCharacter tq_71 tq_72 tq_27) rfl rfl rfl hd_D_isCharacter.2 (rk_ok (by omega) (by omega))) (hp_preS hK hW) rfl rfl hl.1 rfl (lv_room (Nat.le_of_ble_eq_true rfl)) d_D_draftByte_10 ⟨Nat.zero_le _, Nat.zero_le _⟩) (fun r_3 F_4 H locs hw hW => ?_)
  obtain ⟨hvq, hFq⟩ := hw
  rw [hFq] at hW
  rw [hvq]
  refine lv_if_eq (tgt := 29) hx hb d_D_draftByte_13 (by decide) (fun c_13 => ?_) (fun c_13 => ?_)
  · have c_13i := c_13
    refine lv_aload_n hx hb d_D_draftByte_29 rfl (lv_at hl 1 rfl) ?_
    refine lv_iconst (v := 1) hx hb d_D_draftByte_30 (by decide) ?_
    refine lv_iload_n hx hb d_D_draftByte_31 rfl (lv_at hl 2 rfl) ?_
    refine hp_goi hW (va_runV S (c_fail l g z0 N ad F hN rs kn op fp lm me dp wh te nu en hS 1 (nI q)) (cwV 2 hts (tb_V cd_D_fail tq_56 tq_57 tq_58 tq_27) rfl rfl rfl hd_D_fail (rk_ok (by omega) (by omega))) (hp_preV hK hW (by omega) rfl hS.1 rfl) rfl rfl hl.1 rfl (lv_room (Nat.le_of_ble_eq_true rfl)) d_D_draftByte_32 ⟨Nat.zero_le _, Nat.zero_le _⟩) (fun r_5 F_6 H locs hw hW => ?_)
    obtain ⟨hv1, hS1, hf1⟩ := hw
    rw [hv1]
    have hX : (if md_ch (md_at (rs 1) q) = true then md_ad 100 (rs 3) (md_at (rs 1) q) else (rs 3, 1)) = (rs 3, 1) := if_neg (fun z => by rw [b2_0.mp c_13i] at z; cases z)
    exact hp_reti S hK hW hr hlk d_D_draftByte_35 (by rw [hX]; refine ⟨rfl, ?_, hf1⟩; show vSt g ad _ (va_up rs 3 (rs 3)) kn op (nI q) lm me dp wh te nu en; rw [va_up_eta]; exact hS1)
  · have c_13i := c_13
    refine lv_aload_n hx hb d_D_draftByte_16 rfl (lv_at hl 1 rfl) ?_
    refine lv_aload_n hx hb d_D_draftByte_17 rfl (lv_at hl 1 rfl) ?_
    refine hp_get S hK hW (0) (by omega) rfl hS.1 rfl in_kD 1 (by decide) (hts _ (List.mem_cons_of_mem _ tq_7)) rfl d_D_draftByte_18 ?_
    refine lv_iload_n hx hb d_D_draftByte_21 rfl (lv_at hl 0 rfl) ?_
    refine lv_iload_n hx hb d_D_draftByte_22 rfl (lv_at hl 2 rfl) ?_
    refine hp_goi hW (va_runV S (c_addTo l g z0 N ad F hN rs kn op fp lm me dp wh te nu en hS 3 rowp_3 (md_at (rs 1) q) (nI q)) (cwV 3 hts (tb_V cd_D_addTo tq_73 tq_74 tq_75 tq_27) rfl rfl rfl hd_D_addTo (rk_ok (by omega) (by omega))) (hp_preV hK hW (by omega) rfl hS.1 rfl) rfl rfl hl.1 rfl (lv_room (Nat.le_of_ble_eq_true rfl)) d_D_draftByte_23 ⟨Nat.zero_le _, Nat.zero_le _⟩) (fun r_7 F_8 H locs hw hW => ?_)
    obtain ⟨hv1, hS1, hf1⟩ := hw
    rw [hv1]
    refine lv_goto (tgt := 35) hx hb d_D_draftByte_26 (by decide) ?_
    have hX : (if md_ch (md_at (rs 1) q) = true then md_ad 100 (rs 3) (md_at (rs 1) q) else (rs 3, 1)) = md_ad 100 (rs 3) (md_at (rs 1) q) := if_pos (b2_n0.mp c_13i)
    exact hp_reti S hK hW hr hlk d_D_draftByte_35 (by rw [hX]; exact ⟨rfl, hS1, hf1⟩)

/-! draftAsItStands: its loop -/
set_option maxHeartbeats 400000 in
set_option maxRecDepth 100000 in
theorem lp_asItStands {p : Program} {e : Env} {s : State} {m : MethodId} {args : Array Value} {below : List Frame} {meth : Method} {c : Code} (l : Launch) (g : hp_G) (z0 N : Nat) (ad : Nat → Nat)  (Fz : Nat → va_E) (hN : 87 ≤ N) (rs : Nat → List Int32) (kn op : Nat → Bool) (fp lm me dp wh te nu en : Int32) (q : Nat) (hq : q < 1000) (xs a : List Int32) (hxs : rs 1 = xs) (S : CallFix p m c cc_D_draftAsItStands 4 s args ws_D_draftAsItStands R_D) (hr : meth.sig.returnType = (some .int)) (hlk : meth.locks = false) (hK : hp_K g s) : ∀ (j : Nat) (t : Nat) (F : Nat → va_E), t ≤ 3 → 4 ≤ t + j → vSt g ad F (va_up rs 3 (md_pre a (md_at xs q) (md_at xs (q + 1)) (md_at xs (q + 2)) t)) kn op fp lm me dp wh te nu en → vFr Fz F → ∀ (H : Heap) (locs : List Loc) (ls : Array Slot), hp_W g z0 N ad F s.heap H locs → lv_has ls 4 [(0, .ref (ad 0)), (1, .int (nI q)), (2, .int (nI (q + 3))), (3, .int (nI (q + t)))] → W p l e (rk 1) s m args below meth c H locs 0 0 (MQ below (va_Qi (fun v F' => v = nI (md_3 a (md_at xs q) (md_at xs (q + 1)) (md_at xs (q + 2))).2 ∧ (∃ d : List Int32, vSt g ad F' (va_up rs 3 d) kn op (pf (md_3 a (md_at xs q) (md_at xs (q + 1)) (md_at xs (q + 2))).2 fp (nI q)) lm me dp wh te nu en ∧ ((md_3 a (md_at xs q) (md_at xs (q + 1)) (md_at xs (q + 2))).2 = 0 → d = (md_3 a (md_at xs q) (md_at xs (q + 1)) (md_at xs (q + 2))).1)) ∧ vFr Fz F') (hp_B g z0 N ad) (hp_A z0)) args s 0 0 (hp_A z0)) (F0 m 2 ls []) := by
  obtain ⟨hx, hb, hml, hown, hts⟩ := id S
  have in_kD : ∀ w ∈ u_ws R_D T_D 9, w ∈ ws_D_draftAsItStands := fun w h => List.mem_cons_of_mem _ (in0_D w h)
  intro j
  induction j with
  | zero =>
    intro t F ht hj hS hfr H locs ls hW hl
    exact absurd hj (by omega)
  | succ j ih =>
    intro t F ht hj hS hfr H locs ls hW hl
    refine lv_iload_n hx hb d_D_draftAsItStands_2 rfl (lv_at hl 3 rfl) ?_
    refine lv_iload_n hx hb d_D_draftAsItStands_3 rfl (lv_at hl 2 rfl) ?_
    refine lv_icmp_ge (tgt := 39) hx hb d_D_draftAsItStands_4 (by decide) (fun c_4 => ?_) (fun c_4 => ?_)
    · have c_4i := c_4
      replace c_4 : (q + 3) ≤ (q + t) := (nI_leI (a := (q + 3)) (b := (q + t)) (by omega) (by omega)).mp c_4
      have hpl := md_pre_len (a := a) (x := md_at xs q) (y := md_at xs (q + 1)) (z := md_at xs (q + 2)) (t := t) (by omega)
      refine lv_iconst (v := 0) hx hb d_D_draftAsItStands_39 (by decide) ?_
      have et : t = 3 := by omega
      subst et
      have hcap := (hS.row rowp_3).len
      rw [cap_3, va_up_self, hpl] at hcap
      have hX : (md_3 a (md_at xs q) (md_at xs (q + 1)) (md_at xs (q + 2))) = (a ++ [md_at xs q, md_at xs (q + 1), md_at xs (q + 2)], 0) := if_pos hcap
      exact hp_reti S hK hW hr hlk d_D_draftAsItStands_40 (by rw [hX]; exact ⟨rfl, ⟨_, hS, fun _ => md_pre_3⟩, hfr⟩)
    · have c_4i := c_4
      replace c_4 : ¬ (q + 3) ≤ (q + t) := fun zz9 => c_4 ((nI_leI (a := (q + 3)) (b := (q + t)) (by omega) (by omega)).mpr zz9)
      have hpl := md_pre_len (a := a) (x := md_at xs q) (y := md_at xs (q + 1)) (z := md_at xs (q + 2)) (t := t) (by omega)
      refine lv_aload_n hx hb d_D_draftAsItStands_7 rfl (lv_at hl 0 rfl) ?_
      refine hp_get S hK hW (0) (by omega) rfl hS.1 rfl in_kD 1 (by decide) (hts _ (List.mem_cons_of_mem _ tq_7)) rfl d_D_draftAsItStands_8 ?_
      refine lv_aload_n hx hb d_D_draftAsItStands_11 rfl (lv_at hl 0 rfl) ?_
      refine hp_get S hK hW (0) (by omega) rfl hS.1 rfl in_kD 0 (by decide) (hts _ (List.mem_cons_of_mem _ tq_6)) rfl d_D_draftAsItStands_12 ?_
      refine lv_iload_n hx hb d_D_draftAsItStands_15 rfl (lv_at hl 3 rfl) ?_
      refine hp_goi hW (va_runV S (s_at l g z0 N ad F hN (va_up rs 3 (md_pre a (md_at xs q) (md_at xs (q + 1)) (md_at xs (q + 2)) t)) kn op fp lm me dp wh te nu en hS 1 rowp_1 (q + t) (by omega)) (cwV 1 hts (tb_V cd_R_at tq_59 tq_60 tq_61 tq_3) rfl rfl rfl hd_R_at (rk_ok (by omega) (by omega))) (hp_preV hK hW (by omega) rfl (hS.row rowp_1).obj rfl) rfl rfl hl.1 rfl (lv_room (Nat.le_of_ble_eq_true rfl)) d_D_draftAsItStands_16 ⟨Nat.zero_le _, Nat.zero_le _⟩) (fun r_1 F_2 H locs hw hW => ?_)
      obtain ⟨hvq, hFq⟩ := hw
      rw [hFq] at hW
      rw [hvq]
      rw [(show (va_up rs 3 (md_pre a (md_at xs q) (md_at xs (q + 1)) (md_at xs (q + 2)) t)) 1 = xs from (va_up_ne _ _ (by omega)).trans hxs)]
      refine hp_goi hW (va_runV S (s_add l g z0 N ad F hN (va_up rs 3 (md_pre a (md_at xs q) (md_at xs (q + 1)) (md_at xs (q + 2)) t)) kn op fp lm me dp wh te nu en hS 3 rowp_3 (md_at xs (q + t))) (cwV 1 hts (tb_V cd_R_add tq_23 tq_24 tq_25 tq_3) rfl rfl rfl hd_R_add (rk_ok (by omega) (by omega))) (hp_preV hK hW (by omega) rfl (hS.row rowp_3).obj rfl) rfl rfl hl.1 rfl (lv_room (Nat.le_of_ble_eq_true rfl)) d_D_draftAsItStands_19 ⟨Nat.zero_le _, Nat.zero_le _⟩) (fun r_3 F_4 H locs hw hW => ?_)
      obtain ⟨hv1, hS1, hf1⟩ := hw
      rw [hv1]
      refine lv_if_ne (tgt := 33) hx hb d_D_draftAsItStands_22 (by decide) (fun c_22 => ?_) (fun c_22 => ?_)
      · have c_22i := c_22
        have e3 : (va_up rs 3 (md_pre a (md_at xs q) (md_at xs (q + 1)) (md_at xs (q + 2)) t)) 3 = md_pre a (md_at xs q) (md_at xs (q + 1)) (md_at xs (q + 2)) t := va_up_self _ _ _
        have hlt := of_decide_eq_true (b2_n0.mp c_22i)
        rw [e3, hpl, cap_3] at hlt
        refine lv_iinc (v := (nI ((q + t) + 1))) (lv' := [(3, .int (nI ((q + t) + 1))), (0, .ref (ad 0)), (1, .int (nI q)), (2, .int (nI (q + 3)))]) hx hb d_D_draftAsItStands_33 hl (k := 3) rfl ((nI_succ ((q + t))).symm) (by decide) rfl (fun ls hl => ?_)
        refine lv_goto (tgt := 2) hx hb d_D_draftAsItStands_36 (by decide) ?_
        have hX : (md_ad (cap 3) ((va_up rs 3 (md_pre a (md_at xs q) (md_at xs (q + 1)) (md_at xs (q + 2)) t)) 3) (md_at xs (q + t))) = (md_pre a (md_at xs q) (md_at xs (q + 1)) (md_at xs (q + 2)) (t + 1), 0) := by rw [e3, md_pre_s (by omega)]; exact if_pos (by rw [hpl, cap_3]; omega)
        rw [hX, up_up] at hS1
        exact ih (t + 1) F_4 (by omega) (by omega) hS1 (hfr.tr hf1) H locs ls hW (lv_sub hl [1, 2, 3, 0] rfl)
      · have c_22i := c_22
        have e3 : (va_up rs 3 (md_pre a (md_at xs q) (md_at xs (q + 1)) (md_at xs (q + 2)) t)) 3 = md_pre a (md_at xs q) (md_at xs (q + 1)) (md_at xs (q + 2)) t := va_up_self _ _ _
        have hlt := of_decide_eq_false (b2_0.mp c_22i)
        rw [e3, hpl, cap_3] at hlt
        refine lv_aload_n hx hb d_D_draftAsItStands_25 rfl (lv_at hl 0 rfl) ?_
        refine lv_bipush (v := 8) hx hb d_D_draftAsItStands_26 (by decide) ?_
        refine lv_iload_n hx hb d_D_draftAsItStands_28 rfl (lv_at hl 1 rfl) ?_
        refine hp_goi hW (va_runV S (c_fail l g z0 N ad F_4 hN (va_up (va_up rs 3 (md_pre a (md_at xs q) (md_at xs (q + 1)) (md_at xs (q + 2)) t)) 3 (md_ad (cap 3) ((va_up rs 3 (md_pre a (md_at xs q) (md_at xs (q + 1)) (md_at xs (q + 2)) t)) 3) (md_at xs (q + t))).1) kn op fp lm me dp wh te nu en hS1 8 (nI q)) (cwV 2 hts (tb_V cd_D_fail tq_56 tq_57 tq_58 tq_27) rfl rfl rfl hd_D_fail (rk_ok (by omega) (by omega))) (hp_preV hK hW (by omega) rfl hS1.1 rfl) rfl rfl hl.1 rfl (lv_room (Nat.le_of_ble_eq_true rfl)) d_D_draftAsItStands_29 ⟨Nat.zero_le _, Nat.zero_le _⟩) (fun r_5 F_6 H locs hw hW => ?_)
        obtain ⟨hv2, hS2, hf2⟩ := hw
        rw [hv2]
        have hX : (md_3 a (md_at xs q) (md_at xs (q + 1)) (md_at xs (q + 2))) = (a, 8) := if_neg (by omega)
        rw [up_up] at hS2
        exact hp_reti S hK hW hr hlk d_D_draftAsItStands_32 (by rw [hX]; exact ⟨rfl, ⟨_, hS2, fun z => by cases z⟩, hfr.tr (hf1.tr hf2)⟩)

/-! draftAsItStands(q, q + 3) -/
set_option maxHeartbeats 400000 in
set_option maxRecDepth 100000 in
theorem c_asItStands (l : Launch) (g : hp_G) (z0 N : Nat) (ad : Nat → Nat) (F : Nat → va_E) (hN : 87 ≤ N) (rs : Nat → List Int32) (kn op : Nat → Bool) (fp lm me dp wh te nu en : Int32) (hS : vSt g ad F rs kn op fp lm me dp wh te nu en) (q : Nat) (hq : q < 1000) (xs a : List Int32) (hxs : rs 1 = xs) (ha : rs 3 = a) : hp_Mi l g z0 N ad y_D_draftAsItStands ws_D_draftAsItStands (rk 1) [.ref (ad 0), .int (nI q), .int (nI (q + 3))] F (fun v F' => v = nI (md_3 a (md_at xs q) (md_at xs (q + 1)) (md_at xs (q + 2))).2 ∧ (∃ d : List Int32, vSt g ad F' (va_up rs 3 d) kn op (pf (md_3 a (md_at xs q) (md_at xs (q + 1)) (md_at xs (q + 2))).2 fp (nI q)) lm me dp wh te nu en ∧ ((md_3 a (md_at xs q) (md_at xs (q + 1)) (md_at xs (q + 2))).2 = 0 → d = (md_3 a (md_at xs q) (md_at xs (q + 1)) (md_at xs (q + 2))).1)) ∧ vFr F F') := by
  refine hp_enter (cc := cc_D_draftAsItStands) (maxL := 4) (ret := (some .int)) (by decide) rfl (Nat.le_of_ble_eq_true rfl) ?_
  intro p e s m below meth c S hr hlk hnm hK hW ls hl
  have hl : lv_has ls 4 [(0, .ref (ad 0)), (1, .int (nI q)), (2, .int (nI (q + 3)))] := hl
  obtain ⟨hx, hb, hml, hown, hts⟩ := id S
  have in_kD : ∀ w ∈ u_ws R_D T_D 9, w ∈ ws_D_draftAsItStands := fun w h => List.mem_cons_of_mem _ (in0_D w h)
  refine lv_iload_n hx hb d_D_draftAsItStands_0 rfl (lv_at hl 1 rfl) ?_
  refine lv_istore_n (lv' := [(3, .int (nI q)), (0, .ref (ad 0)), (1, .int (nI q)), (2, .int (nI (q + 3)))]) hx hb d_D_draftAsItStands_1 rfl hl (by decide) rfl (fun ls hl => ?_)
  exact lp_asItStands l g z0 N ad F hN rs kn op fp lm me dp wh te nu en q hq xs a hxs S hr hlk hK 4 0 F (by omega) (by omega) (by rw [md_pre_0, ← ha, va_up_eta]; exact hS) vFr.rf _ _ ls hW (lv_sub hl [1, 2, 3, 0] rfl)

/-! draftReference(q) -/
set_option maxHeartbeats 400000 in
set_option maxRecDepth 100000 in
theorem c_draftReference (l : Launch) (g : hp_G) (z0 N : Nat) (ad : Nat → Nat) (F : Nat → va_E) (hN : 87 ≤ N) (rs : Nat → List Int32) (kn op : Nat → Bool) (fp lm me dp wh te nu en : Int32) (hS : vSt g ad F rs kn op fp lm me dp wh te nu en) (q : Nat) (hq : q < 900) (xs a : List Int32) (hxs : rs 1 = xs) (ha : rs 3 = a) (h38 : md_at xs q = 38) (hwh : wh = b2 (md_ref xs q).1) (hte : te = b2 (md_ref xs q).2.1) (hen : en = nI (md_ref xs q).2.2.2) (hnu : (md_ref xs q).1 = true → nu = (md_ref xs q).2.2.1) : hp_Mi l g z0 N ad y_D_draftReference ws_D_draftReference (rk 3) [.ref (ad 0), .int (nI q)] F (fun v F' => v = nI (md_dit xs q a).2.1 ∧ (∃ d : List Int32, vSt g ad F' (va_up rs 3 d) kn op (pf (md_dit xs q a).2.1 fp (nI (md_dit xs q a).2.2)) lm me dp wh te nu en ∧ ((md_dit xs q a).2.1 = 0 → d = (md_dit xs q a).1)) ∧ vFr F F') := by
  subst hwh hte hen
  refine hp_enter (cc := cc_D_draftReference) (maxL := 2) (ret := (some .int)) (by decide) rfl (Nat.le_of_ble_eq_true rfl) ?_
  intro p e s m below meth c S hr hlk hnm hK hW ls hl
  have hl : lv_has ls 2 [(0, .ref (ad 0)), (1, .int (nI q))] := hl
  obtain ⟨hx, hb, hml, hown, hts⟩ := id S
  have in_kD : ∀ w ∈ u_ws R_D T_D 9, w ∈ ws_D_draftReference := fun w h => List.mem_cons_of_mem _ (in0_D w h)
  have in_kF : ∀ w ∈ u_ws R_F T_F 4, w ∈ ws_D_draftReference := fun w h => List.mem_cons_of_mem _ (in0_F w h)
  refine lv_aload_n hx hb d_D_draftReference_0 rfl (lv_at hl 0 rfl) ?_
  refine hp_get S hK hW (0) (by omega) rfl hS.1 rfl in_kD 4 (by decide) (hts _ (List.mem_cons_of_mem _ tq_18)) rfl d_D_draftReference_1 ?_
  refine hp_getN S hK hW (86) (by omega) rfl hS.2.2.2.2 rfl in_kF 0 (by decide) (List.mem_of_getElem? (i := 3) rfl) rfl d_D_draftReference_4 ?_
  refine lv_if_ne (tgt := 23) hx hb d_D_draftReference_7 (by decide) (fun c_7 => ?_) (fun c_7 => ?_)
  · have c_7i := c_7
    refine lv_aload_n hx hb d_D_draftReference_23 rfl (lv_at hl 0 rfl) ?_
    refine hp_get S hK hW (0) (by omega) rfl hS.1 rfl in_kD 4 (by decide) (hts _ (List.mem_cons_of_mem _ tq_18)) rfl d_D_draftReference_24 ?_
    refine hp_getN S hK hW (86) (by omega) rfl hS.2.2.2.2 rfl in_kF 1 (by decide) (List.mem_of_getElem? (i := 4) rfl) rfl d_D_draftReference_27 ?_
    refine lv_if_eq (tgt := 46) hx hb d_D_draftReference_30 (by decide) (fun c_30 => ?_) (fun c_30 => ?_)
    · have c_30i := c_30
      refine lv_aload_n hx hb d_D_draftReference_46 rfl (lv_at hl 0 rfl) ?_
      refine lv_aload_n hx hb d_D_draftReference_47 rfl (lv_at hl 0 rfl) ?_
      refine hp_get S hK hW (0) (by omega) rfl hS.1 rfl in_kD 1 (by decide) (hts _ (List.mem_cons_of_mem _ tq_7)) rfl d_D_draftReference_48 ?_
      refine lv_iload_n hx hb d_D_draftReference_51 rfl (lv_at hl 1 rfl) ?_
      refine hp_goi hW (va_runV S (c_addByNumber l g z0 N ad F hN rs kn op fp lm me dp (b2 (md_ref xs q).1) (b2 (md_ref xs q).2.1) nu (nI (md_ref xs q).2.2.2) hS 3 rowp_3 (nI q)) (cwV 2 hts (tb_V cd_D_addByNumber tq_79 tq_80 tq_81 tq_27) rfl rfl rfl hd_D_addByNumber (rk_ok (by omega) (by omega))) (hp_preV hK hW (by omega) rfl hS.1 rfl) rfl rfl hl.1 rfl (lv_room (Nat.le_of_ble_eq_true rfl)) d_D_draftReference_52 ⟨Nat.zero_le _, Nat.zero_le _⟩) (fun r_1 F_2 H locs hw hW => ?_)
      obtain ⟨hv1, hS1, hf1⟩ := hw
      rw [hv1]
      have hX : (md_dit xs q a) = ((md_nu 100 a nu).1, (md_nu 100 a nu).2, q) := (if_pos h38).trans ((if_pos (b2_n0.mp c_7i)).trans ((if_neg (fun z => by rw [b2_0.mp c_30i] at z; cases z)).trans (by rw [hnu (b2_n0.mp c_7i)])))
      rw [ha] at hS1
      exact hp_reti S hK hW hr hlk d_D_draftReference_55 (by rw [hX, ha]; exact ⟨rfl, ⟨_, hS1, fun _ => rfl⟩, hf1⟩)
    · have c_30i := c_30
      refine lv_aload_n hx hb d_D_draftReference_33 rfl (lv_at hl 0 rfl) ?_
      refine lv_iload_n hx hb d_D_draftReference_34 rfl (lv_at hl 1 rfl) ?_
      refine lv_aload_n hx hb d_D_draftReference_35 rfl (lv_at hl 0 rfl) ?_
      refine hp_get S hK hW (0) (by omega) rfl hS.1 rfl in_kD 4 (by decide) (hts _ (List.mem_cons_of_mem _ tq_18)) rfl d_D_draftReference_36 ?_
      refine hp_getN S hK hW (86) (by omega) rfl hS.2.2.2.2 rfl in_kF 3 (by decide) (List.mem_of_getElem? (i := 6) rfl) rfl d_D_draftReference_39 ?_
      have hT := md_ref_ent (xs := xs) (p := q) (b2_n0.mp c_7i) (b2_n0.mp c_30i)
      refine W.eq (g2 := F0 m 42 ls [.int (nI (q + 3)), .int (nI q), .ref (ad 0)]) (by rw [hT.2.2]) ?_
      refine hp_goi hW (va_runV S (c_asItStands l g z0 N ad F hN rs kn op fp lm me dp (b2 (md_ref xs q).1) (b2 (md_ref xs q).2.1) nu (nI (md_ref xs q).2.2.2) hS q (by omega) xs a hxs ha) (cwV 2 hts (tb_V cd_D_draftAsItStands tq_76 tq_77 tq_78 tq_27) rfl rfl rfl hd_D_draftAsItStands (rk_ok (by omega) (by omega))) (hp_preV hK hW (by omega) rfl hS.1 rfl) rfl rfl hl.1 rfl (lv_room (Nat.le_of_ble_eq_true rfl)) d_D_draftReference_42 ⟨Nat.zero_le _, Nat.zero_le _⟩) (fun r_3 F_4 H locs hw hW => ?_)
      obtain ⟨hv1, hd1, hf1⟩ := hw
      rw [hv1]
      have hX : (md_dit xs q a) = ((md_3 a (md_at xs q) (md_at xs (q + 1)) (md_at xs (q + 2))).1, (md_3 a (md_at xs q) (md_at xs (q + 1)) (md_at xs (q + 2))).2, q) := (if_pos h38).trans ((if_pos (b2_n0.mp c_7i)).trans (if_pos (b2_n0.mp c_30i)))
      exact hp_reti S hK hW hr hlk d_D_draftReference_45 (by rw [hX]; exact ⟨rfl, hd1, hf1⟩)
  · have c_7i := c_7
    refine lv_aload_n hx hb d_D_draftReference_10 rfl (lv_at hl 0 rfl) ?_
    refine lv_iconst (v := 1) hx hb d_D_draftReference_11 (by decide) ?_
    refine lv_aload_n hx hb d_D_draftReference_12 rfl (lv_at hl 0 rfl) ?_
    refine hp_get S hK hW (0) (by omega) rfl hS.1 rfl in_kD 4 (by decide) (hts _ (List.mem_cons_of_mem _ tq_18)) rfl d_D_draftReference_13 ?_
    refine hp_getN S hK hW (86) (by omega) rfl hS.2.2.2.2 rfl in_kF 3 (by decide) (List.mem_of_getElem? (i := 6) rfl) rfl d_D_draftReference_16 ?_
    refine hp_goi hW (va_runV S (c_fail l g z0 N ad F hN rs kn op fp lm me dp (b2 (md_ref xs q).1) (b2 (md_ref xs q).2.1) nu (nI (md_ref xs q).2.2.2) hS 1 (nI (md_ref xs q).2.2.2)) (cwV 2 hts (tb_V cd_D_fail tq_56 tq_57 tq_58 tq_27) rfl rfl rfl hd_D_fail (rk_ok (by omega) (by omega))) (hp_preV hK hW (by omega) rfl hS.1 rfl) rfl rfl hl.1 rfl (lv_room (Nat.le_of_ble_eq_true rfl)) d_D_draftReference_19 ⟨Nat.zero_le _, Nat.zero_le _⟩) (fun r_5 F_6 H locs hw hW => ?_)
    obtain ⟨hv1, hS1, hf1⟩ := hw
    rw [hv1]
    have hX : (md_dit xs q a) = (a, 1, (md_ref xs q).2.2.2) := (if_pos h38).trans (if_neg (fun z => by rw [b2_0.mp c_7i] at z; cases z))
    exact hp_reti S hK hW hr hlk d_D_draftReference_22 (by rw [hX]; refine ⟨rfl, ⟨a, ?_, fun z => by cases z⟩, hf1⟩; rw [← ha, va_up_eta]; exact hS1)
