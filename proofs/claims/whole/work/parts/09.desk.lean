/-! isCharacter(c) -/
set_option maxHeartbeats 400000 in
set_option maxRecDepth 100000 in
theorem c_isCharacter (l : Launch) (g : hp_G) (z0 N : Nat) (ad : Nat → Nat) (F : Nat → va_E) (x : Int32) : hp_Mi l g z0 N ad y_D_isCharacter ws_D_isCharacter (rk 0) [.int x] F (fun v F' => v = b2 (md_ch x) ∧ F' = F) := by
  refine hp_enter (cc := cc_D_isCharacter) (maxL := 1) (ret := (some .boolean)) (by decide) rfl (Nat.le_of_ble_eq_true rfl) ?_
  intro p e s m below meth c S hr hlk hnm hK hW ls hl
  have hl : lv_has ls 1 [(0, .int x)] := hl
  obtain ⟨hx, hb, hml, hown, hts⟩ := id S
  refine lv_iload_n hx hb d_D_isCharacter_0 rfl (lv_at hl 0 rfl) ?_
  refine lv_bipush (v := 9) hx hb d_D_isCharacter_1 (by decide) ?_
  refine lv_icmp_eq (tgt := 30) hx hb d_D_isCharacter_3 (by decide) (fun c_3 => ?_) (fun c_3 => ?_)
  · have c_3i := c_3
    refine lv_iconst (v := 1) hx hb d_D_isCharacter_30 (by decide) ?_
    refine lv_goto (tgt := 35) hx hb d_D_isCharacter_31 (by decide) ?_
    exact hp_retz S hK hW hr hlk rfl d_D_isCharacter_35 (⟨by unfold md_ch b2; simp [c_3i], rfl⟩)
  · have c_3i := c_3
    refine lv_iload_n hx hb d_D_isCharacter_6 rfl (lv_at hl 0 rfl) ?_
    refine lv_bipush (v := 10) hx hb d_D_isCharacter_7 (by decide) ?_
    refine lv_icmp_eq (tgt := 30) hx hb d_D_isCharacter_9 (by decide) (fun c_9 => ?_) (fun c_9 => ?_)
    · have c_9i := c_9
      refine lv_iconst (v := 1) hx hb d_D_isCharacter_30 (by decide) ?_
      refine lv_goto (tgt := 35) hx hb d_D_isCharacter_31 (by decide) ?_
      exact hp_retz S hK hW hr hlk rfl d_D_isCharacter_35 (⟨by unfold md_ch b2; simp [c_3i, c_9i], rfl⟩)
    · have c_9i := c_9
      refine lv_iload_n hx hb d_D_isCharacter_12 rfl (lv_at hl 0 rfl) ?_
      refine lv_bipush (v := 13) hx hb d_D_isCharacter_13 (by decide) ?_
      refine lv_icmp_eq (tgt := 30) hx hb d_D_isCharacter_15 (by decide) (fun c_15 => ?_) (fun c_15 => ?_)
      · have c_15i := c_15
        refine lv_iconst (v := 1) hx hb d_D_isCharacter_30 (by decide) ?_
        refine lv_goto (tgt := 35) hx hb d_D_isCharacter_31 (by decide) ?_
        exact hp_retz S hK hW hr hlk rfl d_D_isCharacter_35 (⟨by unfold md_ch b2; simp [c_3i, c_9i, c_15i], rfl⟩)
      · have c_15i := c_15
        refine lv_iload_n hx hb d_D_isCharacter_18 rfl (lv_at hl 0 rfl) ?_
        refine lv_bipush (v := 32) hx hb d_D_isCharacter_19 (by decide) ?_
        refine lv_icmp_lt (tgt := 34) hx hb d_D_isCharacter_21 (by decide) (fun c_21 => ?_) (fun c_21 => ?_)
        · have c_21i := c_21
          have c_21j := Int32.not_le.mpr c_21
          refine lv_iconst (v := 0) hx hb d_D_isCharacter_34 (by decide) ?_
          exact hp_retz S hK hW hr hlk rfl d_D_isCharacter_35 (⟨by unfold md_ch b2; simp [c_3i, c_9i, c_15i, c_21j], rfl⟩)
        · have c_21i := c_21
          have c_21j := Int32.not_lt.mp c_21
          refine lv_iload_n hx hb d_D_isCharacter_24 rfl (lv_at hl 0 rfl) ?_
          refine lv_bipush (v := 126) hx hb d_D_isCharacter_25 (by decide) ?_
          refine lv_icmp_gt (tgt := 34) hx hb d_D_isCharacter_27 (by decide) (fun c_27 => ?_) (fun c_27 => ?_)
          · have c_27i := c_27
            have c_27j := Int32.not_le.mpr c_27
            refine lv_iconst (v := 0) hx hb d_D_isCharacter_34 (by decide) ?_
            exact hp_retz S hK hW hr hlk rfl d_D_isCharacter_35 (⟨by unfold md_ch b2; simp [c_3i, c_9i, c_15i, c_21j, c_27j], rfl⟩)
          · have c_27i := c_27
            have c_27j := Int32.not_lt.mp c_27
            refine lv_iconst (v := 1) hx hb d_D_isCharacter_30 (by decide) ?_
            refine lv_goto (tgt := 35) hx hb d_D_isCharacter_31 (by decide) ?_
            exact hp_retz S hK hW hr hlk rfl d_D_isCharacter_35 (⟨by unfold md_ch b2; simp [c_3i, c_9i, c_15i, c_21j, c_27j], rfl⟩)

/-! fail(f, at) -/
set_option maxHeartbeats 400000 in
set_option maxRecDepth 100000 in
theorem c_fail (l : Launch) (g : hp_G) (z0 N : Nat) (ad : Nat → Nat) (F : Nat → va_E) (hN : 87 ≤ N) (rs : Nat → List Int32) (kn op : Nat → Bool) (fp lm me dp wh te nu en : Int32) (hS : vSt g ad F rs kn op fp lm me dp wh te nu en) (f a : Int32) : hp_Mi l g z0 N ad y_D_fail ws_D_fail (rk 0) [.ref (ad 0), .int f, .int a] F (fun v F' => v = f ∧ vSt g ad F' rs kn op a lm me dp wh te nu en ∧ vFr F F') := by
  refine hp_enter (cc := cc_D_fail) (maxL := 3) (ret := (some .int)) (by decide) rfl (Nat.le_of_ble_eq_true rfl) ?_
  intro p e s m below meth c S hr hlk hnm hK hW ls hl
  have hl : lv_has ls 3 [(0, .ref (ad 0)), (1, .int f), (2, .int a)] := hl
  obtain ⟨hx, hb, hml, hown, hts⟩ := id S
  have in_kD : ∀ w ∈ u_ws R_D T_D 9, w ∈ ws_D_fail := fun w h => List.mem_cons_of_mem _ (in0_D w h)
  refine lv_aload_n hx hb d_D_fail_0 rfl (lv_at hl 0 rfl) ?_
  refine lv_iload_n hx hb d_D_fail_1 rfl (lv_at hl 2 rfl) ?_
  refine hp_put S hK hW (0) (by omega) rfl hS.1 rfl in_kD tyok_D nm_D 5 (by decide) (hts _ (List.mem_cons_of_mem _ tq_19)) rfl rfl rfl (Nat.le_of_ble_eq_true rfl) d_D_fail_2 (fun H locs hW => ?_)
  obtain ⟨F_1, eF_1⟩ : ∃ z, z = va_up F (0) (.inr (kD, [.ref (ad 1), .ref (ad 3), .ref (ad 5), .ref (ad 7), .ref (ad 86), .int a, .int lm, .int me, .int dp])) := ⟨_, rfl⟩
  replace hW : hp_W g z0 N ad F_1 s.heap H locs := by rw [eF_1]; exact hW
  have f_2 : F_1 (0) = .inr (kD, [.ref (ad 1), .ref (ad 3), .ref (ad 5), .ref (ad 7), .ref (ad 86), .int a, .int lm, .int me, .int dp]) := by rw [eF_1, va_up_self]
  have f_3 : F_1 (86) = .inr (kF, [.int wh, .int te, .int nu, .int en]) := by rw [eF_1, va_up_ne _ _ (by omega)]; exact hS.2.2.2.2
  refine lv_iload_n hx hb d_D_fail_5 rfl (lv_at hl 1 rfl) ?_
  exact hp_reti S hK hW hr hlk d_D_fail_6 (⟨rfl, hS.desk f_2 (fun x hx => by rw [eF_1, va_up_ne _ _ hx]), fun x hx => by rw [eF_1, va_up_ne _ _ (by omega)]⟩)

/-! addTo(row, ch, here) -/
set_option maxHeartbeats 400000 in
set_option maxRecDepth 100000 in
theorem c_addTo (l : Launch) (g : hp_G) (z0 N : Nat) (ad : Nat → Nat) (F : Nat → va_E) (hN : 87 ≤ N) (rs : Nat → List Int32) (kn op : Nat → Bool) (fp lm me dp wh te nu en : Int32) (hS : vSt g ad F rs kn op fp lm me dp wh te nu en) (j : Nat) (hj : rowp j) (ch a : Int32) : hp_Mi l g z0 N ad y_D_addTo ws_D_addTo (rk 1) [.ref (ad 0), .ref (ad j), .int ch, .int a] F (fun v F' => v = nI (md_ad (cap j) (rs j) ch).2 ∧ vSt g ad F' (va_up rs j (md_ad (cap j) (rs j) ch).1) kn op (pf (md_ad (cap j) (rs j) ch).2 fp a) lm me dp wh te nu en ∧ vFr F F') := by
  refine hp_enter (cc := cc_D_addTo) (maxL := 4) (ret := (some .int)) (by decide) rfl (Nat.le_of_ble_eq_true rfl) ?_
  intro p e s m below meth c S hr hlk hnm hK hW ls hl
  have hl : lv_has ls 4 [(0, .ref (ad 0)), (1, .ref (ad j)), (2, .int ch), (3, .int a)] := hl
  obtain ⟨hx, hb, hml, hown, hts⟩ := id S
  have in_kD : ∀ w ∈ u_ws R_D T_D 9, w ∈ ws_D_addTo := fun w h => List.mem_cons_of_mem _ (in0_D w h)
  refine lv_aload_n hx hb d_D_addTo_0 rfl (lv_at hl 1 rfl) ?_
  refine lv_iload_n hx hb d_D_addTo_1 rfl (lv_at hl 2 rfl) ?_
  refine hp_goi hW (va_runV S (s_add l g z0 N ad F hN rs kn op fp lm me dp wh te nu en hS j hj ch) (cwV 1 hts (tb_V cd_R_add tq_23 tq_24 tq_25 tq_3) rfl rfl rfl hd_R_add (rk_ok (by omega) (by omega))) (hp_preV hK hW (by have := rowp_lt hj; omega) rfl (hS.row hj).obj rfl) rfl rfl hl.1 rfl (lv_room (Nat.le_of_ble_eq_true rfl)) d_D_addTo_2 ⟨Nat.zero_le _, Nat.zero_le _⟩) (fun r_1 F_2 H locs hw hW => ?_)
  obtain ⟨hv1, hS1, hf1⟩ := hw
  rw [hv1]
  refine lv_if_eq (tgt := 12) hx hb d_D_addTo_5 (by decide) (fun c_5 => ?_) (fun c_5 => ?_)
  · have c_5i := c_5
    refine lv_aload_n hx hb d_D_addTo_12 rfl (lv_at hl 0 rfl) ?_
    refine lv_bipush (v := 8) hx hb d_D_addTo_13 (by decide) ?_
    refine lv_iload_n hx hb d_D_addTo_15 rfl (lv_at hl 3 rfl) ?_
    refine hp_goi hW (va_runV S (c_fail l g z0 N ad F_2 hN (va_up rs j (md_ad (cap j) (rs j) ch).1) kn op fp lm me dp wh te nu en hS1 8 a) (cwV 2 hts (tb_V cd_D_fail tq_56 tq_57 tq_58 tq_27) rfl rfl rfl hd_D_fail (rk_ok (by omega) (by omega))) (hp_preV hK hW (by have := rowp_lt hj; omega) rfl hS1.1 rfl) rfl rfl hl.1 rfl (lv_room (Nat.le_of_ble_eq_true rfl)) d_D_addTo_16 ⟨Nat.zero_le _, Nat.zero_le _⟩) (fun r_3 F_4 H locs hw hW => ?_)
    obtain ⟨hv2, hS2, hf2⟩ := hw
    rw [hv2]
    have hX : (md_ad (cap j) (rs j) ch) = (rs j, 8) := if_neg (of_decide_eq_false (b2_0.mp c_5i))
    rw [hX] at hS2
    exact hp_reti S hK hW hr hlk d_D_addTo_19 (by rw [hX]; exact ⟨rfl, hS2, (hf1.tr hf2)⟩)
  · have c_5i := c_5
    refine lv_iconst (v := 0) hx hb d_D_addTo_8 (by decide) ?_
    refine lv_goto (tgt := 19) hx hb d_D_addTo_9 (by decide) ?_
    have hX : (md_ad (cap j) (rs j) ch) = (rs j ++ [ch], 0) := if_pos (of_decide_eq_true (b2_n0.mp c_5i))
    rw [hX] at hS1
    exact hp_reti S hK hW hr hlk d_D_addTo_19 (by rw [hX]; exact ⟨rfl, hS1, hf1⟩)

/-! addByNumber(row, here) -/
set_option maxHeartbeats 400000 in
set_option maxRecDepth 100000 in
theorem c_addByNumber (l : Launch) (g : hp_G) (z0 N : Nat) (ad : Nat → Nat) (F : Nat → va_E) (hN : 87 ≤ N) (rs : Nat → List Int32) (kn op : Nat → Bool) (fp lm me dp wh te nu en : Int32) (hS : vSt g ad F rs kn op fp lm me dp wh te nu en) (j : Nat) (hj : rowp j) (a : Int32) : hp_Mi l g z0 N ad y_D_addByNumber ws_D_addByNumber (rk 2) [.ref (ad 0), .ref (ad j), .int a] F (fun v F' => v = nI (md_nu (cap j) (rs j) nu).2 ∧ vSt g ad F' (va_up rs j (md_nu (cap j) (rs j) nu).1) kn op (pf (md_nu (cap j) (rs j) nu).2 fp a) lm me dp wh te nu en ∧ vFr F F') := by
  refine hp_enter (cc := cc_D_addByNumber) (maxL := 4) (ret := (some .int)) (by decide) rfl (Nat.le_of_ble_eq_true rfl) ?_
  intro p e s m below meth c S hr hlk hnm hK hW ls hl
  have hl : lv_has ls 4 [(0, .ref (ad 0)), (1, .ref (ad j)), (2, .int a)] := hl
  obtain ⟨hx, hb, hml, hown, hts⟩ := id S
  have in_kD : ∀ w ∈ u_ws R_D T_D 9, w ∈ ws_D_addByNumber := fun w h => List.mem_cons_of_mem _ (in0_D w h)
  have in_kF : ∀ w ∈ u_ws R_F T_F 4, w ∈ ws_D_addByNumber := fun w h => List.mem_cons_of_mem _ (in0_F w h)
  refine lv_aload_n hx hb d_D_addByNumber_0 rfl (lv_at hl 0 rfl) ?_
  refine hp_get S hK hW (0) (by omega) rfl hS.1 rfl in_kD 4 (by decide) (hts _ (List.mem_cons_of_mem _ tq_18)) rfl d_D_addByNumber_1 ?_
  refine hp_getN S hK hW (86) (by omega) rfl hS.2.2.2.2 rfl in_kF 2 (by decide) (List.mem_of_getElem? (i := 5) rfl) rfl d_D_addByNumber_4 ?_
  refine lv_istore_n (lv' := [(3, .int nu), (0, .ref (ad 0)), (1, .ref (ad j)), (2, .int a)]) hx hb d_D_addByNumber_7 rfl hl (by decide) rfl (fun ls hl => ?_)
  refine lv_iload_n hx hb d_D_addByNumber_8 rfl (lv_at hl 0 rfl) ?_
  refine hp_goi hW (va_runS S (c_isCharacter l g z0 N ad F (nu)) (va_cwS 1 hts (tb_S cd_D_isCharacter tq_71 tq_72 tq_27) rfl rfl rfl hd_D_isCharacter.2 (rk_ok (by omega) (by omega))) (hp_preS hK hW) rfl rfl hl.1 rfl (lv_room (Nat.le_of_ble_eq_true rfl)) d_D_addByNumber_9 ⟨Nat.zero_le _, Nat.zero_le _⟩) (fun r_1 F_2 H locs hw hW => ?_)
  obtain ⟨hvq, hFq⟩ := hw
  rw [hFq] at hW
  rw [hvq]
  refine lv_if_eq (tgt := 25) hx hb d_D_addByNumber_12 (by decide) (fun c_12 => ?_) (fun c_12 => ?_)
  · have c_12i := c_12
    refine lv_aload_n hx hb d_D_addByNumber_25 rfl (lv_at hl 1 rfl) ?_
    refine lv_iconst (v := 5) hx hb d_D_addByNumber_26 (by decide) ?_
    refine lv_iload_n hx hb d_D_addByNumber_27 rfl (lv_at hl 3 rfl) ?_
    refine hp_goi hW (va_runV S (c_fail l g z0 N ad F hN rs kn op fp lm me dp wh te nu en hS 5 a) (cwV 2 hts (tb_V cd_D_fail tq_56 tq_57 tq_58 tq_27) rfl rfl rfl hd_D_fail (rk_ok (by omega) (by omega))) (hp_preV hK hW (by omega) rfl hS.1 rfl) rfl rfl hl.1 rfl (lv_room (Nat.le_of_ble_eq_true rfl)) d_D_addByNumber_28 ⟨Nat.zero_le _, Nat.zero_le _⟩) (fun r_3 F_4 H locs hw hW => ?_)
    obtain ⟨hv1, hS1, hf1⟩ := hw
    rw [hv1]
    have hX : (md_nu (cap j) (rs j) nu) = (rs j, 5) := if_neg (fun q => by rw [b2_0.mp c_12i] at q; cases q)
    exact hp_reti S hK hW hr hlk d_D_addByNumber_31 (by rw [hX]; refine ⟨rfl, ?_, hf1⟩; show vSt g ad _ (va_up rs j (rs j)) kn op a lm me dp wh te nu en; rw [va_up_eta]; exact hS1)
  · have c_12i := c_12
    refine lv_aload_n hx hb d_D_addByNumber_15 rfl (lv_at hl 1 rfl) ?_
    refine lv_aload_n hx hb d_D_addByNumber_16 rfl (lv_at hl 2 rfl) ?_
    refine lv_iload_n hx hb d_D_addByNumber_17 rfl (lv_at hl 0 rfl) ?_
    refine lv_iload_n hx hb d_D_addByNumber_18 rfl (lv_at hl 3 rfl) ?_
    refine hp_goi hW (va_runV S (c_addTo l g z0 N ad F hN rs kn op fp lm me dp wh te nu en hS j hj nu a) (cwV 3 hts (tb_V cd_D_addTo tq_73 tq_74 tq_75 tq_27) rfl rfl rfl hd_D_addTo (rk_ok (by omega) (by omega))) (hp_preV hK hW (by omega) rfl hS.1 rfl) rfl rfl hl.1 rfl (lv_room (Nat.le_of_ble_eq_true rfl)) d_D_addByNumber_19 ⟨Nat.zero_le _, Nat.zero_le _⟩) (fun r_5 F_6 H locs hw hW => ?_)
    obtain ⟨hv1, hS1, hf1⟩ := hw
    rw [hv1]
    refine lv_goto (tgt := 31) hx hb d_D_addByNumber_22 (by decide) ?_
    have hX : (md_nu (cap j) (rs j) nu) = md_ad (cap j) (rs j) nu := if_pos (b2_n0.mp c_12i)
    exact hp_reti S hK hW hr hlk d_D_addByNumber_31 (by rw [hX]; exact ⟨rfl, hS1, hf1⟩)

/-! takeByte(x, here) -/
set_option maxHeartbeats 400000 in
set_option maxRecDepth 100000 in
theorem c_takeByte (l : Launch) (g : hp_G) (z0 N : Nat) (ad : Nat → Nat) (F : Nat → va_E) (hN : 87 ≤ N) (rs : Nat → List Int32) (kn op : Nat → Bool) (fp lm me dp wh te nu en : Int32) (hS : vSt g ad F rs kn op fp lm me dp wh te nu en) (x a : Int32) : hp_Mi l g z0 N ad y_D_takeByte ws_D_takeByte (rk 2) [.ref (ad 0), .int x, .int a] F (fun v F' => v = nI (md_by (rs 5) x).2 ∧ vSt g ad F' (va_up rs 5 (md_by (rs 5) x).1) kn op (pf (md_by (rs 5) x).2 fp a) lm me dp wh te nu en ∧ vFr F F') := by
  refine hp_enter (cc := cc_D_takeByte) (maxL := 3) (ret := (some .int)) (by decide) rfl (Nat.le_of_ble_eq_true rfl) ?_
  intro p e s m below meth c S hr hlk hnm hK hW ls hl
  have hl : lv_has ls 3 [(0, .ref (ad 0)), (1, .int x), (2, .int a)] := hl
  obtain ⟨hx, hb, hml, hown, hts⟩ := id S
  have in_kD : ∀ w ∈ u_ws R_D T_D 9, w ∈ ws_D_takeByte := fun w h => List.mem_cons_of_mem _ (in0_D w h)
  refine lv_iload_n hx hb d_D_takeByte_0 rfl (lv_at hl 1 rfl) ?_
  refine lv_bipush (v := 60) hx hb d_D_takeByte_1 (by decide) ?_
  refine lv_icmp_ne (tgt := 13) hx hb d_D_takeByte_3 (by decide) (fun c_3 => ?_) (fun c_3 => ?_)
  · have c_3i := c_3
    refine lv_iload_n hx hb d_D_takeByte_13 rfl (lv_at hl 1 rfl) ?_
    refine hp_goi hW (va_runS S (c_isCharacter l g z0 N ad F (x)) (va_cwS 1 hts (tb_S cd_D_isCharacter tq_71 tq_72 tq_27) rfl rfl rfl hd_D_isCharacter.2 (rk_ok (by omega) (by omega))) (hp_preS hK hW) rfl rfl hl.1 rfl (lv_room (Nat.le_of_ble_eq_true rfl)) d_D_takeByte_14 ⟨Nat.zero_le _, Nat.zero_le _⟩) (fun r_1 F_2 H locs hw hW => ?_)
    obtain ⟨hvq, hFq⟩ := hw
    rw [hFq] at hW
    rw [hvq]
    refine lv_if_ne (tgt := 27) hx hb d_D_takeByte_17 (by decide) (fun c_17 => ?_) (fun c_17 => ?_)
    · have c_17i := c_17
      refine lv_aload_n hx hb d_D_takeByte_27 rfl (lv_at hl 0 rfl) ?_
      refine lv_aload_n hx hb d_D_takeByte_28 rfl (lv_at hl 0 rfl) ?_
      refine hp_get S hK hW (0) (by omega) rfl hS.1 rfl in_kD 2 (by decide) (hts _ (List.mem_cons_of_mem _ tq_8)) rfl d_D_takeByte_29 ?_
      refine lv_iload_n hx hb d_D_takeByte_32 rfl (lv_at hl 1 rfl) ?_
      refine lv_bipush (v := 32) hx hb d_D_takeByte_33 (by decide) ?_
      refine lv_icmp_ge (tgt := 43) hx hb d_D_takeByte_35 (by decide) (fun c_35 => ?_) (fun c_35 => ?_)
      · have c_35i := c_35
        have c_35j := Int32.not_lt.mpr c_35
        refine lv_iload_n hx hb d_D_takeByte_43 rfl (lv_at hl 1 rfl) ?_
        refine lv_iload_n hx hb d_D_takeByte_44 rfl (lv_at hl 2 rfl) ?_
        refine hp_goi hW (va_runV S (c_addTo l g z0 N ad F hN rs kn op fp lm me dp wh te nu en hS 5 rowp_5 x a) (cwV 3 hts (tb_V cd_D_addTo tq_73 tq_74 tq_75 tq_27) rfl rfl rfl hd_D_addTo (rk_ok (by omega) (by omega))) (hp_preV hK hW (by omega) rfl hS.1 rfl) rfl rfl hl.1 rfl (lv_room (Nat.le_of_ble_eq_true rfl)) d_D_takeByte_45 ⟨Nat.zero_le _, Nat.zero_le _⟩) (fun r_3 F_4 H locs hw hW => ?_)
        obtain ⟨hv1, hS1, hf1⟩ := hw
        rw [hv1]
        have hX : (md_by (rs 5) x) = md_ad 300 (rs 5) x := (if_neg c_3i).trans ((if_pos (b2_n0.mp c_17i)).trans (by rw [if_neg (Int32.not_lt.mpr c_35i)]))
        exact hp_reti S hK hW hr hlk d_D_takeByte_48 (by rw [hX]; exact ⟨rfl, hS1, hf1⟩)
      · have c_35i := c_35
        have c_35j := Int32.not_le.mp c_35
        refine lv_bipush (v := 32) hx hb d_D_takeByte_38 (by decide) ?_
        refine lv_goto (tgt := 44) hx hb d_D_takeByte_40 (by decide) ?_
        refine lv_iload_n hx hb d_D_takeByte_44 rfl (lv_at hl 2 rfl) ?_
        refine hp_goi hW (va_runV S (c_addTo l g z0 N ad F hN rs kn op fp lm me dp wh te nu en hS 5 rowp_5 32 a) (cwV 3 hts (tb_V cd_D_addTo tq_73 tq_74 tq_75 tq_27) rfl rfl rfl hd_D_addTo (rk_ok (by omega) (by omega))) (hp_preV hK hW (by omega) rfl hS.1 rfl) rfl rfl hl.1 rfl (lv_room (Nat.le_of_ble_eq_true rfl)) d_D_takeByte_45 ⟨Nat.zero_le _, Nat.zero_le _⟩) (fun r_5 F_6 H locs hw hW => ?_)
        obtain ⟨hv1, hS1, hf1⟩ := hw
        rw [hv1]
        have hX : (md_by (rs 5) x) = md_ad 300 (rs 5) 32 := (if_neg c_3i).trans ((if_pos (b2_n0.mp c_17i)).trans (by rw [if_pos (Int32.not_le.mp c_35i)]))
        exact hp_reti S hK hW hr hlk d_D_takeByte_48 (by rw [hX]; exact ⟨rfl, hS1, hf1⟩)
    · have c_17i := c_17
      refine lv_aload_n hx hb d_D_takeByte_20 rfl (lv_at hl 0 rfl) ?_
      refine lv_iconst (v := 1) hx hb d_D_takeByte_21 (by decide) ?_
      refine lv_iload_n hx hb d_D_takeByte_22 rfl (lv_at hl 2 rfl) ?_
      refine hp_goi hW (va_runV S (c_fail l g z0 N ad F hN rs kn op fp lm me dp wh te nu en hS 1 a) (cwV 2 hts (tb_V cd_D_fail tq_56 tq_57 tq_58 tq_27) rfl rfl rfl hd_D_fail (rk_ok (by omega) (by omega))) (hp_preV hK hW (by omega) rfl hS.1 rfl) rfl rfl hl.1 rfl (lv_room (Nat.le_of_ble_eq_true rfl)) d_D_takeByte_23 ⟨Nat.zero_le _, Nat.zero_le _⟩) (fun r_7 F_8 H locs hw hW => ?_)
      obtain ⟨hv1, hS1, hf1⟩ := hw
      rw [hv1]
      have hX : (md_by (rs 5) x) = (rs 5, 1) := (if_neg c_3i).trans (if_neg (fun q => by rw [b2_0.mp c_17i] at q; cases q))
      exact hp_reti S hK hW hr hlk d_D_takeByte_26 (by rw [hX]; refine ⟨rfl, ?_, hf1⟩; show vSt g ad _ (va_up rs 5 (rs 5)) kn op a lm me dp wh te nu en; rw [va_up_eta]; exact hS1)
  · have c_3i := c_3
    refine lv_aload_n hx hb d_D_takeByte_6 rfl (lv_at hl 0 rfl) ?_
    refine lv_iconst (v := 4) hx hb d_D_takeByte_7 (by decide) ?_
    refine lv_iload_n hx hb d_D_takeByte_8 rfl (lv_at hl 2 rfl) ?_
    refine hp_goi hW (va_runV S (c_fail l g z0 N ad F hN rs kn op fp lm me dp wh te nu en hS 4 a) (cwV 2 hts (tb_V cd_D_fail tq_56 tq_57 tq_58 tq_27) rfl rfl rfl hd_D_fail (rk_ok (by omega) (by omega))) (hp_preV hK hW (by omega) rfl hS.1 rfl) rfl rfl hl.1 rfl (lv_room (Nat.le_of_ble_eq_true rfl)) d_D_takeByte_9 ⟨Nat.zero_le _, Nat.zero_le _⟩) (fun r_9 F_10 H locs hw hW => ?_)
    obtain ⟨hv1, hS1, hf1⟩ := hw
    rw [hv1]
    have hX : (md_by (rs 5) x) = (rs 5, 4) := if_pos c_3i
    exact hp_reti S hK hW hr hlk d_D_takeByte_12 (by rw [hX]; refine ⟨rfl, ?_, hf1⟩; show vSt g ad _ (va_up rs 5 (rs 5)) kn op a lm me dp wh te nu en; rw [va_up_eta]; exact hS1)

/-! failBroken(row, depth, outer) -/
set_option maxHeartbeats 400000 in
set_option maxRecDepth 100000 in
theorem c_failBroken (l : Launch) (g : hp_G) (z0 N : Nat) (ad : Nat → Nat) (F : Nat → va_E) (hN : 87 ≤ N) (rs : Nat → List Int32) (kn op : Nat → Bool) (fp lm me dp wh te nu en : Int32) (hS : vSt g ad F rs kn op fp lm me dp wh te nu en) (j : Nat) (hj : rowp j) (dl E : Nat) (hdl : dl < 1000) (hE : E < 1000) (hen : en = nI E) (hlj : (rs j).length < 1000) (a : Int32) : hp_Mi l g z0 N ad y_D_failBroken ws_D_failBroken (rk 1) [.ref (ad 0), .ref (ad j), .int (nI dl), .int a] F (fun v F' => v = nI (if dl = 0 ∨ E < (rs j).length then 1 else 7) ∧ vSt g ad F' rs kn op (if dl = 0 then nI E else a) lm me dp wh te nu en ∧ vFr F F') := by
  subst hen
  have hjl := rowp_lt hj
  refine hp_enter (cc := cc_D_failBroken) (maxL := 4) (ret := (some .int)) (by decide) rfl (Nat.le_of_ble_eq_true rfl) ?_
  intro p e s m below meth c S hr hlk hnm hK hW ls hl
  have hl : lv_has ls 4 [(0, .ref (ad 0)), (1, .ref (ad j)), (2, .int (nI dl)), (3, .int a)] := hl
  obtain ⟨hx, hb, hml, hown, hts⟩ := id S
  have in_kD : ∀ w ∈ u_ws R_D T_D 9, w ∈ ws_D_failBroken := fun w h => List.mem_cons_of_mem _ (in0_D w h)
  have in_kF : ∀ w ∈ u_ws R_F T_F 4, w ∈ ws_D_failBroken := fun w h => List.mem_cons_of_mem _ (in0_F w h)
  refine lv_iload_n hx hb d_D_failBroken_0 rfl (lv_at hl 2 rfl) ?_
  refine lv_if_ne (tgt := 17) hx hb d_D_failBroken_1 (by decide) (fun c_1 => ?_) (fun c_1 => ?_)
  · have c_1i := c_1
    replace c_1 : ¬ dl = 0 := fun zz9 => c_1 ((nI_eq (a := dl) (b := 0) (by omega) (by omega)).mpr zz9)
    refine lv_aload_n hx hb d_D_failBroken_17 rfl (lv_at hl 0 rfl) ?_
    refine lv_aload_n hx hb d_D_failBroken_18 rfl (lv_at hl 0 rfl) ?_
    refine hp_get S hK hW (0) (by omega) rfl hS.1 rfl in_kD 4 (by decide) (hts _ (List.mem_cons_of_mem _ tq_18)) rfl d_D_failBroken_19 ?_
    refine hp_getN S hK hW (86) (by omega) rfl hS.2.2.2.2 rfl in_kF 3 (by decide) (List.mem_of_getElem? (i := 6) rfl) rfl d_D_failBroken_22 ?_
    refine lv_aload_n hx hb d_D_failBroken_25 rfl (lv_at hl 1 rfl) ?_
    refine hp_goi hW (va_runV S (s_size l g z0 N ad F hN rs kn op fp lm me dp wh te nu (nI E) hS j hj) (cwV 0 hts (tb_V cd_R_size tq_20 tq_21 tq_22 tq_3) rfl rfl rfl hd_R_size (rk_ok (by omega) (by omega))) (hp_preV hK hW (by omega) rfl (hS.row hj).obj rfl) rfl rfl hl.1 rfl (lv_room (Nat.le_of_ble_eq_true rfl)) d_D_failBroken_26 ⟨Nat.zero_le _, Nat.zero_le _⟩) (fun r_1 F_2 H locs hw hW => ?_)
    obtain ⟨hvq, hFq⟩ := hw
    rw [hFq] at hW
    rw [hvq]
    refine lv_icmp_ge (tgt := 36) hx hb d_D_failBroken_29 (by decide) (fun c_29 => ?_) (fun c_29 => ?_)
    · have c_29i := c_29
      replace c_29 : (rs j).length ≤ E := (nI_leI (a := (rs j).length) (b := E) (by omega) (by omega)).mp c_29
      refine lv_bipush (v := 7) hx hb d_D_failBroken_36 (by decide) ?_
      refine lv_iload_n hx hb d_D_failBroken_38 rfl (lv_at hl 3 rfl) ?_
      refine hp_goi hW (va_runV S (c_fail l g z0 N ad F hN rs kn op fp lm me dp wh te nu (nI E) hS 7 a) (cwV 2 hts (tb_V cd_D_fail tq_56 tq_57 tq_58 tq_27) rfl rfl rfl hd_D_fail (rk_ok (by omega) (by omega))) (hp_preV hK hW (by omega) rfl hS.1 rfl) rfl rfl hl.1 rfl (lv_room (Nat.le_of_ble_eq_true rfl)) d_D_failBroken_39 ⟨Nat.zero_le _, Nat.zero_le _⟩) (fun r_3 F_4 H locs hw hW => ?_)
      obtain ⟨hv1, hS1, hf1⟩ := hw
      rw [hv1]
      exact hp_reti S hK hW hr hlk d_D_failBroken_42 (by rw [if_neg (by omega), if_neg c_1]; exact ⟨rfl, hS1, hf1⟩)
    · have c_29i := c_29
      replace c_29 : ¬ (rs j).length ≤ E := fun zz9 => c_29 ((nI_leI (a := (rs j).length) (b := E) (by omega) (by omega)).mpr zz9)
      refine lv_iconst (v := 1) hx hb d_D_failBroken_32 (by decide) ?_
      refine lv_goto (tgt := 38) hx hb d_D_failBroken_33 (by decide) ?_
      refine lv_iload_n hx hb d_D_failBroken_38 rfl (lv_at hl 3 rfl) ?_
      refine hp_goi hW (va_runV S (c_fail l g z0 N ad F hN rs kn op fp lm me dp wh te nu (nI E) hS 1 a) (cwV 2 hts (tb_V cd_D_fail tq_56 tq_57 tq_58 tq_27) rfl rfl rfl hd_D_fail (rk_ok (by omega) (by omega))) (hp_preV hK hW (by omega) rfl hS.1 rfl) rfl rfl hl.1 rfl (lv_room (Nat.le_of_ble_eq_true rfl)) d_D_failBroken_39 ⟨Nat.zero_le _, Nat.zero_le _⟩) (fun r_5 F_6 H locs hw hW => ?_)
      obtain ⟨hv1, hS1, hf1⟩ := hw
      rw [hv1]
      exact hp_reti S hK hW hr hlk d_D_failBroken_42 (by rw [if_pos (Or.inr (by omega)), if_neg c_1]; exact ⟨rfl, hS1, hf1⟩)
  · have c_1i := c_1
    replace c_1 : dl = 0 := (nI_eq (a := dl) (b := 0) (by omega) (by omega)).mp c_1
    refine lv_aload_n hx hb d_D_failBroken_4 rfl (lv_at hl 0 rfl) ?_
    refine lv_iconst (v := 1) hx hb d_D_failBroken_5 (by decide) ?_
    refine lv_aload_n hx hb d_D_failBroken_6 rfl (lv_at hl 0 rfl) ?_
    refine hp_get S hK hW (0) (by omega) rfl hS.1 rfl in_kD 4 (by decide) (hts _ (List.mem_cons_of_mem _ tq_18)) rfl d_D_failBroken_7 ?_
    refine hp_getN S hK hW (86) (by omega) rfl hS.2.2.2.2 rfl in_kF 3 (by decide) (List.mem_of_getElem? (i := 6) rfl) rfl d_D_failBroken_10 ?_
    refine hp_goi hW (va_runV S (c_fail l g z0 N ad F hN rs kn op fp lm me dp wh te nu (nI E) hS 1 (nI E)) (cwV 2 hts (tb_V cd_D_fail tq_56 tq_57 tq_58 tq_27) rfl rfl rfl hd_D_fail (rk_ok (by omega) (by omega))) (hp_preV hK hW (by omega) rfl hS.1 rfl) rfl rfl hl.1 rfl (lv_room (Nat.le_of_ble_eq_true rfl)) d_D_failBroken_13 ⟨Nat.zero_le _, Nat.zero_le _⟩) (fun r_7 F_8 H locs hw hW => ?_)
    obtain ⟨hv1, hS1, hf1⟩ := hw
    rw [hv1]
    exact hp_reti S hK hW hr hlk d_D_failBroken_16 (by rw [if_pos (Or.inl c_1), if_pos c_1]; exact ⟨rfl, hS1, hf1⟩)
