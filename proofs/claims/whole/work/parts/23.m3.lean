set_option maxHeartbeats 400000 in
set_option maxRecDepth 100000 in
theorem tl_look_1 {p : Program} {e : Env} {s : State} {m : MethodId} {args : Array Value} {below : List Frame} {meth : Method} {c : Code} (l : Launch) (g : hp_G) (z0 N : Nat) (ad : Nat → Nat) (F : Nat → va_E) (hN : 96 ≤ N) (tape : List Int32) (kn : Nat → Bool) (rt : Nat → List Int32) (la mm : List Int32) (stk : List Nat) (ap : Nat → Int32) (tc fp me dp ou nu be : Int32) (hS : mS g ad F tape kn rt la mm stk ap tc fp me dp 0 ou 1 nu be) (q0 q : Nat) (hq0 : q0 < 1000) (hq : q < 1000) (Fz : Nat → va_E) (hfr : mFr Fz F) (S : CallFix p m c cc_M_look 6 s args ws_M_look R_M) (hr : meth.sig.returnType = none) (hlk : meth.locks = false) (hK : hp_K g s) (H : Heap) (locs : List Loc) (ls : Array Slot) (hW : hp_W g z0 N ad F s.heap H locs) (hl : lv_has ls 6 [(0, .ref (ad 87)), (1, .int (nI q0)), (3, .int (nI q))]) : W p l e (rk 2) s m args below meth c H locs 0 0 (MQ below (va_Qv (LK g ad Fz tape kn rt la mm stk ap tc fp me dp ou q0 (md_cl (mC tape rt stk) true nu q)) (hp_B g z0 N ad) (hp_A z0)) args s 0 0 (hp_A z0)) (F0 m 167 ls []) := by
  obtain ⟨hx, hb, hml, hown, hts⟩ := id S
  have in_kM : ∀ w ∈ u_ws R_M T_M 21, w ∈ ws_M_look := fun w h => List.mem_cons_of_mem _ (in0_M w h)
  have hcl := hS.cl
  obtain ⟨tp, hs, sz, tx, vl, ey, md, hR, ⟨htl, htp⟩, hT, ⟨hll, hvl⟩, hKs, hml0, hmd⟩ := id hS
  refine lv_aload_n hx hb d_M_look_167 rfl (lv_at hl 0 rfl) ?_
  refine lv_iload_n hx hb d_M_look_168 rfl (lv_at hl 2 rfl) ?_
  refine hp_goi hW (va_runV S (m_byteOf l g z0 N ad F hN tape kn rt la mm stk ap tc fp me dp 0 ou 1 nu be hS (q) (by omega)) (cwV 1 hts (tb_V cd_M_byteOf tq_124 tq_125 tq_126 tq_118) rfl rfl rfl hd_M_byteOf (rk_ok (by omega) (by omega))) (hp_preV hK hW (by omega) rfl hR.1 rfl) rfl rfl hl.1 rfl (lv_room (Nat.le_of_ble_eq_true rfl)) d_M_look_169 ⟨Nat.zero_le _, Nat.zero_le _⟩) (fun r_1 F_2 H locs hw hW => ?_)
  obtain ⟨hvq, hFq⟩ := hw
  rw [hFq] at hW
  rw [hvq]
  refine lv_bipush (v := 59) hx hb d_M_look_172 (by decide) ?_
  refine lv_icmp_eq (tgt := 183) hx hb d_M_look_174 (by decide) (fun c_174 => ?_) (fun c_174 => ?_)
  · have c_174i := c_174
    refine lv_aload_n hx hb d_M_look_183 rfl (lv_at hl 0 rfl) ?_
    refine lv_iload_n hx hb d_M_look_184 rfl (lv_at hl 2 rfl) ?_
    refine lv_iconst (v := 1) hx hb d_M_look_185 (by decide) ?_
    refine lv_iadd hx hb d_M_look_186 ?_
    rw [show ((nI q) + 1) = (nI (q + 1)) from (nI_succ q).symm]
    refine hp_put S hK hW (87) (by omega) rfl hR.1 rfl in_kM tyok_M nm_M 18 (by decide) (hts _ (List.mem_cons_of_mem _ tq_114)) rfl rfl rfl (Nat.le_of_ble_eq_true rfl) d_M_look_187 (fun H locs hW => ?_)
    obtain ⟨F_3, eF_3⟩ : ∃ z, z = va_up F (87) (.inr (kM, [.int tc, .ref (ad 88), .int (nI tape.length), .ref (ad 89), .ref (ad 90), .ref (ad 91), .ref (ad 92), .int (nI la.length), .int fp, .int me, .int dp, .int (nI stk.length), .ref (ad 93), .ref (ad 94), .int 0, .int ou, .int 1, .int nu, .int (nI (q + 1)), .ref (ad 95), .int (nI mm.length)])) := ⟨_, rfl⟩
    replace hW : hp_W g z0 N ad F_3 s.heap H locs := by rw [eF_3]; exact hW
    have f_4 : F_3 (87) = .inr (kM, [.int tc, .ref (ad 88), .int (nI tape.length), .ref (ad 89), .ref (ad 90), .ref (ad 91), .ref (ad 92), .int (nI la.length), .int fp, .int me, .int dp, .int (nI stk.length), .ref (ad 93), .ref (ad 94), .int 0, .int ou, .int 1, .int nu, .int (nI (q + 1)), .ref (ad 95), .int (nI mm.length)]) := by rw [eF_3, va_up_self]
    have f_5 : F_3 (88) = .inl (g.2 0, 200, .inl tp) := by rw [eF_3, va_up_ne _ _ (by omega)]; exact hR.2.1
    have f_6 : F_3 (89) = .inl (g.2 2, 26, .inl hs) := by rw [eF_3, va_up_ne _ _ (by omega)]; exact hR.2.2.1
    have f_7 : F_3 (90) = .inl (g.2 0, 26, .inl sz) := by rw [eF_3, va_up_ne _ _ (by omega)]; exact hR.2.2.2.1
    have f_8 : F_3 (91) = .inl (g.2 0, 2600, .inl tx) := by rw [eF_3, va_up_ne _ _ (by omega)]; exact hR.2.2.2.2.1
    have f_9 : F_3 (92) = .inl (g.2 0, 301, .inl vl) := by rw [eF_3, va_up_ne _ _ (by omega)]; exact hR.2.2.2.2.2.1
    have f_10 : F_3 (93) = .inl (g.2 0, 28, .inl ey) := by rw [eF_3, va_up_ne _ _ (by omega)]; exact hR.2.2.2.2.2.2.1
    have f_11 : F_3 (94) = .inl (g.2 0, 28, .inl ap) := by rw [eF_3, va_up_ne _ _ (by omega)]; exact hR.2.2.2.2.2.2.2.1
    have f_12 : F_3 (95) = .inl (g.2 0, 204, .inl md) := by rw [eF_3, va_up_ne _ _ (by omega)]; exact hR.2.2.2.2.2.2.2.2
    have hf_13 : mFr F F_3 := fun x hx => by rw [eF_3, va_up_ne _ _ (by omega)]
    refine lv_aload_n hx hb d_M_look_190 rfl (lv_at hl 0 rfl) ?_
    refine hp_get S hK hW (87) (by omega) rfl f_4 rfl in_kM 16 (by decide) (hts _ (List.mem_cons_of_mem _ tq_112)) rfl d_M_look_191 ?_
    refine lv_iconst (v := 2) hx hb d_M_look_194 (by decide) ?_
    refine lv_icmp_ne (tgt := 214) hx hb d_M_look_195 (by decide) (fun c_195 => ?_) (fun c_195 => absurd c_195 (show ¬ (1 : Int32) = 2 from by decide))
    have hX : (md_cl (mC tape rt stk) true nu q) = (true, true, nu, q + 1) := if_pos c_174i
    exact hp_retv S hK hW hr hlk d_M_look_214 (by rw [hX]; exact ⟨_, _, _, ⟨tp, hs, sz, tx, vl, ey, md, ⟨f_4, f_5, f_6, f_7, f_8, f_9, f_10, f_11, f_12⟩, ⟨htl, htp⟩, hT, ⟨hll, hvl⟩, hKs, hml0, hmd⟩, fun _ => ⟨rfl, rfl, rfl⟩, hfr.tr hf_13⟩)
  · have c_174i := c_174
    refine lv_aload_n hx hb d_M_look_177 rfl (lv_at hl 0 rfl) ?_
    refine lv_iload_n hx hb d_M_look_178 rfl (lv_at hl 2 rfl) ?_
    refine hp_gov hW (va_runV S (m_stops l g z0 N ad F hN tape kn rt la mm stk ap tc fp me dp 0 ou 1 nu be hS (q) (by omega) (by omega)) (cwV 1 hts (tb_V cd_M_stops tq_129 tq_130 tq_131 tq_118) rfl rfl rfl hd_M_stops (rk_ok (by omega) (by omega))) (hp_preV hK hW (by omega) rfl hR.1 rfl) rfl rfl hl.1 rfl (lv_room (Nat.le_of_ble_eq_true rfl)) d_M_look_179 ⟨Nat.zero_le _, Nat.zero_le _⟩) (fun F_15 H locs hw hW => ?_)
    obtain ⟨hS1, hg1⟩ := hw
    obtain ⟨tp, hs, sz, tx, vl, ey, md, hR, ⟨htl, htp⟩, hT, ⟨hll, hvl⟩, hKs, hml0, hmd⟩ := id hS1
    have hX : (md_cl (mC tape rt stk) true nu q) = (false, true, nu, q) := if_neg c_174i
    exact hp_retv S hK hW hr hlk d_M_look_182 (by rw [hX]; exact ⟨_, _, _, by rw [pf_n (by show ¬ (if _ then 1 else 7) = 0; split <;> omega)]; exact hS1, (fun z => by cases z), hfr.tr hg1⟩)

set_option maxHeartbeats 400000 in
set_option maxRecDepth 100000 in
theorem tl_look_2 {p : Program} {e : Env} {s : State} {m : MethodId} {args : Array Value} {below : List Frame} {meth : Method} {c : Code} (l : Launch) (g : hp_G) (z0 N : Nat) (ad : Nat → Nat) (F : Nat → va_E) (hN : 96 ≤ N) (tape : List Int32) (kn : Nat → Bool) (rt : Nat → List Int32) (la mm : List Int32) (stk : List Nat) (ap : Nat → Int32) (tc fp me dp ou nu be : Int32) (hS : mS g ad F tape kn rt la mm stk ap tc fp me dp 0 ou 2 nu be) (q0 q : Nat) (hq0 : q0 < 1000) (hq : q < 1000) (Fz : Nat → va_E) (hfr : mFr Fz F) (S : CallFix p m c cc_M_look 6 s args ws_M_look R_M) (hr : meth.sig.returnType = none) (hlk : meth.locks = false) (hK : hp_K g s) (H : Heap) (locs : List Loc) (ls : Array Slot) (hW : hp_W g z0 N ad F s.heap H locs) (hl : lv_has ls 6 [(0, .ref (ad 87)), (1, .int (nI q0)), (3, .int (nI q))]) : W p l e (rk 2) s m args below meth c H locs 0 0 (MQ below (va_Qv (LK g ad Fz tape kn rt la mm stk ap tc fp me dp ou q0 (md_cl (mC tape rt stk) false nu q)) (hp_B g z0 N ad) (hp_A z0)) args s 0 0 (hp_A z0)) (F0 m 167 ls []) := by
  obtain ⟨hx, hb, hml, hown, hts⟩ := id S
  have in_kM : ∀ w ∈ u_ws R_M T_M 21, w ∈ ws_M_look := fun w h => List.mem_cons_of_mem _ (in0_M w h)
  have hcl := hS.cl
  obtain ⟨tp, hs, sz, tx, vl, ey, md, hR, ⟨htl, htp⟩, hT, ⟨hll, hvl⟩, hKs, hml0, hmd⟩ := id hS
  refine lv_aload_n hx hb d_M_look_167 rfl (lv_at hl 0 rfl) ?_
  refine lv_iload_n hx hb d_M_look_168 rfl (lv_at hl 2 rfl) ?_
  refine hp_goi hW (va_runV S (m_byteOf l g z0 N ad F hN tape kn rt la mm stk ap tc fp me dp 0 ou 2 nu be hS (q) (by omega)) (cwV 1 hts (tb_V cd_M_byteOf tq_124 tq_125 tq_126 tq_118) rfl rfl rfl hd_M_byteOf (rk_ok (by omega) (by omega))) (hp_preV hK hW (by omega) rfl hR.1 rfl) rfl rfl hl.1 rfl (lv_room (Nat.le_of_ble_eq_true rfl)) d_M_look_169 ⟨Nat.zero_le _, Nat.zero_le _⟩) (fun r_1 F_2 H locs hw hW => ?_)
  obtain ⟨hvq, hFq⟩ := hw
  rw [hFq] at hW
  rw [hvq]
  refine lv_bipush (v := 59) hx hb d_M_look_172 (by decide) ?_
  refine lv_icmp_eq (tgt := 183) hx hb d_M_look_174 (by decide) (fun c_174 => ?_) (fun c_174 => ?_)
  · have c_174i := c_174
    refine lv_aload_n hx hb d_M_look_183 rfl (lv_at hl 0 rfl) ?_
    refine lv_iload_n hx hb d_M_look_184 rfl (lv_at hl 2 rfl) ?_
    refine lv_iconst (v := 1) hx hb d_M_look_185 (by decide) ?_
    refine lv_iadd hx hb d_M_look_186 ?_
    rw [show ((nI q) + 1) = (nI (q + 1)) from (nI_succ q).symm]
    refine hp_put S hK hW (87) (by omega) rfl hR.1 rfl in_kM tyok_M nm_M 18 (by decide) (hts _ (List.mem_cons_of_mem _ tq_114)) rfl rfl rfl (Nat.le_of_ble_eq_true rfl) d_M_look_187 (fun H locs hW => ?_)
    obtain ⟨F_3, eF_3⟩ : ∃ z, z = va_up F (87) (.inr (kM, [.int tc, .ref (ad 88), .int (nI tape.length), .ref (ad 89), .ref (ad 90), .ref (ad 91), .ref (ad 92), .int (nI la.length), .int fp, .int me, .int dp, .int (nI stk.length), .ref (ad 93), .ref (ad 94), .int 0, .int ou, .int 2, .int nu, .int (nI (q + 1)), .ref (ad 95), .int (nI mm.length)])) := ⟨_, rfl⟩
    replace hW : hp_W g z0 N ad F_3 s.heap H locs := by rw [eF_3]; exact hW
    have f_4 : F_3 (87) = .inr (kM, [.int tc, .ref (ad 88), .int (nI tape.length), .ref (ad 89), .ref (ad 90), .ref (ad 91), .ref (ad 92), .int (nI la.length), .int fp, .int me, .int dp, .int (nI stk.length), .ref (ad 93), .ref (ad 94), .int 0, .int ou, .int 2, .int nu, .int (nI (q + 1)), .ref (ad 95), .int (nI mm.length)]) := by rw [eF_3, va_up_self]
    have f_5 : F_3 (88) = .inl (g.2 0, 200, .inl tp) := by rw [eF_3, va_up_ne _ _ (by omega)]; exact hR.2.1
    have f_6 : F_3 (89) = .inl (g.2 2, 26, .inl hs) := by rw [eF_3, va_up_ne _ _ (by omega)]; exact hR.2.2.1
    have f_7 : F_3 (90) = .inl (g.2 0, 26, .inl sz) := by rw [eF_3, va_up_ne _ _ (by omega)]; exact hR.2.2.2.1
    have f_8 : F_3 (91) = .inl (g.2 0, 2600, .inl tx) := by rw [eF_3, va_up_ne _ _ (by omega)]; exact hR.2.2.2.2.1
    have f_9 : F_3 (92) = .inl (g.2 0, 301, .inl vl) := by rw [eF_3, va_up_ne _ _ (by omega)]; exact hR.2.2.2.2.2.1
    have f_10 : F_3 (93) = .inl (g.2 0, 28, .inl ey) := by rw [eF_3, va_up_ne _ _ (by omega)]; exact hR.2.2.2.2.2.2.1
    have f_11 : F_3 (94) = .inl (g.2 0, 28, .inl ap) := by rw [eF_3, va_up_ne _ _ (by omega)]; exact hR.2.2.2.2.2.2.2.1
    have f_12 : F_3 (95) = .inl (g.2 0, 204, .inl md) := by rw [eF_3, va_up_ne _ _ (by omega)]; exact hR.2.2.2.2.2.2.2.2
    have hf_13 : mFr F F_3 := fun x hx => by rw [eF_3, va_up_ne _ _ (by omega)]
    refine lv_aload_n hx hb d_M_look_190 rfl (lv_at hl 0 rfl) ?_
    refine hp_get S hK hW (87) (by omega) rfl f_4 rfl in_kM 16 (by decide) (hts _ (List.mem_cons_of_mem _ tq_112)) rfl d_M_look_191 ?_
    refine lv_iconst (v := 2) hx hb d_M_look_194 (by decide) ?_
    refine lv_icmp_ne (tgt := 214) hx hb d_M_look_195 (by decide) (fun c_195 => absurd c_195 (show ¬ (¬ (2 : Int32) = 2) from by decide)) (fun c_195 => ?_)
    refine lv_aload_n hx hb d_M_look_198 rfl (lv_at hl 0 rfl) ?_
    refine hp_get S hK hW (87) (by omega) rfl f_4 rfl in_kM 17 (by decide) (hts _ (List.mem_cons_of_mem _ tq_113)) rfl d_M_look_199 ?_
    refine hp_goi hW (va_runS S (m_isCharacter l g z0 N ad F_3 nu) (va_cwS 1 hts (tb_S cd_M_isCharacter tq_132 tq_133 tq_118) rfl rfl rfl hd_M_isCharacter.2 (rk_ok (by omega) (by omega))) (hp_preS hK hW) rfl rfl hl.1 rfl (lv_room (Nat.le_of_ble_eq_true rfl)) d_M_look_202 ⟨Nat.zero_le _, Nat.zero_le _⟩) (fun r_14 F_15 H locs hw hW => ?_)
    obtain ⟨hvq, hFq⟩ := hw
    rw [hFq] at hW
    rw [hvq]
    refine lv_if_ne (tgt := 214) hx hb d_M_look_205 (by decide) (fun c_205 => ?_) (fun c_205 => ?_)
    · have c_205i := c_205
      have hX : (md_cl (mC tape rt stk) false nu q) = (true, false, nu, q + 1) := if_pos c_174i
      have hch := b2_n0.mp c_205i
      exact hp_retv S hK hW hr hlk d_M_look_214 (by rw [hX]; exact ⟨_, _, _, by rw [show lkf stk.length (mC tape rt stk).length (true, false, nu, q + 1) = 0 from if_pos (Or.inr hch)]; exact ⟨tp, hs, sz, tx, vl, ey, md, ⟨f_4, f_5, f_6, f_7, f_8, f_9, f_10, f_11, f_12⟩, ⟨htl, htp⟩, hT, ⟨hll, hvl⟩, hKs, hml0, hmd⟩, fun _ => ⟨rfl, rfl, rfl⟩, hfr.tr hf_13⟩)
    · have c_205i := c_205
      refine lv_aload_n hx hb d_M_look_208 rfl (lv_at hl 0 rfl) ?_
      refine lv_iconst (v := 5) hx hb d_M_look_209 (by decide) ?_
      refine lv_iload_n hx hb d_M_look_210 rfl (lv_at hl 1 rfl) ?_
      refine hp_gov hW (va_runV S (m_fails l g z0 N ad F_3 hN tape kn rt la mm stk ap tc fp me dp 0 ou 2 nu (nI (q + 1)) ⟨tp, hs, sz, tx, vl, ey, md, ⟨f_4, f_5, f_6, f_7, f_8, f_9, f_10, f_11, f_12⟩, ⟨htl, htp⟩, hT, ⟨hll, hvl⟩, hKs, hml0, hmd⟩ 5 (nI q0)) (cwV 2 hts (tb_V cd_M_fails tq_121 tq_122 tq_123 tq_118) rfl rfl rfl hd_M_fails (rk_ok (by omega) (by omega))) (hp_preV hK hW (by omega) rfl f_4 rfl) rfl rfl hl.1 rfl (lv_room (Nat.le_of_ble_eq_true rfl)) d_M_look_211 ⟨Nat.zero_le _, Nat.zero_le _⟩) (fun F_17 H locs hw hW => ?_)
      obtain ⟨hS1, hg1⟩ := hw
      obtain ⟨tp, hs, sz, tx, vl, ey, md, hR, ⟨htl, htp⟩, hT, ⟨hll, hvl⟩, hKs, hml0, hmd⟩ := id hS1
      have hX : (md_cl (mC tape rt stk) false nu q) = (true, false, nu, q + 1) := if_pos c_174i
      have hch := b2_0.mp c_205i
      exact hp_retv S hK hW hr hlk d_M_look_214 (by rw [hX]; exact ⟨_, _, _, by rw [show lkf stk.length (mC tape rt stk).length (true, false, nu, q + 1) = 5 from lkf_5 hch]; exact hS1, fun _ => ⟨rfl, rfl, rfl⟩, hfr.tr (hf_13.tr hg1)⟩)
  · have c_174i := c_174
    refine lv_aload_n hx hb d_M_look_177 rfl (lv_at hl 0 rfl) ?_
    refine lv_iload_n hx hb d_M_look_178 rfl (lv_at hl 2 rfl) ?_
    refine hp_gov hW (va_runV S (m_stops l g z0 N ad F hN tape kn rt la mm stk ap tc fp me dp 0 ou 2 nu be hS (q) (by omega) (by omega)) (cwV 1 hts (tb_V cd_M_stops tq_129 tq_130 tq_131 tq_118) rfl rfl rfl hd_M_stops (rk_ok (by omega) (by omega))) (hp_preV hK hW (by omega) rfl hR.1 rfl) rfl rfl hl.1 rfl (lv_room (Nat.le_of_ble_eq_true rfl)) d_M_look_179 ⟨Nat.zero_le _, Nat.zero_le _⟩) (fun F_19 H locs hw hW => ?_)
    obtain ⟨hS1, hg1⟩ := hw
    obtain ⟨tp, hs, sz, tx, vl, ey, md, hR, ⟨htl, htp⟩, hT, ⟨hll, hvl⟩, hKs, hml0, hmd⟩ := id hS1
    have hX : (md_cl (mC tape rt stk) false nu q) = (false, false, nu, q) := if_neg c_174i
    exact hp_retv S hK hW hr hlk d_M_look_182 (by rw [hX]; exact ⟨_, _, _, by rw [pf_n (by show ¬ (if _ then 1 else 7) = 0; split <;> omega)]; exact hS1, (fun z => by cases z), hfr.tr hg1⟩)

/-! the reference: look, its digits -/
set_option maxHeartbeats 400000 in
set_option maxRecDepth 100000 in
theorem lp_look_1 {p : Program} {e : Env} {s : State} {m : MethodId} {args : Array Value} {below : List Frame} {meth : Method} {c : Code} (l : Launch) (g : hp_G) (z0 N : Nat) (ad : Nat → Nat)  (hN : 96 ≤ N) (tape : List Int32) (kn : Nat → Bool) (rt : Nat → List Int32) (la mm : List Int32) (stk : List Nat) (ap : Nat → Int32) (tc fp me dp ou be : Int32) (q0 fr : Nat) (hq0 : q0 < 900) (hfr0 : fr < 900) (x2 : Int32) (Fz : Nat → va_E) (S : CallFix p m c cc_M_look 6 s args ws_M_look R_M) (hr : meth.sig.returnType = none) (hlk : meth.locks = false) (hK : hp_K g s) : ∀ (j : Nat) (d : Nat) (num : Int32) (F : Nat → va_E), d ≤ 6 → 7 ≤ d + j → mS g ad F tape kn rt la mm stk ap tc fp me dp 0 ou 2 num be → (md_dgs true (mC tape rt stk) 6 fr 0) = md_dgs true (mC tape rt stk) (6 - d) (fr + d) num → mFr Fz F → ∀ (H : Heap) (locs : List Loc) (ls : Array Slot), hp_W g z0 N ad F s.heap H locs → lv_has ls 6 [(0, .ref (ad 87)), (1, .int (nI q0)), (2, .int x2), (3, .int (nI (fr + d))), (4, .int 1), (5, .int (nI d))] → W p l e (rk 2) s m args below meth c H locs 0 0 (MQ below (va_Qv (LK g ad Fz tape kn rt la mm stk ap tc fp me dp ou q0 (md_num true (mC tape rt stk) fr)) (hp_B g z0 N ad) (hp_A z0)) args s 0 0 (hp_A z0)) (F0 m 84 ls []) := by
  obtain ⟨hx, hb, hml, hown, hts⟩ := id S
  have in_kM : ∀ w ∈ u_ws R_M T_M 21, w ∈ ws_M_look := fun w h => List.mem_cons_of_mem _ (in0_M w h)
  intro j
  induction j with
  | zero =>
    intro d num F hd hj hS hD hfr H locs ls hW hl
    exact absurd hj (by omega)
  | succ j ih =>
    intro d num F hd hj hS hD hfr H locs ls hW hl
    have hcl := hS.cl
    obtain ⟨tp, hs, sz, tx, vl, ey, md, hR, ⟨htl, htp⟩, hT, ⟨hll, hvl⟩, hKs, hml0, hmd⟩ := id hS
    refine lv_iload hx hb d_M_look_84 (lv_at hl 5 rfl) ?_
    refine lv_bipush (v := 6) hx hb d_M_look_86 (by decide) ?_
    refine lv_icmp_ge (tgt := 145) hx hb d_M_look_88 (by decide) (fun c_88 => ?_) (fun c_88 => ?_)
    · have c_88i := c_88
      replace c_88 : 6 ≤ d := (nI_leI (a := 6) (b := d) (by omega) (by omega)).mp c_88
      have hend : (md_dgs true (mC tape rt stk) 6 fr 0) = (fr + d, num) := by rw [hD, show 6 - d = 0 by omega]; rfl
      refine lv_iload hx hb d_M_look_145 (lv_at hl 5 rfl) ?_
      refine lv_if_ne (tgt := 156) hx hb d_M_look_147 (by decide) (fun c_147 => ?_) (fun c_147 => ?_)
      · have c_147i := c_147
        replace c_147 : ¬ d = 0 := fun zz9 => c_147 ((nI_eq (a := d) (b := 0) (by omega) (by omega)).mpr zz9)
        refine lv_goto (tgt := 167) hx hb d_M_look_156 (by decide) ?_
        have hX : (md_num true (mC tape rt stk) fr) = md_cl (mC tape rt stk) false num (fr + d) := by unfold md_num; rw [hend]; exact if_neg (by show ¬ fr + d = fr; omega)
        rw [hX]
        exact tl_look_2 l g z0 N ad F hN tape kn rt la mm stk ap tc fp me dp ou num be hS q0 (fr + d) (by omega) (by omega) Fz hfr S hr hlk hK H locs ls hW (lv_sub hl [0, 1, 3] rfl)
      · have c_147i := c_147
        replace c_147 : d = 0 := (nI_eq (a := d) (b := 0) (by omega) (by omega)).mp c_147
        refine lv_aload_n hx hb d_M_look_150 rfl (lv_at hl 0 rfl) ?_
        refine lv_iload_n hx hb d_M_look_151 rfl (lv_at hl 3 rfl) ?_
        refine hp_gov hW (va_runV S (m_stops l g z0 N ad F hN tape kn rt la mm stk ap tc fp me dp 0 ou 2 num be hS (fr + d) (by omega) (by omega)) (cwV 1 hts (tb_V cd_M_stops tq_129 tq_130 tq_131 tq_118) rfl rfl rfl hd_M_stops (rk_ok (by omega) (by omega))) (hp_preV hK hW (by omega) rfl hR.1 rfl) rfl rfl hl.1 rfl (lv_room (Nat.le_of_ble_eq_true rfl)) d_M_look_152 ⟨Nat.zero_le _, Nat.zero_le _⟩) (fun F_2 H locs hw hW => ?_)
        obtain ⟨hS1, hg1⟩ := hw
        obtain ⟨tp, hs, sz, tx, vl, ey, md, hR, ⟨htl, htp⟩, hT, ⟨hll, hvl⟩, hKs, hml0, hmd⟩ := id hS1
        have hX : (md_num true (mC tape rt stk) fr) = (false, false, 0, fr) := by unfold md_num; rw [hend]; exact if_pos (by show fr + d = fr; omega)
        have hd0 : d = 0 := by omega
        subst hd0
        exact hp_retv S hK hW hr hlk d_M_look_155 (by rw [hX]; exact ⟨_, _, _, by rw [pf_n (by show ¬ (if _ then 1 else 7) = 0; split <;> omega)]; exact hS1, (fun z => by cases z), hfr.tr hg1⟩)
    · have c_88i := c_88
      replace c_88 : ¬ 6 ≤ d := fun zz9 => c_88 ((nI_leI (a := 6) (b := d) (by omega) (by omega)).mpr zz9)
      refine lv_aload_n hx hb d_M_look_91 rfl (lv_at hl 0 rfl) ?_
      refine lv_iload_n hx hb d_M_look_92 rfl (lv_at hl 3 rfl) ?_
      refine hp_goi hW (va_runV S (m_byteOf l g z0 N ad F hN tape kn rt la mm stk ap tc fp me dp 0 ou 2 num be hS (fr + d) (by omega)) (cwV 1 hts (tb_V cd_M_byteOf tq_124 tq_125 tq_126 tq_118) rfl rfl rfl hd_M_byteOf (rk_ok (by omega) (by omega))) (hp_preV hK hW (by omega) rfl hR.1 rfl) rfl rfl hl.1 rfl (lv_room (Nat.le_of_ble_eq_true rfl)) d_M_look_93 ⟨Nat.zero_le _, Nat.zero_le _⟩) (fun r_3 F_4 H locs hw hW => ?_)
      obtain ⟨hvq, hFq⟩ := hw
      rw [hFq] at hW
      rw [hvq]
      refine lv_iload hx hb d_M_look_96 (lv_at hl 4 rfl) ?_
      refine hp_goi hW (va_runS S (m_digit_1 l g z0 N ad F (md_at (mC tape rt stk) (fr + d))) (va_cwS 2 hts (tb_S cd_M_digit tq_127 tq_128 tq_118) rfl rfl rfl hd_M_digit.2 (rk_ok (by omega) (by omega))) (hp_preS hK hW) rfl rfl hl.1 rfl (lv_room (Nat.le_of_ble_eq_true rfl)) d_M_look_98 ⟨Nat.zero_le _, Nat.zero_le _⟩) (fun r_5 F_6 H locs hw hW => ?_)
      obtain ⟨hvq, hFq⟩ := hw
      rw [hFq] at hW
      rw [hvq]
      refine lv_if_lt (tgt := 145) hx hb d_M_look_101 (by decide) (fun c_101 => ?_) (fun c_101 => ?_)
      · have c_101i := c_101
        have c_101j := Int32.not_le.mpr c_101
        have hend : (md_dgs true (mC tape rt stk) 6 fr 0) = (fr + d, num) := by rw [hD]; exact dgs_end (Int32.not_le.mpr c_101)
        refine lv_iload hx hb d_M_look_145 (lv_at hl 5 rfl) ?_
        refine lv_if_ne (tgt := 156) hx hb d_M_look_147 (by decide) (fun c_147 => ?_) (fun c_147 => ?_)
        · have c_147i := c_147
          replace c_147 : ¬ d = 0 := fun zz9 => c_147 ((nI_eq (a := d) (b := 0) (by omega) (by omega)).mpr zz9)
          refine lv_goto (tgt := 167) hx hb d_M_look_156 (by decide) ?_
          have hX : (md_num true (mC tape rt stk) fr) = md_cl (mC tape rt stk) false num (fr + d) := by unfold md_num; rw [hend]; exact if_neg (by show ¬ fr + d = fr; omega)
          rw [hX]
          exact tl_look_2 l g z0 N ad F hN tape kn rt la mm stk ap tc fp me dp ou num be hS q0 (fr + d) (by omega) (by omega) Fz hfr S hr hlk hK H locs ls hW (lv_sub hl [0, 1, 3] rfl)
        · have c_147i := c_147
          replace c_147 : d = 0 := (nI_eq (a := d) (b := 0) (by omega) (by omega)).mp c_147
          refine lv_aload_n hx hb d_M_look_150 rfl (lv_at hl 0 rfl) ?_
          refine lv_iload_n hx hb d_M_look_151 rfl (lv_at hl 3 rfl) ?_
          refine hp_gov hW (va_runV S (m_stops l g z0 N ad F hN tape kn rt la mm stk ap tc fp me dp 0 ou 2 num be hS (fr + d) (by omega) (by omega)) (cwV 1 hts (tb_V cd_M_stops tq_129 tq_130 tq_131 tq_118) rfl rfl rfl hd_M_stops (rk_ok (by omega) (by omega))) (hp_preV hK hW (by omega) rfl hR.1 rfl) rfl rfl hl.1 rfl (lv_room (Nat.le_of_ble_eq_true rfl)) d_M_look_152 ⟨Nat.zero_le _, Nat.zero_le _⟩) (fun F_8 H locs hw hW => ?_)
          obtain ⟨hS1, hg1⟩ := hw
          obtain ⟨tp, hs, sz, tx, vl, ey, md, hR, ⟨htl, htp⟩, hT, ⟨hll, hvl⟩, hKs, hml0, hmd⟩ := id hS1
          have hX : (md_num true (mC tape rt stk) fr) = (false, false, 0, fr) := by unfold md_num; rw [hend]; exact if_pos (by show fr + d = fr; omega)
          have hd0 : d = 0 := by omega
          subst hd0
          exact hp_retv S hK hW hr hlk d_M_look_155 (by rw [hX]; exact ⟨_, _, _, by rw [pf_n (by show ¬ (if _ then 1 else 7) = 0; split <;> omega)]; exact hS1, (fun z => by cases z), hfr.tr hg1⟩)
      · have c_101i := c_101
        have c_101j := Int32.not_lt.mp c_101
        have c_101i := Int32.not_lt.mp c_101
        refine lv_aload_n hx hb d_M_look_104 rfl (lv_at hl 0 rfl) ?_
        refine lv_aload_n hx hb d_M_look_105 rfl (lv_at hl 0 rfl) ?_
        refine hp_get S hK hW (87) (by omega) rfl hR.1 rfl in_kM 17 (by decide) (hts _ (List.mem_cons_of_mem _ tq_113)) rfl d_M_look_106 ?_
        refine lv_iload hx hb d_M_look_109 (lv_at hl 4 rfl) ?_
        refine lv_if_eq (tgt := 119) hx hb d_M_look_111 (by decide) (fun c_111 => absurd c_111 (show ¬ ((1 : Int32) = 0) from by decide)) (fun c_111 => ?_)
        refine lv_bipush (v := 16) hx hb d_M_look_114 (by decide) ?_
        refine lv_goto (tgt := 121) hx hb d_M_look_116 (by decide) ?_
        refine lv_imul hx hb d_M_look_121 ?_
        refine lv_aload_n hx hb d_M_look_122 rfl (lv_at hl 0 rfl) ?_
        refine lv_iload_n hx hb d_M_look_123 rfl (lv_at hl 3 rfl) ?_
        refine hp_goi hW (va_runV S (m_byteOf l g z0 N ad F hN tape kn rt la mm stk ap tc fp me dp 0 ou 2 num be hS (fr + d) (by omega)) (cwV 1 hts (tb_V cd_M_byteOf tq_124 tq_125 tq_126 tq_118) rfl rfl rfl hd_M_byteOf (rk_ok (by omega) (by omega))) (hp_preV hK hW (by omega) rfl hR.1 rfl) rfl rfl hl.1 rfl (lv_room (Nat.le_of_ble_eq_true rfl)) d_M_look_124 ⟨Nat.zero_le _, Nat.zero_le _⟩) (fun r_9 F_10 H locs hw hW => ?_)
        obtain ⟨hvq, hFq⟩ := hw
        rw [hFq] at hW
        rw [hvq]
        refine lv_iload hx hb d_M_look_127 (lv_at hl 4 rfl) ?_
        refine hp_goi hW (va_runS S (m_digit_1 l g z0 N ad F (md_at (mC tape rt stk) (fr + d))) (va_cwS 2 hts (tb_S cd_M_digit tq_127 tq_128 tq_118) rfl rfl rfl hd_M_digit.2 (rk_ok (by omega) (by omega))) (hp_preS hK hW) rfl rfl hl.1 rfl (lv_room (Nat.le_of_ble_eq_true rfl)) d_M_look_129 ⟨Nat.zero_le _, Nat.zero_le _⟩) (fun r_11 F_12 H locs hw hW => ?_)
        obtain ⟨hvq, hFq⟩ := hw
        rw [hFq] at hW
        rw [hvq]
        refine lv_iadd hx hb d_M_look_132 ?_
        refine hp_put S hK hW (87) (by omega) rfl hR.1 rfl in_kM tyok_M nm_M 17 (by decide) (hts _ (List.mem_cons_of_mem _ tq_113)) rfl rfl rfl (Nat.le_of_ble_eq_true rfl) d_M_look_133 (fun H locs hW => ?_)
        obtain ⟨F_13, eF_13⟩ : ∃ z, z = va_up F (87) (.inr (kM, [.int tc, .ref (ad 88), .int (nI tape.length), .ref (ad 89), .ref (ad 90), .ref (ad 91), .ref (ad 92), .int (nI la.length), .int fp, .int me, .int dp, .int (nI stk.length), .ref (ad 93), .ref (ad 94), .int 0, .int ou, .int 2, .int ((num * 16) + (md_dg true (md_at (mC tape rt stk) (fr + d)))), .int be, .ref (ad 95), .int (nI mm.length)])) := ⟨_, rfl⟩
        replace hW : hp_W g z0 N ad F_13 s.heap H locs := by rw [eF_13]; exact hW
        have f_14 : F_13 (87) = .inr (kM, [.int tc, .ref (ad 88), .int (nI tape.length), .ref (ad 89), .ref (ad 90), .ref (ad 91), .ref (ad 92), .int (nI la.length), .int fp, .int me, .int dp, .int (nI stk.length), .ref (ad 93), .ref (ad 94), .int 0, .int ou, .int 2, .int ((num * 16) + (md_dg true (md_at (mC tape rt stk) (fr + d)))), .int be, .ref (ad 95), .int (nI mm.length)]) := by rw [eF_13, va_up_self]
        have f_15 : F_13 (88) = .inl (g.2 0, 200, .inl tp) := by rw [eF_13, va_up_ne _ _ (by omega)]; exact hR.2.1
        have f_16 : F_13 (89) = .inl (g.2 2, 26, .inl hs) := by rw [eF_13, va_up_ne _ _ (by omega)]; exact hR.2.2.1
        have f_17 : F_13 (90) = .inl (g.2 0, 26, .inl sz) := by rw [eF_13, va_up_ne _ _ (by omega)]; exact hR.2.2.2.1
        have f_18 : F_13 (91) = .inl (g.2 0, 2600, .inl tx) := by rw [eF_13, va_up_ne _ _ (by omega)]; exact hR.2.2.2.2.1
        have f_19 : F_13 (92) = .inl (g.2 0, 301, .inl vl) := by rw [eF_13, va_up_ne _ _ (by omega)]; exact hR.2.2.2.2.2.1
        have f_20 : F_13 (93) = .inl (g.2 0, 28, .inl ey) := by rw [eF_13, va_up_ne _ _ (by omega)]; exact hR.2.2.2.2.2.2.1
        have f_21 : F_13 (94) = .inl (g.2 0, 28, .inl ap) := by rw [eF_13, va_up_ne _ _ (by omega)]; exact hR.2.2.2.2.2.2.2.1
        have f_22 : F_13 (95) = .inl (g.2 0, 204, .inl md) := by rw [eF_13, va_up_ne _ _ (by omega)]; exact hR.2.2.2.2.2.2.2.2
        have hf_23 : mFr F F_13 := fun x hx => by rw [eF_13, va_up_ne _ _ (by omega)]
        refine lv_iinc (v := (nI (d + 1))) (lv' := [(5, .int (nI (d + 1))), (0, .ref (ad 87)), (1, .int (nI q0)), (2, .int x2), (3, .int (nI (fr + d))), (4, .int 1)]) hx hb d_M_look_136 hl (k := 5) rfl ((nI_succ (d)).symm) (by decide) rfl (fun ls hl => ?_)
        refine lv_iinc (v := (nI ((fr + d) + 1))) (lv' := [(3, .int (nI ((fr + d) + 1))), (5, .int (nI (d + 1))), (0, .ref (ad 87)), (1, .int (nI q0)), (2, .int x2), (4, .int 1)]) hx hb d_M_look_139 hl (k := 4) rfl ((nI_succ ((fr + d))).symm) (by decide) rfl (fun ls hl => ?_)
        refine lv_goto (tgt := 84) hx hb d_M_look_142 (by decide) ?_
        exact ih (d + 1) _ F_13 (by omega) (by omega) ⟨tp, hs, sz, tx, vl, ey, md, ⟨f_14, f_15, f_16, f_17, f_18, f_19, f_20, f_21, f_22⟩, ⟨htl, htp⟩, hT, ⟨hll, hvl⟩, hKs, hml0, hmd⟩ (by rw [hD, show 6 - d = (6 - (d + 1)) + 1 by omega, dgs_go c_101i]; rfl) (hfr.tr hf_23) H locs ls hW (lv_sub hl [2, 3, 4, 0, 5, 1] rfl)

/-! the reference: look, its digits -/
set_option maxHeartbeats 400000 in
set_option maxRecDepth 100000 in
theorem lp_look_0 {p : Program} {e : Env} {s : State} {m : MethodId} {args : Array Value} {below : List Frame} {meth : Method} {c : Code} (l : Launch) (g : hp_G) (z0 N : Nat) (ad : Nat → Nat)  (hN : 96 ≤ N) (tape : List Int32) (kn : Nat → Bool) (rt : Nat → List Int32) (la mm : List Int32) (stk : List Nat) (ap : Nat → Int32) (tc fp me dp ou be : Int32) (q0 fr : Nat) (hq0 : q0 < 900) (hfr0 : fr < 900) (x2 : Int32) (Fz : Nat → va_E) (S : CallFix p m c cc_M_look 6 s args ws_M_look R_M) (hr : meth.sig.returnType = none) (hlk : meth.locks = false) (hK : hp_K g s) : ∀ (j : Nat) (d : Nat) (num : Int32) (F : Nat → va_E), d ≤ 6 → 7 ≤ d + j → mS g ad F tape kn rt la mm stk ap tc fp me dp 0 ou 2 num be → (md_dgs false (mC tape rt stk) 6 fr 0) = md_dgs false (mC tape rt stk) (6 - d) (fr + d) num → mFr Fz F → ∀ (H : Heap) (locs : List Loc) (ls : Array Slot), hp_W g z0 N ad F s.heap H locs → lv_has ls 6 [(0, .ref (ad 87)), (1, .int (nI q0)), (2, .int x2), (3, .int (nI (fr + d))), (4, .int 0), (5, .int (nI d))] → W p l e (rk 2) s m args below meth c H locs 0 0 (MQ below (va_Qv (LK g ad Fz tape kn rt la mm stk ap tc fp me dp ou q0 (md_num false (mC tape rt stk) fr)) (hp_B g z0 N ad) (hp_A z0)) args s 0 0 (hp_A z0)) (F0 m 84 ls []) := by
  obtain ⟨hx, hb, hml, hown, hts⟩ := id S
  have in_kM : ∀ w ∈ u_ws R_M T_M 21, w ∈ ws_M_look := fun w h => List.mem_cons_of_mem _ (in0_M w h)
  intro j
  induction j with
  | zero =>
    intro d num F hd hj hS hD hfr H locs ls hW hl
    exact absurd hj (by omega)
  | succ j ih =>
    intro d num F hd hj hS hD hfr H locs ls hW hl
    have hcl := hS.cl
    obtain ⟨tp, hs, sz, tx, vl, ey, md, hR, ⟨htl, htp⟩, hT, ⟨hll, hvl⟩, hKs, hml0, hmd⟩ := id hS
    refine lv_iload hx hb d_M_look_84 (lv_at hl 5 rfl) ?_
    refine lv_bipush (v := 6) hx hb d_M_look_86 (by decide) ?_
    refine lv_icmp_ge (tgt := 145) hx hb d_M_look_88 (by decide) (fun c_88 => ?_) (fun c_88 => ?_)
    · have c_88i := c_88
      replace c_88 : 6 ≤ d := (nI_leI (a := 6) (b := d) (by omega) (by omega)).mp c_88
      have hend : (md_dgs false (mC tape rt stk) 6 fr 0) = (fr + d, num) := by rw [hD, show 6 - d = 0 by omega]; rfl
      refine lv_iload hx hb d_M_look_145 (lv_at hl 5 rfl) ?_
      refine lv_if_ne (tgt := 156) hx hb d_M_look_147 (by decide) (fun c_147 => ?_) (fun c_147 => ?_)
      · have c_147i := c_147
        replace c_147 : ¬ d = 0 := fun zz9 => c_147 ((nI_eq (a := d) (b := 0) (by omega) (by omega)).mpr zz9)
        refine lv_goto (tgt := 167) hx hb d_M_look_156 (by decide) ?_
        have hX : (md_num false (mC tape rt stk) fr) = md_cl (mC tape rt stk) false num (fr + d) := by unfold md_num; rw [hend]; exact if_neg (by show ¬ fr + d = fr; omega)
        rw [hX]
        exact tl_look_2 l g z0 N ad F hN tape kn rt la mm stk ap tc fp me dp ou num be hS q0 (fr + d) (by omega) (by omega) Fz hfr S hr hlk hK H locs ls hW (lv_sub hl [0, 1, 3] rfl)
      · have c_147i := c_147
        replace c_147 : d = 0 := (nI_eq (a := d) (b := 0) (by omega) (by omega)).mp c_147
        refine lv_aload_n hx hb d_M_look_150 rfl (lv_at hl 0 rfl) ?_
        refine lv_iload_n hx hb d_M_look_151 rfl (lv_at hl 3 rfl) ?_
        refine hp_gov hW (va_runV S (m_stops l g z0 N ad F hN tape kn rt la mm stk ap tc fp me dp 0 ou 2 num be hS (fr + d) (by omega) (by omega)) (cwV 1 hts (tb_V cd_M_stops tq_129 tq_130 tq_131 tq_118) rfl rfl rfl hd_M_stops (rk_ok (by omega) (by omega))) (hp_preV hK hW (by omega) rfl hR.1 rfl) rfl rfl hl.1 rfl (lv_room (Nat.le_of_ble_eq_true rfl)) d_M_look_152 ⟨Nat.zero_le _, Nat.zero_le _⟩) (fun F_2 H locs hw hW => ?_)
        obtain ⟨hS1, hg1⟩ := hw
        obtain ⟨tp, hs, sz, tx, vl, ey, md, hR, ⟨htl, htp⟩, hT, ⟨hll, hvl⟩, hKs, hml0, hmd⟩ := id hS1
        have hX : (md_num false (mC tape rt stk) fr) = (false, false, 0, fr) := by unfold md_num; rw [hend]; exact if_pos (by show fr + d = fr; omega)
        have hd0 : d = 0 := by omega
        subst hd0
        exact hp_retv S hK hW hr hlk d_M_look_155 (by rw [hX]; exact ⟨_, _, _, by rw [pf_n (by show ¬ (if _ then 1 else 7) = 0; split <;> omega)]; exact hS1, (fun z => by cases z), hfr.tr hg1⟩)
    · have c_88i := c_88
      replace c_88 : ¬ 6 ≤ d := fun zz9 => c_88 ((nI_leI (a := 6) (b := d) (by omega) (by omega)).mpr zz9)
      refine lv_aload_n hx hb d_M_look_91 rfl (lv_at hl 0 rfl) ?_
      refine lv_iload_n hx hb d_M_look_92 rfl (lv_at hl 3 rfl) ?_
      refine hp_goi hW (va_runV S (m_byteOf l g z0 N ad F hN tape kn rt la mm stk ap tc fp me dp 0 ou 2 num be hS (fr + d) (by omega)) (cwV 1 hts (tb_V cd_M_byteOf tq_124 tq_125 tq_126 tq_118) rfl rfl rfl hd_M_byteOf (rk_ok (by omega) (by omega))) (hp_preV hK hW (by omega) rfl hR.1 rfl) rfl rfl hl.1 rfl (lv_room (Nat.le_of_ble_eq_true rfl)) d_M_look_93 ⟨Nat.zero_le _, Nat.zero_le _⟩) (fun r_3 F_4 H locs hw hW => ?_)
      obtain ⟨hvq, hFq⟩ := hw
      rw [hFq] at hW
      rw [hvq]
      refine lv_iload hx hb d_M_look_96 (lv_at hl 4 rfl) ?_
      refine hp_goi hW (va_runS S (m_digit_0 l g z0 N ad F (md_at (mC tape rt stk) (fr + d))) (va_cwS 2 hts (tb_S cd_M_digit tq_127 tq_128 tq_118) rfl rfl rfl hd_M_digit.2 (rk_ok (by omega) (by omega))) (hp_preS hK hW) rfl rfl hl.1 rfl (lv_room (Nat.le_of_ble_eq_true rfl)) d_M_look_98 ⟨Nat.zero_le _, Nat.zero_le _⟩) (fun r_5 F_6 H locs hw hW => ?_)
      obtain ⟨hvq, hFq⟩ := hw
      rw [hFq] at hW
      rw [hvq]
      refine lv_if_lt (tgt := 145) hx hb d_M_look_101 (by decide) (fun c_101 => ?_) (fun c_101 => ?_)
      · have c_101i := c_101
        have c_101j := Int32.not_le.mpr c_101
        have hend : (md_dgs false (mC tape rt stk) 6 fr 0) = (fr + d, num) := by rw [hD]; exact dgs_end (Int32.not_le.mpr c_101)
        refine lv_iload hx hb d_M_look_145 (lv_at hl 5 rfl) ?_
        refine lv_if_ne (tgt := 156) hx hb d_M_look_147 (by decide) (fun c_147 => ?_) (fun c_147 => ?_)
        · have c_147i := c_147
          replace c_147 : ¬ d = 0 := fun zz9 => c_147 ((nI_eq (a := d) (b := 0) (by omega) (by omega)).mpr zz9)
          refine lv_goto (tgt := 167) hx hb d_M_look_156 (by decide) ?_
          have hX : (md_num false (mC tape rt stk) fr) = md_cl (mC tape rt stk) false num (fr + d) := by unfold md_num; rw [hend]; exact if_neg (by show ¬ fr + d = fr; omega)
          rw [hX]
          exact tl_look_2 l g z0 N ad F hN tape kn rt la mm stk ap tc fp me dp ou num be hS q0 (fr + d) (by omega) (by omega) Fz hfr S hr hlk hK H locs ls hW (lv_sub hl [0, 1, 3] rfl)
        · have c_147i := c_147
          replace c_147 : d = 0 := (nI_eq (a := d) (b := 0) (by omega) (by omega)).mp c_147
          refine lv_aload_n hx hb d_M_look_150 rfl (lv_at hl 0 rfl) ?_
          refine lv_iload_n hx hb d_M_look_151 rfl (lv_at hl 3 rfl) ?_
          refine hp_gov hW (va_runV S (m_stops l g z0 N ad F hN tape kn rt la mm stk ap tc fp me dp 0 ou 2 num be hS (fr + d) (by omega) (by omega)) (cwV 1 hts (tb_V cd_M_stops tq_129 tq_130 tq_131 tq_118) rfl rfl rfl hd_M_stops (rk_ok (by omega) (by omega))) (hp_preV hK hW (by omega) rfl hR.1 rfl) rfl rfl hl.1 rfl (lv_room (Nat.le_of_ble_eq_true rfl)) d_M_look_152 ⟨Nat.zero_le _, Nat.zero_le _⟩) (fun F_8 H locs hw hW => ?_)
          obtain ⟨hS1, hg1⟩ := hw
          obtain ⟨tp, hs, sz, tx, vl, ey, md, hR, ⟨htl, htp⟩, hT, ⟨hll, hvl⟩, hKs, hml0, hmd⟩ := id hS1
          have hX : (md_num false (mC tape rt stk) fr) = (false, false, 0, fr) := by unfold md_num; rw [hend]; exact if_pos (by show fr + d = fr; omega)
          have hd0 : d = 0 := by omega
          subst hd0
          exact hp_retv S hK hW hr hlk d_M_look_155 (by rw [hX]; exact ⟨_, _, _, by rw [pf_n (by show ¬ (if _ then 1 else 7) = 0; split <;> omega)]; exact hS1, (fun z => by cases z), hfr.tr hg1⟩)
      · have c_101i := c_101
        have c_101j := Int32.not_lt.mp c_101
        have c_101i := Int32.not_lt.mp c_101
        refine lv_aload_n hx hb d_M_look_104 rfl (lv_at hl 0 rfl) ?_
        refine lv_aload_n hx hb d_M_look_105 rfl (lv_at hl 0 rfl) ?_
        refine hp_get S hK hW (87) (by omega) rfl hR.1 rfl in_kM 17 (by decide) (hts _ (List.mem_cons_of_mem _ tq_113)) rfl d_M_look_106 ?_
        refine lv_iload hx hb d_M_look_109 (lv_at hl 4 rfl) ?_
        refine lv_if_eq (tgt := 119) hx hb d_M_look_111 (by decide) (fun c_111 => ?_) (fun c_111 => absurd (show (0 : Int32) = 0 from by decide) c_111)
        refine lv_bipush (v := 10) hx hb d_M_look_119 (by decide) ?_
        refine lv_imul hx hb d_M_look_121 ?_
        refine lv_aload_n hx hb d_M_look_122 rfl (lv_at hl 0 rfl) ?_
        refine lv_iload_n hx hb d_M_look_123 rfl (lv_at hl 3 rfl) ?_
        refine hp_goi hW (va_runV S (m_byteOf l g z0 N ad F hN tape kn rt la mm stk ap tc fp me dp 0 ou 2 num be hS (fr + d) (by omega)) (cwV 1 hts (tb_V cd_M_byteOf tq_124 tq_125 tq_126 tq_118) rfl rfl rfl hd_M_byteOf (rk_ok (by omega) (by omega))) (hp_preV hK hW (by omega) rfl hR.1 rfl) rfl rfl hl.1 rfl (lv_room (Nat.le_of_ble_eq_true rfl)) d_M_look_124 ⟨Nat.zero_le _, Nat.zero_le _⟩) (fun r_9 F_10 H locs hw hW => ?_)
        obtain ⟨hvq, hFq⟩ := hw
        rw [hFq] at hW
        rw [hvq]
        refine lv_iload hx hb d_M_look_127 (lv_at hl 4 rfl) ?_
        refine hp_goi hW (va_runS S (m_digit_0 l g z0 N ad F (md_at (mC tape rt stk) (fr + d))) (va_cwS 2 hts (tb_S cd_M_digit tq_127 tq_128 tq_118) rfl rfl rfl hd_M_digit.2 (rk_ok (by omega) (by omega))) (hp_preS hK hW) rfl rfl hl.1 rfl (lv_room (Nat.le_of_ble_eq_true rfl)) d_M_look_129 ⟨Nat.zero_le _, Nat.zero_le _⟩) (fun r_11 F_12 H locs hw hW => ?_)
        obtain ⟨hvq, hFq⟩ := hw
        rw [hFq] at hW
        rw [hvq]
        refine lv_iadd hx hb d_M_look_132 ?_
        refine hp_put S hK hW (87) (by omega) rfl hR.1 rfl in_kM tyok_M nm_M 17 (by decide) (hts _ (List.mem_cons_of_mem _ tq_113)) rfl rfl rfl (Nat.le_of_ble_eq_true rfl) d_M_look_133 (fun H locs hW => ?_)
        obtain ⟨F_13, eF_13⟩ : ∃ z, z = va_up F (87) (.inr (kM, [.int tc, .ref (ad 88), .int (nI tape.length), .ref (ad 89), .ref (ad 90), .ref (ad 91), .ref (ad 92), .int (nI la.length), .int fp, .int me, .int dp, .int (nI stk.length), .ref (ad 93), .ref (ad 94), .int 0, .int ou, .int 2, .int ((num * 10) + (md_dg false (md_at (mC tape rt stk) (fr + d)))), .int be, .ref (ad 95), .int (nI mm.length)])) := ⟨_, rfl⟩
        replace hW : hp_W g z0 N ad F_13 s.heap H locs := by rw [eF_13]; exact hW
        have f_14 : F_13 (87) = .inr (kM, [.int tc, .ref (ad 88), .int (nI tape.length), .ref (ad 89), .ref (ad 90), .ref (ad 91), .ref (ad 92), .int (nI la.length), .int fp, .int me, .int dp, .int (nI stk.length), .ref (ad 93), .ref (ad 94), .int 0, .int ou, .int 2, .int ((num * 10) + (md_dg false (md_at (mC tape rt stk) (fr + d)))), .int be, .ref (ad 95), .int (nI mm.length)]) := by rw [eF_13, va_up_self]
        have f_15 : F_13 (88) = .inl (g.2 0, 200, .inl tp) := by rw [eF_13, va_up_ne _ _ (by omega)]; exact hR.2.1
        have f_16 : F_13 (89) = .inl (g.2 2, 26, .inl hs) := by rw [eF_13, va_up_ne _ _ (by omega)]; exact hR.2.2.1
        have f_17 : F_13 (90) = .inl (g.2 0, 26, .inl sz) := by rw [eF_13, va_up_ne _ _ (by omega)]; exact hR.2.2.2.1
        have f_18 : F_13 (91) = .inl (g.2 0, 2600, .inl tx) := by rw [eF_13, va_up_ne _ _ (by omega)]; exact hR.2.2.2.2.1
        have f_19 : F_13 (92) = .inl (g.2 0, 301, .inl vl) := by rw [eF_13, va_up_ne _ _ (by omega)]; exact hR.2.2.2.2.2.1
        have f_20 : F_13 (93) = .inl (g.2 0, 28, .inl ey) := by rw [eF_13, va_up_ne _ _ (by omega)]; exact hR.2.2.2.2.2.2.1
        have f_21 : F_13 (94) = .inl (g.2 0, 28, .inl ap) := by rw [eF_13, va_up_ne _ _ (by omega)]; exact hR.2.2.2.2.2.2.2.1
        have f_22 : F_13 (95) = .inl (g.2 0, 204, .inl md) := by rw [eF_13, va_up_ne _ _ (by omega)]; exact hR.2.2.2.2.2.2.2.2
        have hf_23 : mFr F F_13 := fun x hx => by rw [eF_13, va_up_ne _ _ (by omega)]
        refine lv_iinc (v := (nI (d + 1))) (lv' := [(5, .int (nI (d + 1))), (0, .ref (ad 87)), (1, .int (nI q0)), (2, .int x2), (3, .int (nI (fr + d))), (4, .int 0)]) hx hb d_M_look_136 hl (k := 5) rfl ((nI_succ (d)).symm) (by decide) rfl (fun ls hl => ?_)
        refine lv_iinc (v := (nI ((fr + d) + 1))) (lv' := [(3, .int (nI ((fr + d) + 1))), (5, .int (nI (d + 1))), (0, .ref (ad 87)), (1, .int (nI q0)), (2, .int x2), (4, .int 0)]) hx hb d_M_look_139 hl (k := 4) rfl ((nI_succ ((fr + d))).symm) (by decide) rfl (fun ls hl => ?_)
        refine lv_goto (tgt := 84) hx hb d_M_look_142 (by decide) ?_
        exact ih (d + 1) _ F_13 (by omega) (by omega) ⟨tp, hs, sz, tx, vl, ey, md, ⟨f_14, f_15, f_16, f_17, f_18, f_19, f_20, f_21, f_22⟩, ⟨htl, htp⟩, hT, ⟨hll, hvl⟩, hKs, hml0, hmd⟩ (by rw [hD, show 6 - d = (6 - (d + 1)) + 1 by omega, dgs_go c_101i]; rfl) (hfr.tr hf_23) H locs ls hW (lv_sub hl [2, 3, 4, 0, 5, 1] rfl)

/-! the reference: look -/
set_option maxHeartbeats 400000 in
set_option maxRecDepth 100000 in
theorem m_look (l : Launch) (g : hp_G) (z0 N : Nat) (ad : Nat → Nat) (F : Nat → va_E) (hN : 96 ≤ N) (tape : List Int32) (kn : Nat → Bool) (rt : Nat → List Int32) (la mm : List Int32) (stk : List Nat) (ap : Nat → Int32) (tc fp me dp ou ki nu be : Int32) (hS : mS g ad F tape kn rt la mm stk ap tc fp me dp 0 ou ki nu be) (q0 : Nat) (hq0 : q0 < 800) : hp_Mv l g z0 N ad y_M_look ws_M_look (rk 2) [.ref (ad 87), .int (nI q0)] F (LK g ad F tape kn rt la mm stk ap tc fp me dp ou q0 (md_ref (mC tape rt stk) q0)) := by
  have hcl := hS.cl
  obtain ⟨tp, hs, sz, tx, vl, ey, md, hR, ⟨htl, htp⟩, hT, ⟨hll, hvl⟩, hKs, hml0, hmd⟩ := id hS
  refine hp_enter (cc := cc_M_look) (maxL := 6) (ret := none) (by decide) rfl (Nat.le_of_ble_eq_true rfl) ?_
  intro p e s m below meth c S hr hlk hnm hK hW ls hl
  have hl : lv_has ls 6 [(0, .ref (ad 87)), (1, .int (nI q0))] := hl
  obtain ⟨hx, hb, hml, hown, hts⟩ := id S
  have in_kM : ∀ w ∈ u_ws R_M T_M 21, w ∈ ws_M_look := fun w h => List.mem_cons_of_mem _ (in0_M w h)
  refine lv_aload_n hx hb d_M_look_0 rfl (lv_at hl 0 rfl) ?_
  refine lv_iload_n hx hb d_M_look_1 rfl (lv_at hl 1 rfl) ?_
  refine lv_iconst (v := 1) hx hb d_M_look_2 (by decide) ?_
  refine lv_iadd hx hb d_M_look_3 ?_
  rw [show ((nI q0) + 1) = (nI (q0 + 1)) from (nI_succ q0).symm]
  refine hp_goi hW (va_runV S (m_byteOf l g z0 N ad F hN tape kn rt la mm stk ap tc fp me dp 0 ou ki nu be hS (q0 + 1) (by omega)) (cwV 1 hts (tb_V cd_M_byteOf tq_124 tq_125 tq_126 tq_118) rfl rfl rfl hd_M_byteOf (rk_ok (by omega) (by omega))) (hp_preV hK hW (by omega) rfl hR.1 rfl) rfl rfl hl.1 rfl (lv_room (Nat.le_of_ble_eq_true rfl)) d_M_look_4 ⟨Nat.zero_le _, Nat.zero_le _⟩) (fun r_1 F_2 H locs hw hW => ?_)
  obtain ⟨hvq, hFq⟩ := hw
  rw [hFq] at hW
  rw [hvq]
  refine lv_istore_n (lv' := [(2, .int (md_at (mC tape rt stk) (q0 + 1))), (0, .ref (ad 87)), (1, .int (nI q0))]) hx hb d_M_look_7 rfl hl (by decide) rfl (fun ls hl => ?_)
  refine lv_iload_n hx hb d_M_look_8 rfl (lv_at hl 2 rfl) ?_
  refine lv_iconst (v := 2) hx hb d_M_look_9 (by decide) ?_
  refine lv_iadd hx hb d_M_look_10 ?_
  rw [show ((nI q0) + 2) = (nI (q0 + 2)) from nI_add q0 2]
  refine lv_istore_n (lv' := [(3, .int (nI (q0 + 2))), (2, .int (md_at (mC tape rt stk) (q0 + 1))), (0, .ref (ad 87)), (1, .int (nI q0))]) hx hb d_M_look_11 rfl hl (by decide) rfl (fun ls hl => ?_)
  refine lv_iload_n hx hb d_M_look_12 rfl (lv_at hl 1 rfl) ?_
  refine lv_bipush (v := 97) hx hb d_M_look_13 (by decide) ?_
  refine lv_icmp_lt (tgt := 40) hx hb d_M_look_15 (by decide) (fun c_15 => ?_) (fun c_15 => ?_)
  · have c_15i := c_15
    have c_15j := Int32.not_le.mpr c_15
    refine lv_iload_n hx hb d_M_look_40 rfl (lv_at hl 1 rfl) ?_
    refine lv_bipush (v := 35) hx hb d_M_look_41 (by decide) ?_
    refine lv_icmp_ne (tgt := 159) hx hb d_M_look_43 (by decide) (fun c_43 => ?_) (fun c_43 => ?_)
    · have c_43i := c_43
      refine lv_aload_n hx hb d_M_look_159 rfl (lv_at hl 2 rfl) ?_
      refine lv_iload_n hx hb d_M_look_160 rfl (lv_at hl 3 rfl) ?_
      refine lv_iconst (v := 1) hx hb d_M_look_161 (by decide) ?_
      refine lv_iadd hx hb d_M_look_162 ?_
      rw [show ((nI q0) + 1) = (nI (q0 + 1)) from (nI_succ q0).symm]
      refine hp_gov hW (va_runV S (m_stops l g z0 N ad F hN tape kn rt la mm stk ap tc fp me dp 0 ou ki nu be hS (q0 + 1) (by omega) (by omega)) (cwV 1 hts (tb_V cd_M_stops tq_129 tq_130 tq_131 tq_118) rfl rfl rfl hd_M_stops (rk_ok (by omega) (by omega))) (hp_preV hK hW (by omega) rfl hR.1 rfl) rfl rfl hl.1 rfl (lv_room (Nat.le_of_ble_eq_true rfl)) d_M_look_163 ⟨Nat.zero_le _, Nat.zero_le _⟩) (fun F_4 H locs hw hW => ?_)
      obtain ⟨hS1, hg1⟩ := hw
      obtain ⟨tp, hs, sz, tx, vl, ey, md, hR, ⟨htl, htp⟩, hT, ⟨hll, hvl⟩, hKs, hml0, hmd⟩ := id hS1
      have hX : (md_ref (mC tape rt stk) q0) = (false, true, 0, q0 + 1) := (if_neg c_43i).trans (if_neg (fun h => by first | exact absurd c_15i (Int32.not_lt.mpr h.1) | exact absurd c_21i (Int32.not_lt.mpr h.2)))
      exact hp_retv S hK hW hr hlk d_M_look_166 (by rw [hX]; exact ⟨_, _, _, by rw [pf_n (by show ¬ (if _ then 1 else 7) = 0; split <;> omega)]; exact hS1, (fun z => by cases z), hg1⟩)
    · have c_43i := c_43
      refine lv_aload_n hx hb d_M_look_46 rfl (lv_at hl 2 rfl) ?_
      refine lv_iconst (v := 2) hx hb d_M_look_47 (by decide) ?_
      refine hp_put S hK hW (87) (by omega) rfl hR.1 rfl in_kM tyok_M nm_M 16 (by decide) (hts _ (List.mem_cons_of_mem _ tq_112)) rfl rfl rfl (Nat.le_of_ble_eq_true rfl) d_M_look_48 (fun H locs hW => ?_)
      obtain ⟨F_5, eF_5⟩ : ∃ z, z = va_up F (87) (.inr (kM, [.int tc, .ref (ad 88), .int (nI tape.length), .ref (ad 89), .ref (ad 90), .ref (ad 91), .ref (ad 92), .int (nI la.length), .int fp, .int me, .int dp, .int (nI stk.length), .ref (ad 93), .ref (ad 94), .int 0, .int ou, .int 2, .int nu, .int be, .ref (ad 95), .int (nI mm.length)])) := ⟨_, rfl⟩
      replace hW : hp_W g z0 N ad F_5 s.heap H locs := by rw [eF_5]; exact hW
      have f_6 : F_5 (87) = .inr (kM, [.int tc, .ref (ad 88), .int (nI tape.length), .ref (ad 89), .ref (ad 90), .ref (ad 91), .ref (ad 92), .int (nI la.length), .int fp, .int me, .int dp, .int (nI stk.length), .ref (ad 93), .ref (ad 94), .int 0, .int ou, .int 2, .int nu, .int be, .ref (ad 95), .int (nI mm.length)]) := by rw [eF_5, va_up_self]
      have f_7 : F_5 (88) = .inl (g.2 0, 200, .inl tp) := by rw [eF_5, va_up_ne _ _ (by omega)]; exact hR.2.1
      have f_8 : F_5 (89) = .inl (g.2 2, 26, .inl hs) := by rw [eF_5, va_up_ne _ _ (by omega)]; exact hR.2.2.1
      have f_9 : F_5 (90) = .inl (g.2 0, 26, .inl sz) := by rw [eF_5, va_up_ne _ _ (by omega)]; exact hR.2.2.2.1
      have f_10 : F_5 (91) = .inl (g.2 0, 2600, .inl tx) := by rw [eF_5, va_up_ne _ _ (by omega)]; exact hR.2.2.2.2.1
      have f_11 : F_5 (92) = .inl (g.2 0, 301, .inl vl) := by rw [eF_5, va_up_ne _ _ (by omega)]; exact hR.2.2.2.2.2.1
      have f_12 : F_5 (93) = .inl (g.2 0, 28, .inl ey) := by rw [eF_5, va_up_ne _ _ (by omega)]; exact hR.2.2.2.2.2.2.1
      have f_13 : F_5 (94) = .inl (g.2 0, 28, .inl ap) := by rw [eF_5, va_up_ne _ _ (by omega)]; exact hR.2.2.2.2.2.2.2.1
      have f_14 : F_5 (95) = .inl (g.2 0, 204, .inl md) := by rw [eF_5, va_up_ne _ _ (by omega)]; exact hR.2.2.2.2.2.2.2.2
      have hf_15 : mFr F F_5 := fun x hx => by rw [eF_5, va_up_ne _ _ (by omega)]
      refine lv_aload_n hx hb d_M_look_51 rfl (lv_at hl 2 rfl) ?_
      refine lv_iload_n hx hb d_M_look_52 rfl (lv_at hl 0 rfl) ?_
      have hSk : mS g ad F_5 tape kn rt la mm stk ap tc fp me dp 0 ou 2 nu be := ⟨tp, hs, sz, tx, vl, ey, md, ⟨f_6, f_7, f_8, f_9, f_10, f_11, f_12, f_13, f_14⟩, ⟨htl, htp⟩, hT, ⟨hll, hvl⟩, hKs, hml0, hmd⟩
      refine hp_goi hW (va_runV S (m_byteOf l g z0 N ad F_5 hN tape kn rt la mm stk ap tc fp me dp 0 ou 2 nu be hSk (q0 + 2) (by omega)) (cwV 1 hts (tb_V cd_M_byteOf tq_124 tq_125 tq_126 tq_118) rfl rfl rfl hd_M_byteOf (rk_ok (by omega) (by omega))) (hp_preV hK hW (by omega) rfl f_6 rfl) rfl rfl hl.1 rfl (lv_room (Nat.le_of_ble_eq_true rfl)) d_M_look_53 ⟨Nat.zero_le _, Nat.zero_le _⟩) (fun r_16 F_17 H locs hw hW => ?_)
      obtain ⟨hvq, hFq⟩ := hw
      rw [hFq] at hW
      rw [hvq]
      refine lv_bipush (v := 120) hx hb d_M_look_56 (by decide) ?_
      refine lv_icmp_ne (tgt := 65) hx hb d_M_look_58 (by decide) (fun c_58 => ?_) (fun c_58 => ?_)
      · have c_58i := c_58
        refine lv_iconst (v := 0) hx hb d_M_look_65 (by decide) ?_
        refine lv_istore (lv' := [(4, .int 0), (3, .int (nI (q0 + 2))), (2, .int (md_at (mC tape rt stk) (q0 + 1))), (0, .ref (ad 87)), (1, .int (nI q0))]) hx hb d_M_look_66 hl (by decide) rfl (fun ls hl => ?_)
        refine lv_iload hx hb d_M_look_68 (lv_at hl 0 rfl) ?_
        refine lv_if_eq (tgt := 76) hx hb d_M_look_70 (by decide) (fun c_70 => ?_) (fun c_70 => absurd (show (0 : Int32) = 0 from by decide) c_70)
        refine lv_iconst (v := 0) hx hb d_M_look_76 (by decide) ?_
        refine lv_istore (lv' := [(5, .int 0), (4, .int 0), (3, .int (nI (q0 + 2))), (2, .int (md_at (mC tape rt stk) (q0 + 1))), (0, .ref (ad 87)), (1, .int (nI q0))]) hx hb d_M_look_77 hl (by decide) rfl (fun ls hl => ?_)
        refine lv_aload_n hx hb d_M_look_79 rfl (lv_at hl 4 rfl) ?_
        refine lv_iconst (v := 0) hx hb d_M_look_80 (by decide) ?_
        refine hp_put S hK hW (87) (by omega) rfl f_6 rfl in_kM tyok_M nm_M 17 (by decide) (hts _ (List.mem_cons_of_mem _ tq_113)) rfl rfl rfl (Nat.le_of_ble_eq_true rfl) d_M_look_81 (fun H locs hW => ?_)
        obtain ⟨F_18, eF_18⟩ : ∃ z, z = va_up F_5 (87) (.inr (kM, [.int tc, .ref (ad 88), .int (nI tape.length), .ref (ad 89), .ref (ad 90), .ref (ad 91), .ref (ad 92), .int (nI la.length), .int fp, .int me, .int dp, .int (nI stk.length), .ref (ad 93), .ref (ad 94), .int 0, .int ou, .int 2, .int 0, .int be, .ref (ad 95), .int (nI mm.length)])) := ⟨_, rfl⟩
        replace hW : hp_W g z0 N ad F_18 s.heap H locs := by rw [eF_18]; exact hW
        have f_19 : F_18 (87) = .inr (kM, [.int tc, .ref (ad 88), .int (nI tape.length), .ref (ad 89), .ref (ad 90), .ref (ad 91), .ref (ad 92), .int (nI la.length), .int fp, .int me, .int dp, .int (nI stk.length), .ref (ad 93), .ref (ad 94), .int 0, .int ou, .int 2, .int 0, .int be, .ref (ad 95), .int (nI mm.length)]) := by rw [eF_18, va_up_self]
        have f_20 : F_18 (88) = .inl (g.2 0, 200, .inl tp) := by rw [eF_18, va_up_ne _ _ (by omega)]; exact f_7
        have f_21 : F_18 (89) = .inl (g.2 2, 26, .inl hs) := by rw [eF_18, va_up_ne _ _ (by omega)]; exact f_8
        have f_22 : F_18 (90) = .inl (g.2 0, 26, .inl sz) := by rw [eF_18, va_up_ne _ _ (by omega)]; exact f_9
        have f_23 : F_18 (91) = .inl (g.2 0, 2600, .inl tx) := by rw [eF_18, va_up_ne _ _ (by omega)]; exact f_10
        have f_24 : F_18 (92) = .inl (g.2 0, 301, .inl vl) := by rw [eF_18, va_up_ne _ _ (by omega)]; exact f_11
        have f_25 : F_18 (93) = .inl (g.2 0, 28, .inl ey) := by rw [eF_18, va_up_ne _ _ (by omega)]; exact f_12
        have f_26 : F_18 (94) = .inl (g.2 0, 28, .inl ap) := by rw [eF_18, va_up_ne _ _ (by omega)]; exact f_13
        have f_27 : F_18 (95) = .inl (g.2 0, 204, .inl md) := by rw [eF_18, va_up_ne _ _ (by omega)]; exact f_14
        have hf_28 : mFr F_5 F_18 := fun x hx => by rw [eF_18, va_up_ne _ _ (by omega)]
        have hh : md_hex (mC tape rt stk) q0 = false := decide_eq_false c_58i
        have hq3 : md_from (mC tape rt stk) q0 = (q0 + 2) := by unfold md_from; rw [hh]; rfl
        have hX : (md_ref (mC tape rt stk) q0) = md_num false (mC tape rt stk) (q0 + 2) := (if_pos c_43i).trans (by rw [hh, hq3])
        rw [hX]
        exact lp_look_0 l g z0 N ad hN tape kn rt la mm stk ap tc fp me dp ou be q0 (q0 + 2) (by omega) (by omega) _ F S hr hlk hK 7 0 0 F_18 (by omega) (by omega) ⟨tp, hs, sz, tx, vl, ey, md, ⟨f_19, f_20, f_21, f_22, f_23, f_24, f_25, f_26, f_27⟩, ⟨htl, htp⟩, hT, ⟨hll, hvl⟩, hKs, hml0, hmd⟩ rfl (hf_15.tr hf_28) _ _ ls hW (lv_sub hl [4, 5, 3, 2, 1, 0] rfl)
      · have c_58i := c_58
        refine lv_iconst (v := 1) hx hb d_M_look_61 (by decide) ?_
        refine lv_goto (tgt := 66) hx hb d_M_look_62 (by decide) ?_
        refine lv_istore (lv' := [(4, .int 1), (3, .int (nI (q0 + 2))), (2, .int (md_at (mC tape rt stk) (q0 + 1))), (0, .ref (ad 87)), (1, .int (nI q0))]) hx hb d_M_look_66 hl (by decide) rfl (fun ls hl => ?_)
        refine lv_iload hx hb d_M_look_68 (lv_at hl 0 rfl) ?_
        refine lv_if_eq (tgt := 76) hx hb d_M_look_70 (by decide) (fun c_70 => absurd c_70 (show ¬ ((1 : Int32) = 0) from by decide)) (fun c_70 => ?_)
        refine lv_iinc (v := (nI ((q0 + 2) + 1))) (lv' := [(3, .int (nI ((q0 + 2) + 1))), (4, .int 1), (2, .int (md_at (mC tape rt stk) (q0 + 1))), (0, .ref (ad 87)), (1, .int (nI q0))]) hx hb d_M_look_73 hl (k := 1) rfl ((nI_succ ((q0 + 2))).symm) (by decide) rfl (fun ls hl => ?_)
        refine lv_iconst (v := 0) hx hb d_M_look_76 (by decide) ?_
        refine lv_istore (lv' := [(5, .int 0), (3, .int (nI ((q0 + 2) + 1))), (4, .int 1), (2, .int (md_at (mC tape rt stk) (q0 + 1))), (0, .ref (ad 87)), (1, .int (nI q0))]) hx hb d_M_look_77 hl (by decide) rfl (fun ls hl => ?_)
        refine lv_aload_n hx hb d_M_look_79 rfl (lv_at hl 4 rfl) ?_
        refine lv_iconst (v := 0) hx hb d_M_look_80 (by decide) ?_
        refine hp_put S hK hW (87) (by omega) rfl f_6 rfl in_kM tyok_M nm_M 17 (by decide) (hts _ (List.mem_cons_of_mem _ tq_113)) rfl rfl rfl (Nat.le_of_ble_eq_true rfl) d_M_look_81 (fun H locs hW => ?_)
        obtain ⟨F_29, eF_29⟩ : ∃ z, z = va_up F_5 (87) (.inr (kM, [.int tc, .ref (ad 88), .int (nI tape.length), .ref (ad 89), .ref (ad 90), .ref (ad 91), .ref (ad 92), .int (nI la.length), .int fp, .int me, .int dp, .int (nI stk.length), .ref (ad 93), .ref (ad 94), .int 0, .int ou, .int 2, .int 0, .int be, .ref (ad 95), .int (nI mm.length)])) := ⟨_, rfl⟩
        replace hW : hp_W g z0 N ad F_29 s.heap H locs := by rw [eF_29]; exact hW
        have f_30 : F_29 (87) = .inr (kM, [.int tc, .ref (ad 88), .int (nI tape.length), .ref (ad 89), .ref (ad 90), .ref (ad 91), .ref (ad 92), .int (nI la.length), .int fp, .int me, .int dp, .int (nI stk.length), .ref (ad 93), .ref (ad 94), .int 0, .int ou, .int 2, .int 0, .int be, .ref (ad 95), .int (nI mm.length)]) := by rw [eF_29, va_up_self]
        have f_31 : F_29 (88) = .inl (g.2 0, 200, .inl tp) := by rw [eF_29, va_up_ne _ _ (by omega)]; exact f_7
        have f_32 : F_29 (89) = .inl (g.2 2, 26, .inl hs) := by rw [eF_29, va_up_ne _ _ (by omega)]; exact f_8
        have f_33 : F_29 (90) = .inl (g.2 0, 26, .inl sz) := by rw [eF_29, va_up_ne _ _ (by omega)]; exact f_9
        have f_34 : F_29 (91) = .inl (g.2 0, 2600, .inl tx) := by rw [eF_29, va_up_ne _ _ (by omega)]; exact f_10
        have f_35 : F_29 (92) = .inl (g.2 0, 301, .inl vl) := by rw [eF_29, va_up_ne _ _ (by omega)]; exact f_11
        have f_36 : F_29 (93) = .inl (g.2 0, 28, .inl ey) := by rw [eF_29, va_up_ne _ _ (by omega)]; exact f_12
        have f_37 : F_29 (94) = .inl (g.2 0, 28, .inl ap) := by rw [eF_29, va_up_ne _ _ (by omega)]; exact f_13
        have f_38 : F_29 (95) = .inl (g.2 0, 204, .inl md) := by rw [eF_29, va_up_ne _ _ (by omega)]; exact f_14
        have hf_39 : mFr F_5 F_29 := fun x hx => by rw [eF_29, va_up_ne _ _ (by omega)]
        have hh : md_hex (mC tape rt stk) q0 = true := decide_eq_true c_58i
        have hq3 : md_from (mC tape rt stk) q0 = (q0 + 3) := by unfold md_from; rw [hh]; rfl
        have hX : (md_ref (mC tape rt stk) q0) = md_num true (mC tape rt stk) (q0 + 3) := (if_pos c_43i).trans (by rw [hh, hq3])
        rw [hX]
        exact lp_look_1 l g z0 N ad hN tape kn rt la mm stk ap tc fp me dp ou be q0 (q0 + 3) (by omega) (by omega) _ F S hr hlk hK 7 0 0 F_29 (by omega) (by omega) ⟨tp, hs, sz, tx, vl, ey, md, ⟨f_30, f_31, f_32, f_33, f_34, f_35, f_36, f_37, f_38⟩, ⟨htl, htp⟩, hT, ⟨hll, hvl⟩, hKs, hml0, hmd⟩ rfl (hf_15.tr hf_39) _ _ ls hW (lv_sub hl [4, 5, 3, 1, 2, 0] rfl)
  · have c_15i := c_15
    have c_15j := Int32.not_lt.mp c_15
    refine lv_iload_n hx hb d_M_look_18 rfl (lv_at hl 1 rfl) ?_
    refine lv_bipush (v := 122) hx hb d_M_look_19 (by decide) ?_
    refine lv_icmp_gt (tgt := 40) hx hb d_M_look_21 (by decide) (fun c_21 => ?_) (fun c_21 => ?_)
    · have c_21i := c_21
      have c_21j := Int32.not_le.mpr c_21
      refine lv_iload_n hx hb d_M_look_40 rfl (lv_at hl 1 rfl) ?_
      refine lv_bipush (v := 35) hx hb d_M_look_41 (by decide) ?_
      refine lv_icmp_ne (tgt := 159) hx hb d_M_look_43 (by decide) (fun c_43 => ?_) (fun c_43 => ?_)
      · have c_43i := c_43
        refine lv_aload_n hx hb d_M_look_159 rfl (lv_at hl 2 rfl) ?_
        refine lv_iload_n hx hb d_M_look_160 rfl (lv_at hl 3 rfl) ?_
        refine lv_iconst (v := 1) hx hb d_M_look_161 (by decide) ?_
        refine lv_iadd hx hb d_M_look_162 ?_
        rw [show ((nI q0) + 1) = (nI (q0 + 1)) from (nI_succ q0).symm]
        refine hp_gov hW (va_runV S (m_stops l g z0 N ad F hN tape kn rt la mm stk ap tc fp me dp 0 ou ki nu be hS (q0 + 1) (by omega) (by omega)) (cwV 1 hts (tb_V cd_M_stops tq_129 tq_130 tq_131 tq_118) rfl rfl rfl hd_M_stops (rk_ok (by omega) (by omega))) (hp_preV hK hW (by omega) rfl hR.1 rfl) rfl rfl hl.1 rfl (lv_room (Nat.le_of_ble_eq_true rfl)) d_M_look_163 ⟨Nat.zero_le _, Nat.zero_le _⟩) (fun F_41 H locs hw hW => ?_)
        obtain ⟨hS1, hg1⟩ := hw
        obtain ⟨tp, hs, sz, tx, vl, ey, md, hR, ⟨htl, htp⟩, hT, ⟨hll, hvl⟩, hKs, hml0, hmd⟩ := id hS1
        have hX : (md_ref (mC tape rt stk) q0) = (false, true, 0, q0 + 1) := (if_neg c_43i).trans (if_neg (fun h => by first | exact absurd c_15i (Int32.not_lt.mpr h.1) | exact absurd c_21i (Int32.not_lt.mpr h.2)))
        exact hp_retv S hK hW hr hlk d_M_look_166 (by rw [hX]; exact ⟨_, _, _, by rw [pf_n (by show ¬ (if _ then 1 else 7) = 0; split <;> omega)]; exact hS1, (fun z => by cases z), hg1⟩)
      · have c_43i := c_43
        refine lv_aload_n hx hb d_M_look_46 rfl (lv_at hl 2 rfl) ?_
        refine lv_iconst (v := 2) hx hb d_M_look_47 (by decide) ?_
        refine hp_put S hK hW (87) (by omega) rfl hR.1 rfl in_kM tyok_M nm_M 16 (by decide) (hts _ (List.mem_cons_of_mem _ tq_112)) rfl rfl rfl (Nat.le_of_ble_eq_true rfl) d_M_look_48 (fun H locs hW => ?_)
        obtain ⟨F_42, eF_42⟩ : ∃ z, z = va_up F (87) (.inr (kM, [.int tc, .ref (ad 88), .int (nI tape.length), .ref (ad 89), .ref (ad 90), .ref (ad 91), .ref (ad 92), .int (nI la.length), .int fp, .int me, .int dp, .int (nI stk.length), .ref (ad 93), .ref (ad 94), .int 0, .int ou, .int 2, .int nu, .int be, .ref (ad 95), .int (nI mm.length)])) := ⟨_, rfl⟩
        replace hW : hp_W g z0 N ad F_42 s.heap H locs := by rw [eF_42]; exact hW
        have f_43 : F_42 (87) = .inr (kM, [.int tc, .ref (ad 88), .int (nI tape.length), .ref (ad 89), .ref (ad 90), .ref (ad 91), .ref (ad 92), .int (nI la.length), .int fp, .int me, .int dp, .int (nI stk.length), .ref (ad 93), .ref (ad 94), .int 0, .int ou, .int 2, .int nu, .int be, .ref (ad 95), .int (nI mm.length)]) := by rw [eF_42, va_up_self]
        have f_44 : F_42 (88) = .inl (g.2 0, 200, .inl tp) := by rw [eF_42, va_up_ne _ _ (by omega)]; exact hR.2.1
        have f_45 : F_42 (89) = .inl (g.2 2, 26, .inl hs) := by rw [eF_42, va_up_ne _ _ (by omega)]; exact hR.2.2.1
        have f_46 : F_42 (90) = .inl (g.2 0, 26, .inl sz) := by rw [eF_42, va_up_ne _ _ (by omega)]; exact hR.2.2.2.1
        have f_47 : F_42 (91) = .inl (g.2 0, 2600, .inl tx) := by rw [eF_42, va_up_ne _ _ (by omega)]; exact hR.2.2.2.2.1
        have f_48 : F_42 (92) = .inl (g.2 0, 301, .inl vl) := by rw [eF_42, va_up_ne _ _ (by omega)]; exact hR.2.2.2.2.2.1
        have f_49 : F_42 (93) = .inl (g.2 0, 28, .inl ey) := by rw [eF_42, va_up_ne _ _ (by omega)]; exact hR.2.2.2.2.2.2.1
        have f_50 : F_42 (94) = .inl (g.2 0, 28, .inl ap) := by rw [eF_42, va_up_ne _ _ (by omega)]; exact hR.2.2.2.2.2.2.2.1
        have f_51 : F_42 (95) = .inl (g.2 0, 204, .inl md) := by rw [eF_42, va_up_ne _ _ (by omega)]; exact hR.2.2.2.2.2.2.2.2
        have hf_52 : mFr F F_42 := fun x hx => by rw [eF_42, va_up_ne _ _ (by omega)]
        refine lv_aload_n hx hb d_M_look_51 rfl (lv_at hl 2 rfl) ?_
        refine lv_iload_n hx hb d_M_look_52 rfl (lv_at hl 0 rfl) ?_
        have hSk : mS g ad F_42 tape kn rt la mm stk ap tc fp me dp 0 ou 2 nu be := ⟨tp, hs, sz, tx, vl, ey, md, ⟨f_43, f_44, f_45, f_46, f_47, f_48, f_49, f_50, f_51⟩, ⟨htl, htp⟩, hT, ⟨hll, hvl⟩, hKs, hml0, hmd⟩
        refine hp_goi hW (va_runV S (m_byteOf l g z0 N ad F_42 hN tape kn rt la mm stk ap tc fp me dp 0 ou 2 nu be hSk (q0 + 2) (by omega)) (cwV 1 hts (tb_V cd_M_byteOf tq_124 tq_125 tq_126 tq_118) rfl rfl rfl hd_M_byteOf (rk_ok (by omega) (by omega))) (hp_preV hK hW (by omega) rfl f_43 rfl) rfl rfl hl.1 rfl (lv_room (Nat.le_of_ble_eq_true rfl)) d_M_look_53 ⟨Nat.zero_le _, Nat.zero_le _⟩) (fun r_53 F_54 H locs hw hW => ?_)
        obtain ⟨hvq, hFq⟩ := hw
        rw [hFq] at hW
        rw [hvq]
        refine lv_bipush (v := 120) hx hb d_M_look_56 (by decide) ?_
        refine lv_icmp_ne (tgt := 65) hx hb d_M_look_58 (by decide) (fun c_58 => ?_) (fun c_58 => ?_)
        · have c_58i := c_58
          refine lv_iconst (v := 0) hx hb d_M_look_65 (by decide) ?_
          refine lv_istore (lv' := [(4, .int 0), (3, .int (nI (q0 + 2))), (2, .int (md_at (mC tape rt stk) (q0 + 1))), (0, .ref (ad 87)), (1, .int (nI q0))]) hx hb d_M_look_66 hl (by decide) rfl (fun ls hl => ?_)
          refine lv_iload hx hb d_M_look_68 (lv_at hl 0 rfl) ?_
          refine lv_if_eq (tgt := 76) hx hb d_M_look_70 (by decide) (fun c_70 => ?_) (fun c_70 => absurd (show (0 : Int32) = 0 from by decide) c_70)
          refine lv_iconst (v := 0) hx hb d_M_look_76 (by decide) ?_
          refine lv_istore (lv' := [(5, .int 0), (4, .int 0), (3, .int (nI (q0 + 2))), (2, .int (md_at (mC tape rt stk) (q0 + 1))), (0, .ref (ad 87)), (1, .int (nI q0))]) hx hb d_M_look_77 hl (by decide) rfl (fun ls hl => ?_)
          refine lv_aload_n hx hb d_M_look_79 rfl (lv_at hl 4 rfl) ?_
          refine lv_iconst (v := 0) hx hb d_M_look_80 (by decide) ?_
          refine hp_put S hK hW (87) (by omega) rfl f_43 rfl in_kM tyok_M nm_M 17 (by decide) (hts _ (List.mem_cons_of_mem _ tq_113)) rfl rfl rfl (Nat.le_of_ble_eq_true rfl) d_M_look_81 (fun H locs hW => ?_)
          obtain ⟨F_55, eF_55⟩ : ∃ z, z = va_up F_42 (87) (.inr (kM, [.int tc, .ref (ad 88), .int (nI tape.length), .ref (ad 89), .ref (ad 90), .ref (ad 91), .ref (ad 92), .int (nI la.length), .int fp, .int me, .int dp, .int (nI stk.length), .ref (ad 93), .ref (ad 94), .int 0, .int ou, .int 2, .int 0, .int be, .ref (ad 95), .int (nI mm.length)])) := ⟨_, rfl⟩
          replace hW : hp_W g z0 N ad F_55 s.heap H locs := by rw [eF_55]; exact hW
          have f_56 : F_55 (87) = .inr (kM, [.int tc, .ref (ad 88), .int (nI tape.length), .ref (ad 89), .ref (ad 90), .ref (ad 91), .ref (ad 92), .int (nI la.length), .int fp, .int me, .int dp, .int (nI stk.length), .ref (ad 93), .ref (ad 94), .int 0, .int ou, .int 2, .int 0, .int be, .ref (ad 95), .int (nI mm.length)]) := by rw [eF_55, va_up_self]
          have f_57 : F_55 (88) = .inl (g.2 0, 200, .inl tp) := by rw [eF_55, va_up_ne _ _ (by omega)]; exact f_44
          have f_58 : F_55 (89) = .inl (g.2 2, 26, .inl hs) := by rw [eF_55, va_up_ne _ _ (by omega)]; exact f_45
          have f_59 : F_55 (90) = .inl (g.2 0, 26, .inl sz) := by rw [eF_55, va_up_ne _ _ (by omega)]; exact f_46
          have f_60 : F_55 (91) = .inl (g.2 0, 2600, .inl tx) := by rw [eF_55, va_up_ne _ _ (by omega)]; exact f_47
          have f_61 : F_55 (92) = .inl (g.2 0, 301, .inl vl) := by rw [eF_55, va_up_ne _ _ (by omega)]; exact f_48
          have f_62 : F_55 (93) = .inl (g.2 0, 28, .inl ey) := by rw [eF_55, va_up_ne _ _ (by omega)]; exact f_49
          have f_63 : F_55 (94) = .inl (g.2 0, 28, .inl ap) := by rw [eF_55, va_up_ne _ _ (by omega)]; exact f_50
          have f_64 : F_55 (95) = .inl (g.2 0, 204, .inl md) := by rw [eF_55, va_up_ne _ _ (by omega)]; exact f_51
          have hf_65 : mFr F_42 F_55 := fun x hx => by rw [eF_55, va_up_ne _ _ (by omega)]
          have hh : md_hex (mC tape rt stk) q0 = false := decide_eq_false c_58i
          have hq3 : md_from (mC tape rt stk) q0 = (q0 + 2) := by unfold md_from; rw [hh]; rfl
          have hX : (md_ref (mC tape rt stk) q0) = md_num false (mC tape rt stk) (q0 + 2) := (if_pos c_43i).trans (by rw [hh, hq3])
          rw [hX]
          exact lp_look_0 l g z0 N ad hN tape kn rt la mm stk ap tc fp me dp ou be q0 (q0 + 2) (by omega) (by omega) _ F S hr hlk hK 7 0 0 F_55 (by omega) (by omega) ⟨tp, hs, sz, tx, vl, ey, md, ⟨f_56, f_57, f_58, f_59, f_60, f_61, f_62, f_63, f_64⟩, ⟨htl, htp⟩, hT, ⟨hll, hvl⟩, hKs, hml0, hmd⟩ rfl (hf_52.tr hf_65) _ _ ls hW (lv_sub hl [4, 5, 3, 2, 1, 0] rfl)
        · have c_58i := c_58
          refine lv_iconst (v := 1) hx hb d_M_look_61 (by decide) ?_
          refine lv_goto (tgt := 66) hx hb d_M_look_62 (by decide) ?_
          refine lv_istore (lv' := [(4, .int 1), (3, .int (nI (q0 + 2))), (2, .int (md_at (mC tape rt stk) (q0 + 1))), (0, .ref (ad 87)), (1, .int (nI q0))]) hx hb d_M_look_66 hl (by decide) rfl (fun ls hl => ?_)
          refine lv_iload hx hb d_M_look_68 (lv_at hl 0 rfl) ?_
          refine lv_if_eq (tgt := 76) hx hb d_M_look_70 (by decide) (fun c_70 => absurd c_70 (show ¬ ((1 : Int32) = 0) from by decide)) (fun c_70 => ?_)
          refine lv_iinc (v := (nI ((q0 + 2) + 1))) (lv' := [(3, .int (nI ((q0 + 2) + 1))), (4, .int 1), (2, .int (md_at (mC tape rt stk) (q0 + 1))), (0, .ref (ad 87)), (1, .int (nI q0))]) hx hb d_M_look_73 hl (k := 1) rfl ((nI_succ ((q0 + 2))).symm) (by decide) rfl (fun ls hl => ?_)
          refine lv_iconst (v := 0) hx hb d_M_look_76 (by decide) ?_
          refine lv_istore (lv' := [(5, .int 0), (3, .int (nI ((q0 + 2) + 1))), (4, .int 1), (2, .int (md_at (mC tape rt stk) (q0 + 1))), (0, .ref (ad 87)), (1, .int (nI q0))]) hx hb d_M_look_77 hl (by decide) rfl (fun ls hl => ?_)
          refine lv_aload_n hx hb d_M_look_79 rfl (lv_at hl 4 rfl) ?_
          refine lv_iconst (v := 0) hx hb d_M_look_80 (by decide) ?_
          refine hp_put S hK hW (87) (by omega) rfl f_43 rfl in_kM tyok_M nm_M 17 (by decide) (hts _ (List.mem_cons_of_mem _ tq_113)) rfl rfl rfl (Nat.le_of_ble_eq_true rfl) d_M_look_81 (fun H locs hW => ?_)
          obtain ⟨F_66, eF_66⟩ : ∃ z, z = va_up F_42 (87) (.inr (kM, [.int tc, .ref (ad 88), .int (nI tape.length), .ref (ad 89), .ref (ad 90), .ref (ad 91), .ref (ad 92), .int (nI la.length), .int fp, .int me, .int dp, .int (nI stk.length), .ref (ad 93), .ref (ad 94), .int 0, .int ou, .int 2, .int 0, .int be, .ref (ad 95), .int (nI mm.length)])) := ⟨_, rfl⟩
          replace hW : hp_W g z0 N ad F_66 s.heap H locs := by rw [eF_66]; exact hW
          have f_67 : F_66 (87) = .inr (kM, [.int tc, .ref (ad 88), .int (nI tape.length), .ref (ad 89), .ref (ad 90), .ref (ad 91), .ref (ad 92), .int (nI la.length), .int fp, .int me, .int dp, .int (nI stk.length), .ref (ad 93), .ref (ad 94), .int 0, .int ou, .int 2, .int 0, .int be, .ref (ad 95), .int (nI mm.length)]) := by rw [eF_66, va_up_self]
          have f_68 : F_66 (88) = .inl (g.2 0, 200, .inl tp) := by rw [eF_66, va_up_ne _ _ (by omega)]; exact f_44
          have f_69 : F_66 (89) = .inl (g.2 2, 26, .inl hs) := by rw [eF_66, va_up_ne _ _ (by omega)]; exact f_45
          have f_70 : F_66 (90) = .inl (g.2 0, 26, .inl sz) := by rw [eF_66, va_up_ne _ _ (by omega)]; exact f_46
          have f_71 : F_66 (91) = .inl (g.2 0, 2600, .inl tx) := by rw [eF_66, va_up_ne _ _ (by omega)]; exact f_47
          have f_72 : F_66 (92) = .inl (g.2 0, 301, .inl vl) := by rw [eF_66, va_up_ne _ _ (by omega)]; exact f_48
          have f_73 : F_66 (93) = .inl (g.2 0, 28, .inl ey) := by rw [eF_66, va_up_ne _ _ (by omega)]; exact f_49
          have f_74 : F_66 (94) = .inl (g.2 0, 28, .inl ap) := by rw [eF_66, va_up_ne _ _ (by omega)]; exact f_50
          have f_75 : F_66 (95) = .inl (g.2 0, 204, .inl md) := by rw [eF_66, va_up_ne _ _ (by omega)]; exact f_51
          have hf_76 : mFr F_42 F_66 := fun x hx => by rw [eF_66, va_up_ne _ _ (by omega)]
          have hh : md_hex (mC tape rt stk) q0 = true := decide_eq_true c_58i
          have hq3 : md_from (mC tape rt stk) q0 = (q0 + 3) := by unfold md_from; rw [hh]; rfl
          have hX : (md_ref (mC tape rt stk) q0) = md_num true (mC tape rt stk) (q0 + 3) := (if_pos c_43i).trans (by rw [hh, hq3])
          rw [hX]
          exact lp_look_1 l g z0 N ad hN tape kn rt la mm stk ap tc fp me dp ou be q0 (q0 + 3) (by omega) (by omega) _ F S hr hlk hK 7 0 0 F_66 (by omega) (by omega) ⟨tp, hs, sz, tx, vl, ey, md, ⟨f_67, f_68, f_69, f_70, f_71, f_72, f_73, f_74, f_75⟩, ⟨htl, htp⟩, hT, ⟨hll, hvl⟩, hKs, hml0, hmd⟩ rfl (hf_52.tr hf_76) _ _ ls hW (lv_sub hl [4, 5, 3, 1, 2, 0] rfl)
    · have c_21i := c_21
      have c_21j := Int32.not_lt.mp c_21
      refine lv_aload_n hx hb d_M_look_24 rfl (lv_at hl 2 rfl) ?_
      refine lv_iconst (v := 1) hx hb d_M_look_25 (by decide) ?_
      refine hp_put S hK hW (87) (by omega) rfl hR.1 rfl in_kM tyok_M nm_M 16 (by decide) (hts _ (List.mem_cons_of_mem _ tq_112)) rfl rfl rfl (Nat.le_of_ble_eq_true rfl) d_M_look_26 (fun H locs hW => ?_)
      obtain ⟨F_77, eF_77⟩ : ∃ z, z = va_up F (87) (.inr (kM, [.int tc, .ref (ad 88), .int (nI tape.length), .ref (ad 89), .ref (ad 90), .ref (ad 91), .ref (ad 92), .int (nI la.length), .int fp, .int me, .int dp, .int (nI stk.length), .ref (ad 93), .ref (ad 94), .int 0, .int ou, .int 1, .int nu, .int be, .ref (ad 95), .int (nI mm.length)])) := ⟨_, rfl⟩
      replace hW : hp_W g z0 N ad F_77 s.heap H locs := by rw [eF_77]; exact hW
      have f_78 : F_77 (87) = .inr (kM, [.int tc, .ref (ad 88), .int (nI tape.length), .ref (ad 89), .ref (ad 90), .ref (ad 91), .ref (ad 92), .int (nI la.length), .int fp, .int me, .int dp, .int (nI stk.length), .ref (ad 93), .ref (ad 94), .int 0, .int ou, .int 1, .int nu, .int be, .ref (ad 95), .int (nI mm.length)]) := by rw [eF_77, va_up_self]
      have f_79 : F_77 (88) = .inl (g.2 0, 200, .inl tp) := by rw [eF_77, va_up_ne _ _ (by omega)]; exact hR.2.1
      have f_80 : F_77 (89) = .inl (g.2 2, 26, .inl hs) := by rw [eF_77, va_up_ne _ _ (by omega)]; exact hR.2.2.1
      have f_81 : F_77 (90) = .inl (g.2 0, 26, .inl sz) := by rw [eF_77, va_up_ne _ _ (by omega)]; exact hR.2.2.2.1
      have f_82 : F_77 (91) = .inl (g.2 0, 2600, .inl tx) := by rw [eF_77, va_up_ne _ _ (by omega)]; exact hR.2.2.2.2.1
      have f_83 : F_77 (92) = .inl (g.2 0, 301, .inl vl) := by rw [eF_77, va_up_ne _ _ (by omega)]; exact hR.2.2.2.2.2.1
      have f_84 : F_77 (93) = .inl (g.2 0, 28, .inl ey) := by rw [eF_77, va_up_ne _ _ (by omega)]; exact hR.2.2.2.2.2.2.1
      have f_85 : F_77 (94) = .inl (g.2 0, 28, .inl ap) := by rw [eF_77, va_up_ne _ _ (by omega)]; exact hR.2.2.2.2.2.2.2.1
      have f_86 : F_77 (95) = .inl (g.2 0, 204, .inl md) := by rw [eF_77, va_up_ne _ _ (by omega)]; exact hR.2.2.2.2.2.2.2.2
      have hf_87 : mFr F F_77 := fun x hx => by rw [eF_77, va_up_ne _ _ (by omega)]
      refine lv_aload_n hx hb d_M_look_29 rfl (lv_at hl 2 rfl) ?_
      refine lv_iload_n hx hb d_M_look_30 rfl (lv_at hl 1 rfl) ?_
      refine lv_bipush (v := 97) hx hb d_M_look_31 (by decide) ?_
      refine lv_isub hx hb d_M_look_33 ?_
      refine hp_put S hK hW (87) (by omega) rfl f_78 rfl in_kM tyok_M nm_M 17 (by decide) (hts _ (List.mem_cons_of_mem _ tq_113)) rfl rfl rfl (Nat.le_of_ble_eq_true rfl) d_M_look_34 (fun H locs hW => ?_)
      obtain ⟨F_88, eF_88⟩ : ∃ z, z = va_up F_77 (87) (.inr (kM, [.int tc, .ref (ad 88), .int (nI tape.length), .ref (ad 89), .ref (ad 90), .ref (ad 91), .ref (ad 92), .int (nI la.length), .int fp, .int me, .int dp, .int (nI stk.length), .ref (ad 93), .ref (ad 94), .int 0, .int ou, .int 1, .int ((md_at (mC tape rt stk) (q0 + 1)) - 97), .int be, .ref (ad 95), .int (nI mm.length)])) := ⟨_, rfl⟩
      replace hW : hp_W g z0 N ad F_88 s.heap H locs := by rw [eF_88]; exact hW
      have f_89 : F_88 (87) = .inr (kM, [.int tc, .ref (ad 88), .int (nI tape.length), .ref (ad 89), .ref (ad 90), .ref (ad 91), .ref (ad 92), .int (nI la.length), .int fp, .int me, .int dp, .int (nI stk.length), .ref (ad 93), .ref (ad 94), .int 0, .int ou, .int 1, .int ((md_at (mC tape rt stk) (q0 + 1)) - 97), .int be, .ref (ad 95), .int (nI mm.length)]) := by rw [eF_88, va_up_self]
      have f_90 : F_88 (88) = .inl (g.2 0, 200, .inl tp) := by rw [eF_88, va_up_ne _ _ (by omega)]; exact f_79
      have f_91 : F_88 (89) = .inl (g.2 2, 26, .inl hs) := by rw [eF_88, va_up_ne _ _ (by omega)]; exact f_80
      have f_92 : F_88 (90) = .inl (g.2 0, 26, .inl sz) := by rw [eF_88, va_up_ne _ _ (by omega)]; exact f_81
      have f_93 : F_88 (91) = .inl (g.2 0, 2600, .inl tx) := by rw [eF_88, va_up_ne _ _ (by omega)]; exact f_82
      have f_94 : F_88 (92) = .inl (g.2 0, 301, .inl vl) := by rw [eF_88, va_up_ne _ _ (by omega)]; exact f_83
      have f_95 : F_88 (93) = .inl (g.2 0, 28, .inl ey) := by rw [eF_88, va_up_ne _ _ (by omega)]; exact f_84
      have f_96 : F_88 (94) = .inl (g.2 0, 28, .inl ap) := by rw [eF_88, va_up_ne _ _ (by omega)]; exact f_85
      have f_97 : F_88 (95) = .inl (g.2 0, 204, .inl md) := by rw [eF_88, va_up_ne _ _ (by omega)]; exact f_86
      have hf_98 : mFr F_77 F_88 := fun x hx => by rw [eF_88, va_up_ne _ _ (by omega)]
      refine lv_goto (tgt := 167) hx hb d_M_look_37 (by decide) ?_
      have h97 := Int32.not_lt.mp c_15i
      have h122 := Int32.not_lt.mp c_21i
      have hX : (md_ref (mC tape rt stk) q0) = md_cl (mC tape rt stk) true (md_at (mC tape rt stk) (q0 + 1) - 97) (q0 + 2) := (if_neg (fun z => by rw [z] at h97; exact absurd h97 (by decide))).trans (if_pos ⟨h97, h122⟩)
      rw [hX]
      exact tl_look_1 l g z0 N ad F_88 hN tape kn rt la mm stk ap tc fp me dp ou _ _ ⟨tp, hs, sz, tx, vl, ey, md, ⟨f_89, f_90, f_91, f_92, f_93, f_94, f_95, f_96, f_97⟩, ⟨htl, htp⟩, hT, ⟨hll, hvl⟩, hKs, hml0, hmd⟩ q0 (q0 + 2) (by omega) (by omega) F (hf_87.tr hf_98) S hr hlk hK H locs ls hW (lv_sub hl [2, 3, 0] rfl)
