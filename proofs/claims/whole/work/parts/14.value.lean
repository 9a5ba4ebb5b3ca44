/-! value(mode, limit), refused -/
set_option maxHeartbeats 400000 in
set_option maxRecDepth 100000 in
theorem c_value_out (l : Launch) (g : hp_G) (z0 N : Nat) (ad : Nat → Nat) (F : Nat → va_E) (hN : 87 ≤ N) (rs : Nat → List Int32) (kn op : Nat → Bool) (fp lm me dp wh te nu en : Int32) (hS : vSt g ad F rs kn op fp lm me dp wh te nu en) (mo li : Int32) (hno : mo < 0 ∨ 1 < mo ∨ li < 0 ∨ 100000 < li) : hp_Mi l g z0 N ad y_D_value ws_D_value (rk 83) [.ref (ad 0), .int mo, .int li] F (fun v F' => v = -10 ∧ F' = F) := by
  refine hp_enter (cc := cc_D_value) (maxL := 4) (ret := (some .int)) (by decide) rfl (Nat.le_of_ble_eq_true rfl) ?_
  intro p e s m below meth c S hr hlk hnm hK hW ls hl
  have hl : lv_has ls 4 [(0, .ref (ad 0)), (1, .int mo), (2, .int li)] := hl
  obtain ⟨hx, hb, hml, hown, hts⟩ := id S
  have in_kD : ∀ w ∈ u_ws R_D T_D 9, w ∈ ws_D_value := fun w h => List.mem_cons_of_mem _ (in0_D w h)
  refine lv_iload_n hx hb d_D_value_0 rfl (lv_at hl 1 rfl) ?_
  refine lv_if_lt (tgt := 19) hx hb d_D_value_1 (by decide) (fun c_1 => ?_) (fun c_1 => ?_)
  · have c_1i := c_1
    have c_1j := Int32.not_le.mpr c_1
    refine lv_bipush (v := (-10)) hx hb d_D_value_19 (by decide) ?_
    exact hp_reti S hK hW hr hlk d_D_value_21 (⟨rfl, rfl⟩)
  · have c_1i := c_1
    have c_1j := Int32.not_lt.mp c_1
    refine lv_iload_n hx hb d_D_value_4 rfl (lv_at hl 1 rfl) ?_
    refine lv_iconst (v := 1) hx hb d_D_value_5 (by decide) ?_
    refine lv_icmp_gt (tgt := 19) hx hb d_D_value_6 (by decide) (fun c_6 => ?_) (fun c_6 => ?_)
    · have c_6i := c_6
      have c_6j := Int32.not_le.mpr c_6
      refine lv_bipush (v := (-10)) hx hb d_D_value_19 (by decide) ?_
      exact hp_reti S hK hW hr hlk d_D_value_21 (⟨rfl, rfl⟩)
    · have c_6i := c_6
      have c_6j := Int32.not_lt.mp c_6
      refine lv_iload_n hx hb d_D_value_9 rfl (lv_at hl 2 rfl) ?_
      refine lv_if_lt (tgt := 19) hx hb d_D_value_10 (by decide) (fun c_10 => ?_) (fun c_10 => ?_)
      · have c_10i := c_10
        have c_10j := Int32.not_le.mpr c_10
        refine lv_bipush (v := (-10)) hx hb d_D_value_19 (by decide) ?_
        exact hp_reti S hK hW hr hlk d_D_value_21 (⟨rfl, rfl⟩)
      · have c_10i := c_10
        have c_10j := Int32.not_lt.mp c_10
        refine lv_iload_n hx hb d_D_value_13 rfl (lv_at hl 2 rfl) ?_
        refine lv_ldc (v := 100000) hx hb hown (hts _ (List.mem_cons_of_mem _ tq_39)) d_D_value_14 ?_
        refine lv_icmp_le (tgt := 22) hx hb d_D_value_16 (by decide) (fun c_16 => ?_) (fun c_16 => ?_)
        · have c_16i := c_16
          have c_16j := Int32.not_lt.mpr c_16
          exact absurd hno (by rintro (h | h | h | h); exact c_1i h; exact c_6i h; exact c_10i h; exact absurd c_16i (Int32.not_le.mpr h))
        · have c_16i := c_16
          have c_16j := Int32.not_le.mp c_16
          refine lv_bipush (v := (-10)) hx hb d_D_value_19 (by decide) ?_
          exact hp_reti S hK hW hr hlk d_D_value_21 (⟨rfl, rfl⟩)

/-! value(mode, limit) -/
set_option maxHeartbeats 400000 in
set_option maxRecDepth 100000 in
theorem c_value_in (l : Launch) (g : hp_G) (z0 N : Nat) (ad : Nat → Nat) (F : Nat → va_E) (hN : 87 ≤ N) (rs : Nat → List Int32) (kn op : Nat → Bool) (fp lm me dp wh te nu en : Int32) (hS : vSt g ad F rs kn op fp lm me dp wh te nu en) (hop : op = opS []) (m0 lim : Nat) (hm0 : m0 ≤ 1) (hlim : lim ≤ 100000) : hp_Mi l g z0 N ad y_D_value ws_D_value (rk 83) [.ref (ad 0), .int (nI m0), .int (nI lim)] F (fun v F' => v = (if (md_rv (txS kn rs) lim 27 [] 0 (rs 1) ([], 0, 0)).2.1 = 0 then nI (if m0 = 1 then md_sq (md_rv (txS kn rs) lim 27 [] 0 (rs 1) ([], 0, 0)).1.1 else (md_rv (txS kn rs) lim 27 [] 0 (rs 1) ([], 0, 0)).1.1).length else -nI (md_rv (txS kn rs) lim 27 [] 0 (rs 1) ([], 0, 0)).2.1) ∧ (∃ (rs2 : Nat → List Int32) (wh te nu en : Int32), vSt g ad F' rs2 kn (opS []) (pf (md_rv (txS kn rs) lim 27 [] 0 (rs 1) ([], 0, 0)).2.1 (-1) (nI (md_rv (txS kn rs) lim 27 [] 0 (rs 1) ([], 0, 0)).2.2)) (nI lim) (nI (md_rv (txS kn rs) lim 27 [] 0 (rs 1) ([], 0, 0)).1.2.1) (nI (md_rv (txS kn rs) lim 27 [] 0 (rs 1) ([], 0, 0)).1.2.2) wh te nu en ∧ rs2 1 = [] ∧ rs2 5 = (if (md_rv (txS kn rs) lim 27 [] 0 (rs 1) ([], 0, 0)).2.1 = 0 then if m0 = 1 then md_sq (md_rv (txS kn rs) lim 27 [] 0 (rs 1) ([], 0, 0)).1.1 else (md_rv (txS kn rs) lim 27 [] 0 (rs 1) ([], 0, 0)).1.1 else []) ∧ ∀ k, rs2 (9 + 3 * k) = rs (9 + 3 * k)) ∧ vFr F F') := by
  subst hop
  refine hp_enter (cc := cc_D_value) (maxL := 4) (ret := (some .int)) (by decide) rfl (Nat.le_of_ble_eq_true rfl) ?_
  intro p e s m below meth c S hr hlk hnm hK hW ls hl
  have hl : lv_has ls 4 [(0, .ref (ad 0)), (1, .int (nI m0)), (2, .int (nI lim))] := hl
  obtain ⟨hx, hb, hml, hown, hts⟩ := id S
  have in_kD : ∀ w ∈ u_ws R_D T_D 9, w ∈ ws_D_value := fun w h => List.mem_cons_of_mem _ (in0_D w h)
  refine lv_iload_n hx hb d_D_value_0 rfl (lv_at hl 1 rfl) ?_
  refine lv_if_lt (tgt := 19) hx hb d_D_value_1 (by decide) (fun c_1 => absurd c_1 (show ¬ (((nI m0) : Int32) < 0) from nI_pos (by omega))) (fun c_1 => ?_)
  refine lv_iload_n hx hb d_D_value_4 rfl (lv_at hl 1 rfl) ?_
  refine lv_iconst (v := 1) hx hb d_D_value_5 (by decide) ?_
  refine lv_icmp_gt (tgt := 19) hx hb d_D_value_6 (by decide) (fun c_6 => absurd c_6 (show ¬ (1 < ((nI m0) : Int32)) from nI_nlt (a := 1) hm0 (by omega))) (fun c_6 => ?_)
  refine lv_iload_n hx hb d_D_value_9 rfl (lv_at hl 2 rfl) ?_
  refine lv_if_lt (tgt := 19) hx hb d_D_value_10 (by decide) (fun c_10 => absurd c_10 (show ¬ (((nI lim) : Int32) < 0) from nI_pos (by omega))) (fun c_10 => ?_)
  refine lv_iload_n hx hb d_D_value_13 rfl (lv_at hl 2 rfl) ?_
  refine lv_ldc (v := 100000) hx hb hown (hts _ (List.mem_cons_of_mem _ tq_39)) d_D_value_14 ?_
  refine lv_icmp_le (tgt := 22) hx hb d_D_value_16 (by decide) (fun c_16 => ?_) (fun c_16 => absurd (show ((nI lim) : Int32) ≤ 100000 from nI_le (b := 100000) hlim (by omega)) c_16)
  refine lv_aload_n hx hb d_D_value_22 rfl (lv_at hl 0 rfl) ?_
  refine lv_iconst (v := (-1)) hx hb d_D_value_23 (by decide) ?_
  refine hp_put S hK hW (0) (by omega) rfl hS.1 rfl in_kD tyok_D nm_D 5 (by decide) (hts _ (List.mem_cons_of_mem _ tq_19)) rfl rfl rfl (Nat.le_of_ble_eq_true rfl) d_D_value_24 (fun H locs hW => ?_)
  obtain ⟨F_1, eF_1⟩ : ∃ z, z = va_up F (0) (.inr (kD, [.ref (ad 1), .ref (ad 3), .ref (ad 5), .ref (ad 7), .ref (ad 86), .int (-1), .int lm, .int me, .int dp])) := ⟨_, rfl⟩
  replace hW : hp_W g z0 N ad F_1 s.heap H locs := by rw [eF_1]; exact hW
  have f_2 : F_1 (0) = .inr (kD, [.ref (ad 1), .ref (ad 3), .ref (ad 5), .ref (ad 7), .ref (ad 86), .int (-1), .int lm, .int me, .int dp]) := by rw [eF_1, va_up_self]
  have f_3 : F_1 (86) = .inr (kF, [.int wh, .int te, .int nu, .int en]) := by rw [eF_1, va_up_ne _ _ (by omega)]; exact hS.2.2.2.2
  have f_4 : F_1 (1) = .inr (kR, [.ref (ad (1 + 1)), .int (nI (rs 1).length)]) := by rw [eF_1, va_up_ne _ _ (by omega)]; exact (hS.row rowp_1).obj
  have f_5 : F_1 (3) = .inr (kR, [.ref (ad (3 + 1)), .int (nI (rs 3).length)]) := by rw [eF_1, va_up_ne _ _ (by omega)]; exact (hS.row rowp_3).obj
  have f_6 : F_1 (5) = .inr (kR, [.ref (ad (5 + 1)), .int (nI (rs 5).length)]) := by rw [eF_1, va_up_ne _ _ (by omega)]; exact (hS.row rowp_5).obj
  have hf1 : vFr F F_1 := fun x hx => by rw [eF_1, va_up_ne _ _ (by omega)]
  have hS1 := hS.desk f_2 (fun x hx => by rw [eF_1, va_up_ne _ _ hx])
  refine lv_aload_n hx hb d_D_value_27 rfl (lv_at hl 0 rfl) ?_
  refine lv_iload_n hx hb d_D_value_28 rfl (lv_at hl 2 rfl) ?_
  refine hp_put S hK hW (0) (by omega) rfl hS1.1 rfl in_kD tyok_D nm_D 6 (by decide) (hts _ (List.mem_cons_of_mem _ tq_40)) rfl rfl rfl (Nat.le_of_ble_eq_true rfl) d_D_value_29 (fun H locs hW => ?_)
  obtain ⟨F_7, eF_7⟩ : ∃ z, z = va_up F_1 (0) (.inr (kD, [.ref (ad 1), .ref (ad 3), .ref (ad 5), .ref (ad 7), .ref (ad 86), .int ((-1)), .int (nI lim), .int me, .int dp])) := ⟨_, rfl⟩
  replace hW : hp_W g z0 N ad F_7 s.heap H locs := by rw [eF_7]; exact hW
  have f_8 : F_7 (0) = .inr (kD, [.ref (ad 1), .ref (ad 3), .ref (ad 5), .ref (ad 7), .ref (ad 86), .int ((-1)), .int (nI lim), .int me, .int dp]) := by rw [eF_7, va_up_self]
  have f_9 : F_7 (86) = .inr (kF, [.int wh, .int te, .int nu, .int en]) := by rw [eF_7, va_up_ne _ _ (by omega)]; exact hS1.2.2.2.2
  have f_10 : F_7 (1) = .inr (kR, [.ref (ad (1 + 1)), .int (nI (rs 1).length)]) := by rw [eF_7, va_up_ne _ _ (by omega)]; exact (hS1.row rowp_1).obj
  have f_11 : F_7 (3) = .inr (kR, [.ref (ad (3 + 1)), .int (nI (rs 3).length)]) := by rw [eF_7, va_up_ne _ _ (by omega)]; exact (hS1.row rowp_3).obj
  have f_12 : F_7 (5) = .inr (kR, [.ref (ad (5 + 1)), .int (nI (rs 5).length)]) := by rw [eF_7, va_up_ne _ _ (by omega)]; exact (hS1.row rowp_5).obj
  have hf2 : vFr F_1 F_7 := fun x hx => by rw [eF_7, va_up_ne _ _ (by omega)]
  have hS2 := hS1.desk f_8 (fun x hx => by rw [eF_7, va_up_ne _ _ hx])
  refine lv_aload_n hx hb d_D_value_32 rfl (lv_at hl 0 rfl) ?_
  refine lv_iconst (v := 0) hx hb d_D_value_33 (by decide) ?_
  refine hp_put S hK hW (0) (by omega) rfl hS2.1 rfl in_kD tyok_D nm_D 7 (by decide) (hts _ (List.mem_cons_of_mem _ tq_41)) rfl rfl rfl (Nat.le_of_ble_eq_true rfl) d_D_value_34 (fun H locs hW => ?_)
  obtain ⟨F_13, eF_13⟩ : ∃ z, z = va_up F_7 (0) (.inr (kD, [.ref (ad 1), .ref (ad 3), .ref (ad 5), .ref (ad 7), .ref (ad 86), .int (((-1))), .int ((nI lim)), .int 0, .int dp])) := ⟨_, rfl⟩
  replace hW : hp_W g z0 N ad F_13 s.heap H locs := by rw [eF_13]; exact hW
  have f_14 : F_13 (0) = .inr (kD, [.ref (ad 1), .ref (ad 3), .ref (ad 5), .ref (ad 7), .ref (ad 86), .int (((-1))), .int ((nI lim)), .int 0, .int dp]) := by rw [eF_13, va_up_self]
  have f_15 : F_13 (86) = .inr (kF, [.int wh, .int te, .int nu, .int en]) := by rw [eF_13, va_up_ne _ _ (by omega)]; exact hS2.2.2.2.2
  have f_16 : F_13 (1) = .inr (kR, [.ref (ad (1 + 1)), .int (nI (rs 1).length)]) := by rw [eF_13, va_up_ne _ _ (by omega)]; exact (hS2.row rowp_1).obj
  have f_17 : F_13 (3) = .inr (kR, [.ref (ad (3 + 1)), .int (nI (rs 3).length)]) := by rw [eF_13, va_up_ne _ _ (by omega)]; exact (hS2.row rowp_3).obj
  have f_18 : F_13 (5) = .inr (kR, [.ref (ad (5 + 1)), .int (nI (rs 5).length)]) := by rw [eF_13, va_up_ne _ _ (by omega)]; exact (hS2.row rowp_5).obj
  have hf3 : vFr F_7 F_13 := fun x hx => by rw [eF_13, va_up_ne _ _ (by omega)]
  have hS3 := hS2.desk f_14 (fun x hx => by rw [eF_13, va_up_ne _ _ hx])
  refine lv_aload_n hx hb d_D_value_37 rfl (lv_at hl 0 rfl) ?_
  refine lv_iconst (v := 0) hx hb d_D_value_38 (by decide) ?_
  refine hp_put S hK hW (0) (by omega) rfl hS3.1 rfl in_kD tyok_D nm_D 8 (by decide) (hts _ (List.mem_cons_of_mem _ tq_42)) rfl rfl rfl (Nat.le_of_ble_eq_true rfl) d_D_value_39 (fun H locs hW => ?_)
  obtain ⟨F_19, eF_19⟩ : ∃ z, z = va_up F_13 (0) (.inr (kD, [.ref (ad 1), .ref (ad 3), .ref (ad 5), .ref (ad 7), .ref (ad 86), .int ((((-1)))), .int (((nI lim))), .int 0, .int 0])) := ⟨_, rfl⟩
  replace hW : hp_W g z0 N ad F_19 s.heap H locs := by rw [eF_19]; exact hW
  have f_20 : F_19 (0) = .inr (kD, [.ref (ad 1), .ref (ad 3), .ref (ad 5), .ref (ad 7), .ref (ad 86), .int ((((-1)))), .int (((nI lim))), .int 0, .int 0]) := by rw [eF_19, va_up_self]
  have f_21 : F_19 (86) = .inr (kF, [.int wh, .int te, .int nu, .int en]) := by rw [eF_19, va_up_ne _ _ (by omega)]; exact hS3.2.2.2.2
  have f_22 : F_19 (1) = .inr (kR, [.ref (ad (1 + 1)), .int (nI (rs 1).length)]) := by rw [eF_19, va_up_ne _ _ (by omega)]; exact (hS3.row rowp_1).obj
  have f_23 : F_19 (3) = .inr (kR, [.ref (ad (3 + 1)), .int (nI (rs 3).length)]) := by rw [eF_19, va_up_ne _ _ (by omega)]; exact (hS3.row rowp_3).obj
  have f_24 : F_19 (5) = .inr (kR, [.ref (ad (5 + 1)), .int (nI (rs 5).length)]) := by rw [eF_19, va_up_ne _ _ (by omega)]; exact (hS3.row rowp_5).obj
  have hf4 : vFr F_13 F_19 := fun x hx => by rw [eF_19, va_up_ne _ _ (by omega)]
  have hS4 := hS3.desk f_20 (fun x hx => by rw [eF_19, va_up_ne _ _ hx])
  refine lv_aload_n hx hb d_D_value_42 rfl (lv_at hl 0 rfl) ?_
  refine hp_get S hK hW (0) (by omega) rfl hS4.1 rfl in_kD 2 (by decide) (hts _ (List.mem_cons_of_mem _ tq_8)) rfl d_D_value_43 ?_
  refine hp_gov hW (va_runV S (s_empty l g z0 N ad F_19 hN rs kn (opS []) (((((-1))))) ((((nI lim)))) 0 0 wh te nu en hS4 5 rowp_5) (cwV 0 hts (tb_V cd_R_empty tq_33 tq_34 tq_35 tq_3) rfl rfl rfl hd_R_empty (rk_ok (by omega) (by omega))) (hp_preV hK hW (by omega) rfl (hS4.row rowp_5).obj rfl) rfl rfl hl.1 rfl (lv_room (Nat.le_of_ble_eq_true rfl)) d_D_value_46 ⟨Nat.zero_le _, Nat.zero_le _⟩) (fun F_26 H locs hw hW => ?_)
  obtain ⟨hS5, hf5⟩ := hw
  refine lv_aload_n hx hb d_D_value_49 rfl (lv_at hl 0 rfl) ?_
  refine lv_aload_n hx hb d_D_value_50 rfl (lv_at hl 0 rfl) ?_
  refine hp_get S hK hW (0) (by omega) rfl hS5.1 rfl in_kD 0 (by decide) (hts _ (List.mem_cons_of_mem _ tq_6)) rfl d_D_value_51 ?_
  refine lv_iconst (v := 0) hx hb d_D_value_54 (by decide) ?_
  refine lv_iconst (v := (-1)) hx hb d_D_value_55 (by decide) ?_
  have hI : RI g ad kn rs lim [] ([], 0, 0) F_26 (va_up rs 5 []) (-1) wh te nu en := ⟨List.nodup_nil, fun x hx => absurd hx List.not_mem_nil, hS5, va_up_self _ _ _, fun j hj => va_up_ne _ _ hj, Nat.zero_le _, Nat.zero_le _, hlim⟩
  refine hp_goi hW (va_runV S (rv_all l g z0 N ad hN kn rs lim 27 [] 0 1 ([], 0, 0) F_26 (va_up rs 5 []) (-1) wh te nu en (-1) rfl rowp_1 (by omega) (by omega) rfl hI) (cwV 3 hts (tb_V cd_D_readValue tq_43 tq_44 tq_45 tq_27) rfl rfl rfl hd_D_readValue (rk_ok (by omega) (by omega))) (hp_preV hK hW (by omega) rfl hS5.1 rfl) rfl rfl hl.1 rfl (lv_room (Nat.le_of_ble_eq_true rfl)) d_D_value_56 ⟨Nat.zero_le _, Nat.zero_le _⟩) (fun r_27 F_28 H locs hw hW => ?_)
  obtain ⟨hv, ⟨rs2, wh2, te2, nu2, en2, hS6, h52, ho2⟩, hf6⟩ := hw
  rw [hv]
  have hok := ok_rv (tx := txS kn rs) (lim := lim) 27 [] 0 (rs 1) ([], 0, 0) rfl (Nat.zero_le _) (Nat.zero_le _)
  have hok1 := hok.1
  refine lv_istore_n (lv' := [(3, .int (nI (md_rv (txS kn rs) lim 27 [] 0 (rs 1) ([], 0, 0)).2.1)), (0, .ref (ad 0)), (1, .int (nI m0)), (2, .int (nI lim))]) hx hb d_D_value_59 rfl hl (by decide) rfl (fun ls hl => ?_)
  refine lv_aload_n hx hb d_D_value_60 rfl (lv_at hl 1 rfl) ?_
  refine hp_get S hK hW (0) (by omega) rfl hS6.1 rfl in_kD 0 (by decide) (hts _ (List.mem_cons_of_mem _ tq_6)) rfl d_D_value_61 ?_
  refine hp_gov hW (va_runV S (s_empty l g z0 N ad F_28 hN rs2 kn (opS []) (pf (md_rv (txS kn rs) lim 27 [] 0 (rs 1) ([], 0, 0)).2.1 (-1) (nI (md_rv (txS kn rs) lim 27 [] 0 (rs 1) ([], 0, 0)).2.2)) (nI lim) (nI (md_rv (txS kn rs) lim 27 [] 0 (rs 1) ([], 0, 0)).1.2.1) (nI (md_rv (txS kn rs) lim 27 [] 0 (rs 1) ([], 0, 0)).1.2.2) wh2 te2 nu2 en2 hS6 1 rowp_1) (cwV 0 hts (tb_V cd_R_empty tq_33 tq_34 tq_35 tq_3) rfl rfl rfl hd_R_empty (rk_ok (by omega) (by omega))) (hp_preV hK hW (by omega) rfl (hS6.row rowp_1).obj rfl) rfl rfl hl.1 rfl (lv_room (Nat.le_of_ble_eq_true rfl)) d_D_value_64 ⟨Nat.zero_le _, Nat.zero_le _⟩) (fun F_30 H locs hw hW => ?_)
  obtain ⟨hS7, hf7⟩ := hw
  refine lv_iload_n hx hb d_D_value_67 rfl (lv_at hl 0 rfl) ?_
  refine lv_if_eq (tgt := 81) hx hb d_D_value_68 (by decide) (fun c_68 => ?_) (fun c_68 => ?_)
  · have c_68i := c_68
    replace c_68 : (md_rv (txS kn rs) lim 27 [] 0 (rs 1) ([], 0, 0)).2.1 = 0 := (nI_eq (a := (md_rv (txS kn rs) lim 27 [] 0 (rs 1) ([], 0, 0)).2.1) (b := 0) (by omega) (by omega)).mp c_68
    refine lv_iload_n hx hb d_D_value_81 rfl (lv_at hl 2 rfl) ?_
    refine lv_iconst (v := 1) hx hb d_D_value_82 (by decide) ?_
    refine lv_icmp_ne (tgt := 93) hx hb d_D_value_83 (by decide) (fun c_83 => ?_) (fun c_83 => ?_)
    · have c_83i := c_83
      replace c_83 : ¬ m0 = 1 := fun zz9 => c_83 ((nI_eq (a := m0) (b := 1) (by omega) (by omega)).mpr zz9)
      refine lv_aload_n hx hb d_D_value_93 rfl (lv_at hl 1 rfl) ?_
      refine hp_get S hK hW (0) (by omega) rfl hS7.1 rfl in_kD 2 (by decide) (hts _ (List.mem_cons_of_mem _ tq_8)) rfl d_D_value_94 ?_
      refine hp_goi hW (va_runV S (s_size l g z0 N ad F_30 hN (va_up (rs2) 1 []) kn (opS []) (pf (md_rv (txS kn rs) lim 27 [] 0 (rs 1) ([], 0, 0)).2.1 (-1) (nI (md_rv (txS kn rs) lim 27 [] 0 (rs 1) ([], 0, 0)).2.2)) (nI lim) (nI (md_rv (txS kn rs) lim 27 [] 0 (rs 1) ([], 0, 0)).1.2.1) (nI (md_rv (txS kn rs) lim 27 [] 0 (rs 1) ([], 0, 0)).1.2.2) wh2 te2 nu2 en2 hS7 5 rowp_5) (cwV 0 hts (tb_V cd_R_size tq_20 tq_21 tq_22 tq_3) rfl rfl rfl hd_R_size (rk_ok (by omega) (by omega))) (hp_preV hK hW (by omega) rfl (hS7.row rowp_5).obj rfl) rfl rfl hl.1 rfl (lv_room (Nat.le_of_ble_eq_true rfl)) d_D_value_97 ⟨Nat.zero_le _, Nat.zero_le _⟩) (fun r_31 F_32 H locs hw hW => ?_)
      obtain ⟨hvq, hFq⟩ := hw
      rw [hFq] at hW
      rw [hvq]
      have h68 := c_68
      have hm1 : ¬ m0 = 1 := c_83
      have e5 : (va_up rs2 1 []) 5 = (md_rv (txS kn rs) lim 27 [] 0 (rs 1) ([], 0, 0)).1.1 := (va_up_ne _ _ (by omega)).trans h52
      exact hp_reti S hK hW hr hlk d_D_value_100 (by rw [if_pos h68, if_pos h68, if_neg hm1]; exact ⟨by rw [e5], ⟨_, _, _, _, _, hS7, va_up_self _ _ _, e5, fun k => by rw [va_up_ne _ _ (by omega)]; exact ho2 _ (by omega)⟩, ((((((hf1.tr hf2).tr hf3).tr hf4).tr hf5).tr hf6).tr hf7)⟩)
    · have c_83i := c_83
      replace c_83 : m0 = 1 := (nI_eq (a := m0) (b := 1) (by omega) (by omega)).mp c_83
      refine lv_aload_n hx hb d_D_value_86 rfl (lv_at hl 1 rfl) ?_
      refine hp_get S hK hW (0) (by omega) rfl hS7.1 rfl in_kD 2 (by decide) (hts _ (List.mem_cons_of_mem _ tq_8)) rfl d_D_value_87 ?_
      refine hp_gov hW (va_runV S (s_squeeze l g z0 N ad F_30 hN (va_up (rs2) 1 []) kn (opS []) (pf (md_rv (txS kn rs) lim 27 [] 0 (rs 1) ([], 0, 0)).2.1 (-1) (nI (md_rv (txS kn rs) lim 27 [] 0 (rs 1) ([], 0, 0)).2.2)) (nI lim) (nI (md_rv (txS kn rs) lim 27 [] 0 (rs 1) ([], 0, 0)).1.2.1) (nI (md_rv (txS kn rs) lim 27 [] 0 (rs 1) ([], 0, 0)).1.2.2) wh2 te2 nu2 en2 hS7 5 rowp_5) (cwV 0 hts (tb_V cd_R_squeeze tq_46 tq_47 tq_48 tq_3) rfl rfl rfl hd_R_squeeze (rk_ok (by omega) (by omega))) (hp_preV hK hW (by omega) rfl (hS7.row rowp_5).obj rfl) rfl rfl hl.1 rfl (lv_room (Nat.le_of_ble_eq_true rfl)) d_D_value_90 ⟨Nat.zero_le _, Nat.zero_le _⟩) (fun F_34 H locs hw hW => ?_)
      obtain ⟨hS8, hf8⟩ := hw
      refine lv_aload_n hx hb d_D_value_93 rfl (lv_at hl 1 rfl) ?_
      refine hp_get S hK hW (0) (by omega) rfl hS8.1 rfl in_kD 2 (by decide) (hts _ (List.mem_cons_of_mem _ tq_8)) rfl d_D_value_94 ?_
      refine hp_goi hW (va_runV S (s_size l g z0 N ad F_34 hN (va_up (va_up (rs2) 1 []) 5 (md_sq ((va_up (rs2) 1 []) 5))) kn (opS []) (pf (md_rv (txS kn rs) lim 27 [] 0 (rs 1) ([], 0, 0)).2.1 (-1) (nI (md_rv (txS kn rs) lim 27 [] 0 (rs 1) ([], 0, 0)).2.2)) (nI lim) (nI (md_rv (txS kn rs) lim 27 [] 0 (rs 1) ([], 0, 0)).1.2.1) (nI (md_rv (txS kn rs) lim 27 [] 0 (rs 1) ([], 0, 0)).1.2.2) wh2 te2 nu2 en2 hS8 5 rowp_5) (cwV 0 hts (tb_V cd_R_size tq_20 tq_21 tq_22 tq_3) rfl rfl rfl hd_R_size (rk_ok (by omega) (by omega))) (hp_preV hK hW (by omega) rfl (hS8.row rowp_5).obj rfl) rfl rfl hl.1 rfl (lv_room (Nat.le_of_ble_eq_true rfl)) d_D_value_97 ⟨Nat.zero_le _, Nat.zero_le _⟩) (fun r_35 F_36 H locs hw hW => ?_)
      obtain ⟨hvq, hFq⟩ := hw
      rw [hFq] at hW
      rw [hvq]
      have h68 := c_68
      have hm1 : m0 = 1 := c_83
      have e5 : (va_up (va_up rs2 1 []) 5 (md_sq ((va_up rs2 1 []) 5))) 5 = md_sq (md_rv (txS kn rs) lim 27 [] 0 (rs 1) ([], 0, 0)).1.1 := by rw [va_up_self, va_up_ne _ _ (by omega), h52]
      exact hp_reti S hK hW hr hlk d_D_value_100 (by rw [if_pos h68, if_pos h68, if_pos hm1]; exact ⟨by rw [e5], ⟨_, _, _, _, _, hS8, by rw [va_up_ne _ _ (by omega)]; exact va_up_self _ _ _, e5, fun k => by rw [va_up_ne _ _ (by omega), va_up_ne _ _ (by omega)]; exact ho2 _ (by omega)⟩, (((((((hf1.tr hf2).tr hf3).tr hf4).tr hf5).tr hf6).tr hf7).tr hf8)⟩)
  · have c_68i := c_68
    replace c_68 : ¬ (md_rv (txS kn rs) lim 27 [] 0 (rs 1) ([], 0, 0)).2.1 = 0 := fun zz9 => c_68 ((nI_eq (a := (md_rv (txS kn rs) lim 27 [] 0 (rs 1) ([], 0, 0)).2.1) (b := 0) (by omega) (by omega)).mpr zz9)
    refine lv_aload_n hx hb d_D_value_71 rfl (lv_at hl 1 rfl) ?_
    refine hp_get S hK hW (0) (by omega) rfl hS7.1 rfl in_kD 2 (by decide) (hts _ (List.mem_cons_of_mem _ tq_8)) rfl d_D_value_72 ?_
    refine hp_gov hW (va_runV S (s_empty l g z0 N ad F_30 hN (va_up (rs2) 1 []) kn (opS []) (pf (md_rv (txS kn rs) lim 27 [] 0 (rs 1) ([], 0, 0)).2.1 (-1) (nI (md_rv (txS kn rs) lim 27 [] 0 (rs 1) ([], 0, 0)).2.2)) (nI lim) (nI (md_rv (txS kn rs) lim 27 [] 0 (rs 1) ([], 0, 0)).1.2.1) (nI (md_rv (txS kn rs) lim 27 [] 0 (rs 1) ([], 0, 0)).1.2.2) wh2 te2 nu2 en2 hS7 5 rowp_5) (cwV 0 hts (tb_V cd_R_empty tq_33 tq_34 tq_35 tq_3) rfl rfl rfl hd_R_empty (rk_ok (by omega) (by omega))) (hp_preV hK hW (by omega) rfl (hS7.row rowp_5).obj rfl) rfl rfl hl.1 rfl (lv_room (Nat.le_of_ble_eq_true rfl)) d_D_value_75 ⟨Nat.zero_le _, Nat.zero_le _⟩) (fun F_38 H locs hw hW => ?_)
    obtain ⟨hS8, hf8⟩ := hw
    refine lv_iload_n hx hb d_D_value_78 rfl (lv_at hl 0 rfl) ?_
    refine lv_ineg hx hb d_D_value_79 ?_
    have h68 := c_68
    exact hp_reti S hK hW hr hlk d_D_value_80 (by rw [if_neg h68, if_neg h68]; exact ⟨rfl, ⟨_, _, _, _, _, hS8, by rw [va_up_ne _ _ (by omega)]; exact va_up_self _ _ _, va_up_self _ _ _, fun k => by rw [va_up_ne _ _ (by omega), va_up_ne _ _ (by omega)]; exact ho2 _ (by omega)⟩, (((((((hf1.tr hf2).tr hf3).tr hf4).tr hf5).tr hf6).tr hf7).tr hf8)⟩)
