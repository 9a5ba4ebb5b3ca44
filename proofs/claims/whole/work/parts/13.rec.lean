theorem mx_ok {a b : Nat} (ha : a < 2 ^ 31) (hb : b < 2 ^ 31) : (if nI a < nI b then nI b else nI a) = nI (max a b) := by
  split
  · rename_i h
    rw [nI_ltI ha hb] at h
    rw [Nat.max_eq_right (by omega)]
  · rename_i h
    rw [nI_ltI ha hb] at h
    rw [Nat.max_eq_left (by omega)]

set_option maxHeartbeats 400000 in
set_option maxRecDepth 100000 in
theorem te_of_rv (l : Launch) (g : hp_G) (z0 N : Nat) (ad : Nat → Nat) (hN : 87 ≤ N) (kn : Nat → Bool) (rs : Nat → List Int32) (lim d : Nat) (hRV : RV l g z0 N ad kn rs lim d) : TE l g z0 N ad kn rs lim d := by
  intro stk k h s F rs1 fp wh te nu en hd hk hh hI
  obtain ⟨hnd, hlt, hS, h5, hoth, hme, hdp, hlim⟩ := id hI
  have hstk := pig 26 stk hnd hlt
  refine hp_enter (cc := cc_D_takeEntity) (maxL := 6) (ret := (some .int)) (by decide) rfl (Nat.le_of_ble_eq_true rfl) ?_
  intro p e sM m below meth c S hr hlk hnm hK hW ls hl
  have hl : lv_has ls 6 [(0, .ref (ad 0)), (1, .int (nI k)), (2, .int (nI stk.length)), (3, .int (nI h))] := hl
  obtain ⟨hx, hb, hml, hown, hts⟩ := id S
  have in_kD : ∀ w ∈ u_ws R_D T_D 9, w ∈ ws_D_takeEntity := fun w h => List.mem_cons_of_mem _ (in0_D w h)
  have in_kE : ∀ w ∈ u_ws R_E T_E 3, w ∈ ws_D_takeEntity := fun w h => List.mem_cons_of_mem _ (in0_E w h)
  refine lv_aload_n hx hb d_D_takeEntity_0 rfl (lv_at hl 0 rfl) ?_
  refine lv_iload_n hx hb d_D_takeEntity_1 rfl (lv_at hl 1 rfl) ?_
  refine hp_goq hW (va_runV S (c_entityOf l g z0 N ad F hN rs1 kn (opS stk) fp (nI lim) (nI s.2.1) (nI s.2.2) wh te nu en hS (nI k)) (cwV 1 hts (tb_V cd_D_entityOf tq_26 tq_28 tq_29 tq_27) rfl rfl rfl hd_D_entityOf (rk_ok (by omega) (by omega))) (hp_preV hK hW (by omega) rfl hS.1 rfl) rfl rfl hl.1 rfl (lv_room (Nat.le_of_ble_eq_true rfl)) d_D_takeEntity_2 ⟨Nat.zero_le _, Nat.zero_le _⟩) (fun r_1 F_2 H locs hw hW => ?_)
  obtain ⟨hv, hF⟩ := hw
  rw [hF] at hW
  rw [hv, entA_in hk, va_rf_some]
  refine lv_astore (lv' := [(4, .ref (ad (8 + 3 * k))), (0, .ref (ad 0)), (1, .int (nI k)), (2, .int (nI stk.length)), (3, .int (nI h))]) hx hb d_D_takeEntity_5 hl (by decide) rfl (fun ls hl => ?_)
  refine lv_aload hx hb d_D_takeEntity_7 (lv_at hl 0 rfl) ?_
  refine lv_ifnull hx hb d_D_takeEntity_9 ?_
  refine lv_aload hx hb d_D_takeEntity_12 (lv_at hl 0 rfl) ?_
  refine hp_getN S hK hW (8 + 3 * k) (by omega) rfl (hS.2.2.2.1 k hk) rfl in_kE 1 (by decide) (List.mem_of_getElem? (i := 1) rfl) rfl d_D_takeEntity_14 ?_
  refine lv_if_ne (tgt := 27) hx hb d_D_takeEntity_17 (by decide) (fun c_17 => ?_) (fun c_17 => ?_)
  · have c_17i := c_17
    have htx : txS kn rs k = some (rs (9 + 3 * k)) := if_pos (b2_n0.mp c_17i)
    have hlk9 : (rs1 (9 + 3 * k)).length ≤ 100 := by have := (hS.row (rowp_e hk)).len; rw [cap_e] at this; exact this
    refine lv_aload hx hb d_D_takeEntity_27 (lv_at hl 0 rfl) ?_
    refine hp_getN S hK hW (8 + 3 * k) (by omega) rfl (hS.2.2.2.1 k hk) rfl in_kE 2 (by decide) (List.mem_of_getElem? (i := 2) rfl) rfl d_D_takeEntity_29 ?_
    refine lv_if_ne (tgt := 41) hx hb d_D_takeEntity_32 (by decide) (fun c_32 => ?_) (fun c_32 => ?_)
    · have c_32i := c_32
      refine lv_aload_n hx hb d_D_takeEntity_41 rfl (lv_at hl 1 rfl) ?_
      refine lv_iconst (v := 3) hx hb d_D_takeEntity_42 (by decide) ?_
      refine lv_iload_n hx hb d_D_takeEntity_43 rfl (lv_at hl 4 rfl) ?_
      refine hp_goi hW (va_runV S (c_fail l g z0 N ad F hN rs1 kn (opS stk) fp (nI lim) (nI s.2.1) (nI s.2.2) wh te nu en hS 3 (nI h)) (cwV 2 hts (tb_V cd_D_fail tq_56 tq_57 tq_58 tq_27) rfl rfl rfl hd_D_fail (rk_ok (by omega) (by omega))) (hp_preV hK hW (by omega) rfl hS.1 rfl) rfl rfl hl.1 rfl (lv_room (Nat.le_of_ble_eq_true rfl)) d_D_takeEntity_44 ⟨Nat.zero_le _, Nat.zero_le _⟩) (fun r_3 F_4 H locs hw hW => ?_)
      obtain ⟨hv1, hS1, hf1⟩ := hw
      rw [hv1]
      have hin : k ∈ stk := of_decide_eq_true (b2_n0.mp c_32i)
      have hX : (md_en (txS kn rs) lim (subd (txS kn rs) lim d stk) stk k s h) = (s, 3, h) := by unfold md_en; rw [htx]; exact if_pos hin
      exact hp_reti S hK hW hr hlk d_D_takeEntity_47 (by rw [hX]; exact ⟨rfl, ⟨rs1, _, _, _, _, hS1, h5, hoth⟩, hf1⟩)
    · have c_32i := c_32
      refine lv_iload_n hx hb d_D_takeEntity_35 rfl (lv_at hl 3 rfl) ?_
      refine lv_bipush (v := 26) hx hb d_D_takeEntity_36 (by decide) ?_
      refine lv_icmp_lt (tgt := 48) hx hb d_D_takeEntity_38 (by decide) (fun c_38 => ?_) (fun c_38 => ?_)
      · have c_38i := c_38
        replace c_38 : stk.length < 26 := (nI_ltI (a := stk.length) (b := 26) (by omega) (by omega)).mp c_38
        have hns : k ∉ stk := of_decide_eq_false (b2_0.mp c_32i)
        refine lv_aload hx hb d_D_takeEntity_48 (lv_at hl 0 rfl) ?_
        refine hp_getN S hK hW (8 + 3 * k) (by omega) rfl (hS.2.2.2.1 k hk) rfl in_kE 0 (by decide) (List.mem_of_getElem? (i := 0) rfl) rfl d_D_takeEntity_50 ?_
        refine hp_goi hW (va_runV S (s_size l g z0 N ad F hN rs1 kn (opS stk) fp (nI lim) (nI s.2.1) (nI s.2.2) wh te nu en hS (9 + 3 * k) (rowp_e hk)) (cwV 0 hts (tb_V cd_R_size tq_20 tq_21 tq_22 tq_3) rfl rfl rfl hd_R_size (rk_ok (by omega) (by omega))) (hp_preV hK hW (by omega) rfl (hS.row (rowp_e hk)).obj rfl) rfl rfl hl.1 rfl (lv_room (Nat.le_of_ble_eq_true rfl)) d_D_takeEntity_53 ⟨Nat.zero_le _, Nat.zero_le _⟩) (fun r_5 F_6 H locs hw hW => ?_)
        obtain ⟨hvq, hFq⟩ := hw
        rw [hFq] at hW
        rw [hvq]
        refine lv_aload_n hx hb d_D_takeEntity_56 rfl (lv_at hl 1 rfl) ?_
        refine hp_get S hK hW (0) (by omega) rfl hS.1 rfl in_kD 6 (by decide) (hts _ (List.mem_cons_of_mem _ tq_40)) rfl d_D_takeEntity_57 ?_
        refine lv_aload_n hx hb d_D_takeEntity_60 rfl (lv_at hl 1 rfl) ?_
        refine hp_get S hK hW (0) (by omega) rfl hS.1 rfl in_kD 7 (by decide) (hts _ (List.mem_cons_of_mem _ tq_41)) rfl d_D_takeEntity_61 ?_
        refine lv_isub hx hb d_D_takeEntity_64 ?_
        rw [show ((nI lim) - (nI s.2.1)) = (nI (lim - s.2.1)) from pk_sub (by omega)]
        refine lv_icmp_le (tgt := 76) hx hb d_D_takeEntity_65 (by decide) (fun c_65 => ?_) (fun c_65 => ?_)
        · have c_65i := c_65
          replace c_65 : (rs1 (9 + 3 * k)).length ≤ (lim - s.2.1) := (nI_leI (a := (rs1 (9 + 3 * k)).length) (b := (lim - s.2.1)) (by omega) (by omega)).mp c_65
          refine lv_aload_n hx hb d_D_takeEntity_76 rfl (lv_at hl 1 rfl) ?_
          refine lv_dup hx hb d_D_takeEntity_77 rfl ?_
          refine hp_get S hK hW (0) (by omega) rfl hS.1 rfl in_kD 7 (by decide) (hts _ (List.mem_cons_of_mem _ tq_41)) rfl d_D_takeEntity_78 ?_
          refine lv_aload hx hb d_D_takeEntity_81 (lv_at hl 0 rfl) ?_
          refine hp_getN S hK hW (8 + 3 * k) (by omega) rfl (hS.2.2.2.1 k hk) rfl in_kE 0 (by decide) (List.mem_of_getElem? (i := 0) rfl) rfl d_D_takeEntity_83 ?_
          refine hp_goi hW (va_runV S (s_size l g z0 N ad F hN rs1 kn (opS stk) fp (nI lim) (nI s.2.1) (nI s.2.2) wh te nu en hS (9 + 3 * k) (rowp_e hk)) (cwV 0 hts (tb_V cd_R_size tq_20 tq_21 tq_22 tq_3) rfl rfl rfl hd_R_size (rk_ok (by omega) (by omega))) (hp_preV hK hW (by omega) rfl (hS.row (rowp_e hk)).obj rfl) rfl rfl hl.1 rfl (lv_room (Nat.le_of_ble_eq_true rfl)) d_D_takeEntity_86 ⟨Nat.zero_le _, Nat.zero_le _⟩) (fun r_7 F_8 H locs hw hW => ?_)
          obtain ⟨hvq, hFq⟩ := hw
          rw [hFq] at hW
          rw [hvq]
          refine lv_iadd hx hb d_D_takeEntity_89 ?_
          rw [show ((nI s.2.1) + (nI (rs1 (9 + 3 * k)).length)) = (nI (s.2.1 + (rs1 (9 + 3 * k)).length)) from nI_add _ _]
          refine hp_put S hK hW (0) (by omega) rfl hS.1 rfl in_kD tyok_D nm_D 7 (by decide) (hts _ (List.mem_cons_of_mem _ tq_41)) rfl rfl rfl (Nat.le_of_ble_eq_true rfl) d_D_takeEntity_90 (fun H locs hW => ?_)
          obtain ⟨F_9, eF_9⟩ : ∃ z, z = va_up F (0) (.inr (kD, [.ref (ad 1), .ref (ad 3), .ref (ad 5), .ref (ad 7), .ref (ad 86), .int fp, .int (nI lim), .int (nI (s.2.1 + (rs1 (9 + 3 * k)).length)), .int (nI s.2.2)])) := ⟨_, rfl⟩
          replace hW : hp_W g z0 N ad F_9 sM.heap H locs := by rw [eF_9]; exact hW
          have f_10 : F_9 (0) = .inr (kD, [.ref (ad 1), .ref (ad 3), .ref (ad 5), .ref (ad 7), .ref (ad 86), .int fp, .int (nI lim), .int (nI (s.2.1 + (rs1 (9 + 3 * k)).length)), .int (nI s.2.2)]) := by rw [eF_9, va_up_self]
          have f_11 : F_9 (86) = .inr (kF, [.int wh, .int te, .int nu, .int en]) := by rw [eF_9, va_up_ne _ _ (by omega)]; exact hS.2.2.2.2
          have f_12 : F_9 (1) = .inr (kR, [.ref (ad (1 + 1)), .int (nI (rs1 1).length)]) := by rw [eF_9, va_up_ne _ _ (by omega)]; exact (hS.row rowp_1).obj
          have f_13 : F_9 (3) = .inr (kR, [.ref (ad (3 + 1)), .int (nI (rs1 3).length)]) := by rw [eF_9, va_up_ne _ _ (by omega)]; exact (hS.row rowp_3).obj
          have f_14 : F_9 (5) = .inr (kR, [.ref (ad (5 + 1)), .int (nI (rs1 5).length)]) := by rw [eF_9, va_up_ne _ _ (by omega)]; exact (hS.row rowp_5).obj
          have f_15 : F_9 (8 + 3 * k) = .inr (kE, [.ref (ad (9 + 3 * k)), .int (b2 (kn k)), .int (b2 ((opS stk) k))]) := by rw [eF_9, va_up_ne _ _ (by omega)]; exact (hS.2.2.2.1 k hk)
          have f_16 : F_9 (9 + 3 * k) = .inr (kR, [.ref (ad (9 + 3 * k + 1)), .int (nI ((rs1) (9 + 3 * k)).length)]) := by rw [eF_9, va_up_ne _ _ (by omega)]; exact (hS.row (rowp_e hk)).obj
          have hf1 : vFr F F_9 := fun x hx => by rw [eF_9, va_up_ne _ _ (by omega)]
          have hS1 := hS.desk f_10 (fun x hx => by rw [eF_9, va_up_ne _ _ hx])
          refine lv_aload_n hx hb d_D_takeEntity_93 rfl (lv_at hl 1 rfl) ?_
          refine lv_aload_n hx hb d_D_takeEntity_94 rfl (lv_at hl 1 rfl) ?_
          refine hp_get S hK hW (0) (by omega) rfl hS1.1 rfl in_kD 8 (by decide) (hts _ (List.mem_cons_of_mem _ tq_42)) rfl d_D_takeEntity_95 ?_
          refine lv_iload_n hx hb d_D_takeEntity_98 rfl (lv_at hl 3 rfl) ?_
          refine lv_iconst (v := 1) hx hb d_D_takeEntity_99 (by decide) ?_
          refine lv_iadd hx hb d_D_takeEntity_100 ?_
          rw [show ((nI stk.length) + 1) = (nI (stk.length + 1)) from (nI_succ _).symm]
          refine va_mmax hx hb (hml.trans hl.1.symm) hown (hts _ (List.mem_cons_of_mem _ tq_94)) (hts _ (List.mem_cons_of_mem _ tq_ms)) (hts _ (List.mem_cons_of_mem _ tq_mi)) (hts _ (List.mem_cons_of_mem _ tq_mc)) (by simp only [rk]; omega) (by simp only [rk]; show _ + 13 ≤ _; simp [Value.category]; omega) (Nat.zero_le _) (Nat.zero_le _) d_D_takeEntity_101 ?_
          rw [show (if ((nI s.2.2)) < (nI (stk.length + 1)) then (nI (stk.length + 1)) else ((nI s.2.2))) = nI (max s.2.2 (stk.length + 1)) from mx_ok (by omega) (by omega)]
          refine hp_put S hK hW (0) (by omega) rfl hS1.1 rfl in_kD tyok_D nm_D 8 (by decide) (hts _ (List.mem_cons_of_mem _ tq_42)) rfl rfl rfl (Nat.le_of_ble_eq_true rfl) d_D_takeEntity_104 (fun H locs hW => ?_)
          obtain ⟨F_17, eF_17⟩ : ∃ z, z = va_up F_9 (0) (.inr (kD, [.ref (ad 1), .ref (ad 3), .ref (ad 5), .ref (ad 7), .ref (ad 86), .int fp, .int (nI lim), .int ((nI (s.2.1 + (rs1 (9 + 3 * k)).length))), .int (nI (max s.2.2 (stk.length + 1)))])) := ⟨_, rfl⟩
          replace hW : hp_W g z0 N ad F_17 sM.heap H locs := by rw [eF_17]; exact hW
          have f_18 : F_17 (0) = .inr (kD, [.ref (ad 1), .ref (ad 3), .ref (ad 5), .ref (ad 7), .ref (ad 86), .int fp, .int (nI lim), .int ((nI (s.2.1 + (rs1 (9 + 3 * k)).length))), .int (nI (max s.2.2 (stk.length + 1)))]) := by rw [eF_17, va_up_self]
          have f_19 : F_17 (86) = .inr (kF, [.int wh, .int te, .int nu, .int en]) := by rw [eF_17, va_up_ne _ _ (by omega)]; exact hS1.2.2.2.2
          have f_20 : F_17 (1) = .inr (kR, [.ref (ad (1 + 1)), .int (nI (rs1 1).length)]) := by rw [eF_17, va_up_ne _ _ (by omega)]; exact (hS1.row rowp_1).obj
          have f_21 : F_17 (3) = .inr (kR, [.ref (ad (3 + 1)), .int (nI (rs1 3).length)]) := by rw [eF_17, va_up_ne _ _ (by omega)]; exact (hS1.row rowp_3).obj
          have f_22 : F_17 (5) = .inr (kR, [.ref (ad (5 + 1)), .int (nI (rs1 5).length)]) := by rw [eF_17, va_up_ne _ _ (by omega)]; exact (hS1.row rowp_5).obj
          have f_23 : F_17 (8 + 3 * k) = .inr (kE, [.ref (ad (9 + 3 * k)), .int (b2 (kn k)), .int (b2 ((opS stk) k))]) := by rw [eF_17, va_up_ne _ _ (by omega)]; exact (hS1.2.2.2.1 k hk)
          have f_24 : F_17 (9 + 3 * k) = .inr (kR, [.ref (ad (9 + 3 * k + 1)), .int (nI ((rs1) (9 + 3 * k)).length)]) := by rw [eF_17, va_up_ne _ _ (by omega)]; exact (hS1.row (rowp_e hk)).obj
          have hf2 : vFr F_9 F_17 := fun x hx => by rw [eF_17, va_up_ne _ _ (by omega)]
          have hS2 := hS1.desk f_18 (fun x hx => by rw [eF_17, va_up_ne _ _ hx])
          refine lv_aload hx hb d_D_takeEntity_107 (lv_at hl 0 rfl) ?_
          refine lv_iconst (v := 1) hx hb d_D_takeEntity_109 (by decide) ?_
          refine hp_putN S hK hW (8 + 3 * k) (by omega) rfl (hS2.2.2.2.1 k hk) rfl in_kE tyok_E nm_E 2 (by decide) (List.mem_of_getElem? (i := 2) rfl) rfl rfl rfl (Nat.le_of_ble_eq_true rfl) d_D_takeEntity_110 (fun H locs hW => ?_)
          obtain ⟨F_25, eF_25⟩ : ∃ z, z = va_up F_17 (8 + 3 * k) (.inr (kE, [.ref (ad (9 + 3 * k)), .int (b2 (kn k)), .int 1])) := ⟨_, rfl⟩
          replace hW : hp_W g z0 N ad F_25 sM.heap H locs := by rw [eF_25]; exact hW
          have f_26 : F_25 (0) = .inr (kD, [.ref (ad 1), .ref (ad 3), .ref (ad 5), .ref (ad 7), .ref (ad 86), .int fp, .int (nI lim), .int (((nI (s.2.1 + (rs1 (9 + 3 * k)).length)))), .int ((nI (max s.2.2 (stk.length + 1))))]) := by rw [eF_25, va_up_ne _ _ (by omega)]; exact hS2.1
          have f_27 : F_25 (86) = .inr (kF, [.int wh, .int te, .int nu, .int en]) := by rw [eF_25, va_up_ne _ _ (by omega)]; exact hS2.2.2.2.2
          have f_28 : F_25 (1) = .inr (kR, [.ref (ad (1 + 1)), .int (nI (rs1 1).length)]) := by rw [eF_25, va_up_ne _ _ (by omega)]; exact (hS2.row rowp_1).obj
          have f_29 : F_25 (3) = .inr (kR, [.ref (ad (3 + 1)), .int (nI (rs1 3).length)]) := by rw [eF_25, va_up_ne _ _ (by omega)]; exact (hS2.row rowp_3).obj
          have f_30 : F_25 (5) = .inr (kR, [.ref (ad (5 + 1)), .int (nI (rs1 5).length)]) := by rw [eF_25, va_up_ne _ _ (by omega)]; exact (hS2.row rowp_5).obj
          have f_31 : F_25 (8 + 3 * k) = .inr (kE, [.ref (ad (9 + 3 * k)), .int (b2 (kn k)), .int 1]) := by rw [eF_25, va_up_self]
          have f_32 : F_25 (9 + 3 * k) = .inr (kR, [.ref (ad (9 + 3 * k + 1)), .int (nI ((rs1) (9 + 3 * k)).length)]) := by rw [eF_25, va_up_ne _ _ (by omega)]; exact (hS2.row (rowp_e hk)).obj
          have hf3 : vFr F_17 F_25 := fun x hx => by rw [eF_25, va_up_ne _ _ (by omega)]
          have hS3 := hS2.setEnt (k := k) hk (u := kn k) (v := true) f_31 (fun x hx => by rw [eF_25, va_up_ne _ _ hx])
          rw [va_up_eta, opS_up] at hS3
          refine lv_aload_n hx hb d_D_takeEntity_113 rfl (lv_at hl 1 rfl) ?_
          refine lv_aload hx hb d_D_takeEntity_114 (lv_at hl 0 rfl) ?_
          refine hp_getN S hK hW (8 + 3 * k) (by omega) rfl (hS3.2.2.2.1 k hk) rfl in_kE 0 (by decide) (List.mem_of_getElem? (i := 0) rfl) rfl d_D_takeEntity_116 ?_
          refine lv_iload_n hx hb d_D_takeEntity_119 rfl (lv_at hl 3 rfl) ?_
          refine lv_iconst (v := 1) hx hb d_D_takeEntity_120 (by decide) ?_
          refine lv_iadd hx hb d_D_takeEntity_121 ?_
          rw [show ((nI stk.length) + 1) = (nI (k :: stk).length) from (nI_succ _).symm]
          refine lv_iload_n hx hb d_D_takeEntity_122 rfl (lv_at hl 4 rfl) ?_
          have hlen9 : (rs1 (9 + 3 * k)).length = (rs (9 + 3 * k)).length := by rw [hoth _ (by omega)]
          rw [hlen9] at hS3
          have hRI : RI g ad kn rs lim (k :: stk) (s.1, s.2.1 + (rs (9 + 3 * k)).length, max s.2.2 (stk.length + 1)) F_25 rs1 fp wh te nu en := ⟨List.nodup_cons.mpr ⟨hns, hnd⟩, fun x hx => by rcases List.mem_cons.mp hx with rfl | h2; exact hk; exact hlt x h2, hS3, h5, hoth, by show s.2.1 + _ ≤ lim; omega, by show max s.2.2 (stk.length + 1) ≤ 27; omega, hlim⟩
          refine hp_goi hW (va_runV S (hRV (k :: stk) h (9 + 3 * k) (s.1, s.2.1 + (rs (9 + 3 * k)).length, max s.2.2 (stk.length + 1)) F_25 rs1 fp wh te nu en (nI h) (by rw [List.length_cons]; omega) (rowp_e hk) (by omega) hh (by rw [if_neg (by rw [List.length_cons]; omega)]) hRI) (cwV 3 hts (tb_V cd_D_readValue tq_43 tq_44 tq_45 tq_27) rfl rfl rfl hd_D_readValue (rk_ok (by omega) (by omega))) (hp_preV hK hW (by omega) rfl hS3.1 rfl) rfl rfl hl.1 rfl (lv_room (Nat.le_of_ble_eq_true rfl)) d_D_takeEntity_123 ⟨Nat.zero_le _, Nat.zero_le _⟩) (fun r_33 F_34 H locs hw hW => ?_)
          obtain ⟨hv5, ⟨rs2, wh2, te2, nu2, en2, hS5, h52, ho2⟩, hf5⟩ := hw
          rw [hv5]
          refine lv_istore (lv' := [(5, .int (nI (md_rv (txS kn rs) lim d (k :: stk) h (rs (9 + 3 * k)) (s.1, s.2.1 + (rs (9 + 3 * k)).length, max s.2.2 (stk.length + 1))).2.1)), (4, .ref (ad (8 + 3 * k))), (0, .ref (ad 0)), (1, .int (nI k)), (2, .int (nI stk.length)), (3, .int (nI h))]) hx hb d_D_takeEntity_126 hl (by decide) rfl (fun ls hl => ?_)
          refine lv_aload hx hb d_D_takeEntity_128 (lv_at hl 1 rfl) ?_
          refine lv_iconst (v := 0) hx hb d_D_takeEntity_130 (by decide) ?_
          refine hp_putN S hK hW (8 + 3 * k) (by omega) rfl (hS5.2.2.2.1 k hk) rfl in_kE tyok_E nm_E 2 (by decide) (List.mem_of_getElem? (i := 2) rfl) rfl rfl rfl (Nat.le_of_ble_eq_true rfl) d_D_takeEntity_131 (fun H locs hW => ?_)
          obtain ⟨F_35, eF_35⟩ : ∃ z, z = va_up F_34 (8 + 3 * k) (.inr (kE, [.ref (ad (9 + 3 * k)), .int (b2 (kn k)), .int 0])) := ⟨_, rfl⟩
          replace hW : hp_W g z0 N ad F_35 sM.heap H locs := by rw [eF_35]; exact hW
          have f_36 : F_35 (0) = .inr (kD, [.ref (ad 1), .ref (ad 3), .ref (ad 5), .ref (ad 7), .ref (ad 86), .int (pf (md_rv (txS kn rs) lim d (k :: stk) h (rs (9 + 3 * k)) (s.1, s.2.1 + (rs (9 + 3 * k)).length, max s.2.2 (stk.length + 1))).2.1 fp (nI (md_rv (txS kn rs) lim d (k :: stk) h (rs (9 + 3 * k)) (s.1, s.2.1 + (rs (9 + 3 * k)).length, max s.2.2 (stk.length + 1))).2.2)), .int (nI lim), .int (nI (md_rv (txS kn rs) lim d (k :: stk) h (rs (9 + 3 * k)) (s.1, s.2.1 + (rs (9 + 3 * k)).length, max s.2.2 (stk.length + 1))).1.2.1), .int (nI (md_rv (txS kn rs) lim d (k :: stk) h (rs (9 + 3 * k)) (s.1, s.2.1 + (rs (9 + 3 * k)).length, max s.2.2 (stk.length + 1))).1.2.2)]) := by rw [eF_35, va_up_ne _ _ (by omega)]; exact hS5.1
          have f_37 : F_35 (86) = .inr (kF, [.int wh2, .int te2, .int nu2, .int en2]) := by rw [eF_35, va_up_ne _ _ (by omega)]; exact hS5.2.2.2.2
          have f_38 : F_35 (1) = .inr (kR, [.ref (ad (1 + 1)), .int (nI (rs2 1).length)]) := by rw [eF_35, va_up_ne _ _ (by omega)]; exact (hS5.row rowp_1).obj
          have f_39 : F_35 (3) = .inr (kR, [.ref (ad (3 + 1)), .int (nI (rs2 3).length)]) := by rw [eF_35, va_up_ne _ _ (by omega)]; exact (hS5.row rowp_3).obj
          have f_40 : F_35 (5) = .inr (kR, [.ref (ad (5 + 1)), .int (nI (rs2 5).length)]) := by rw [eF_35, va_up_ne _ _ (by omega)]; exact (hS5.row rowp_5).obj
          have f_41 : F_35 (8 + 3 * k) = .inr (kE, [.ref (ad (9 + 3 * k)), .int (b2 (kn k)), .int 0]) := by rw [eF_35, va_up_self]
          have hf6 : vFr F_34 F_35 := fun x hx => by rw [eF_35, va_up_ne _ _ (by omega)]
          have hS6 := hS5.setEnt (k := k) hk (u := kn k) (v := false) f_41 (fun x hx => by rw [eF_35, va_up_ne _ _ hx])
          rw [va_up_eta, opS_dn hns] at hS6
          refine lv_iload hx hb d_D_takeEntity_134 (lv_at hl 0 rfl) ?_
          have hX : (md_en (txS kn rs) lim (subd (txS kn rs) lim d stk) stk k s h) = (md_rv (txS kn rs) lim d (k :: stk) h (rs (9 + 3 * k)) (s.1, s.2.1 + (rs (9 + 3 * k)).length, max s.2.2 (stk.length + 1))) := by unfold md_en; rw [htx]; exact (if_neg hns).trans (if_neg (by rw [← hoth (9 + 3 * k) (by omega)]; omega))
          exact hp_reti S hK hW hr hlk d_D_takeEntity_136 (by rw [hX]; exact ⟨rfl, ⟨rs2, _, _, _, _, hS6, h52, ho2⟩, ((((hf1.tr hf2).tr hf3).tr hf5).tr hf6)⟩)
        · have c_65i := c_65
          replace c_65 : ¬ (rs1 (9 + 3 * k)).length ≤ (lim - s.2.1) := fun zz9 => c_65 ((nI_leI (a := (rs1 (9 + 3 * k)).length) (b := (lim - s.2.1)) (by omega) (by omega)).mpr zz9)
          refine lv_aload_n hx hb d_D_takeEntity_68 rfl (lv_at hl 1 rfl) ?_
          refine lv_bipush (v := 6) hx hb d_D_takeEntity_69 (by decide) ?_
          refine lv_iload_n hx hb d_D_takeEntity_71 rfl (lv_at hl 4 rfl) ?_
          refine hp_goi hW (va_runV S (c_fail l g z0 N ad F hN rs1 kn (opS stk) fp (nI lim) (nI s.2.1) (nI s.2.2) wh te nu en hS 6 (nI h)) (cwV 2 hts (tb_V cd_D_fail tq_56 tq_57 tq_58 tq_27) rfl rfl rfl hd_D_fail (rk_ok (by omega) (by omega))) (hp_preV hK hW (by omega) rfl hS.1 rfl) rfl rfl hl.1 rfl (lv_room (Nat.le_of_ble_eq_true rfl)) d_D_takeEntity_72 ⟨Nat.zero_le _, Nat.zero_le _⟩) (fun r_42 F_43 H locs hw hW => ?_)
          obtain ⟨hv1, hS1, hf1⟩ := hw
          rw [hv1]
          have hX : (md_en (txS kn rs) lim (subd (txS kn rs) lim d stk) stk k s h) = (s, 6, h) := by unfold md_en; rw [htx]; exact (if_neg hns).trans (if_pos (by rw [← hoth (9 + 3 * k) (by omega)]; omega))
          exact hp_reti S hK hW hr hlk d_D_takeEntity_75 (by rw [hX]; exact ⟨rfl, ⟨rs1, _, _, _, _, hS1, h5, hoth⟩, hf1⟩)
      · have c_38i := c_38
        replace c_38 : ¬ stk.length < 26 := fun zz9 => c_38 ((nI_ltI (a := stk.length) (b := 26) (by omega) (by omega)).mpr zz9)
        refine lv_aload_n hx hb d_D_takeEntity_41 rfl (lv_at hl 1 rfl) ?_
        refine lv_iconst (v := 3) hx hb d_D_takeEntity_42 (by decide) ?_
        refine lv_iload_n hx hb d_D_takeEntity_43 rfl (lv_at hl 4 rfl) ?_
        refine hp_goi hW (va_runV S (c_fail l g z0 N ad F hN rs1 kn (opS stk) fp (nI lim) (nI s.2.1) (nI s.2.2) wh te nu en hS 3 (nI h)) (cwV 2 hts (tb_V cd_D_fail tq_56 tq_57 tq_58 tq_27) rfl rfl rfl hd_D_fail (rk_ok (by omega) (by omega))) (hp_preV hK hW (by omega) rfl hS.1 rfl) rfl rfl hl.1 rfl (lv_room (Nat.le_of_ble_eq_true rfl)) d_D_takeEntity_44 ⟨Nat.zero_le _, Nat.zero_le _⟩) (fun r_44 F_45 H locs hw hW => ?_)
        obtain ⟨hv1, hS1, hf1⟩ := hw
        rw [hv1]
        have hin : k ∈ stk := Classical.byContradiction (fun hn => by have h1 := pig 26 (k :: stk) (List.nodup_cons.mpr ⟨hn, hnd⟩) (fun x hx => by rcases List.mem_cons.mp hx with rfl | h2; exact hk; exact hlt x h2); rw [List.length_cons] at h1; omega)
        have hX : (md_en (txS kn rs) lim (subd (txS kn rs) lim d stk) stk k s h) = (s, 3, h) := by unfold md_en; rw [htx]; exact if_pos hin
        exact hp_reti S hK hW hr hlk d_D_takeEntity_47 (by rw [hX]; exact ⟨rfl, ⟨rs1, _, _, _, _, hS1, h5, hoth⟩, hf1⟩)
  · have c_17i := c_17
    refine lv_aload_n hx hb d_D_takeEntity_20 rfl (lv_at hl 1 rfl) ?_
    refine lv_iconst (v := 2) hx hb d_D_takeEntity_21 (by decide) ?_
    refine lv_iload_n hx hb d_D_takeEntity_22 rfl (lv_at hl 4 rfl) ?_
    refine hp_goi hW (va_runV S (c_fail l g z0 N ad F hN rs1 kn (opS stk) fp (nI lim) (nI s.2.1) (nI s.2.2) wh te nu en hS 2 (nI h)) (cwV 2 hts (tb_V cd_D_fail tq_56 tq_57 tq_58 tq_27) rfl rfl rfl hd_D_fail (rk_ok (by omega) (by omega))) (hp_preV hK hW (by omega) rfl hS.1 rfl) rfl rfl hl.1 rfl (lv_room (Nat.le_of_ble_eq_true rfl)) d_D_takeEntity_23 ⟨Nat.zero_le _, Nat.zero_le _⟩) (fun r_46 F_47 H locs hw hW => ?_)
    obtain ⟨hv1, hS1, hf1⟩ := hw
    rw [hv1]
    have hX : (md_en (txS kn rs) lim (subd (txS kn rs) lim d stk) stk k s h) = (s, 2, h) := by unfold md_en; rw [(show txS kn rs k = none from if_neg (by rw [b2_0.mp c_17i]; exact fun z => by cases z))]
    exact hp_reti S hK hW hr hlk d_D_takeEntity_26 (by rw [hX]; exact ⟨rfl, ⟨rs1, _, _, _, _, hS1, h5, hoth⟩, hf1⟩)

set_option maxHeartbeats 400000 in
set_option maxRecDepth 100000 in
theorem tr_of_te (l : Launch) (g : hp_G) (z0 N : Nat) (ad : Nat → Nat) (hN : 87 ≤ N) (kn : Nat → Bool) (rs : Nat → List Int32) (lim d : Nat) (hTE : TE l g z0 N ad kn rs lim d) : TR l g z0 N ad kn rs lim d := by
  intro stk h s F rs1 fp wh te nu en ent hd hh hte hent hI
  subst hte
  obtain ⟨hnd, hlt, hS, h5, hoth, hme, hdp, hlim⟩ := id hI
  have hstk := pig 26 stk hnd hlt
  refine hp_enter (cc := cc_D_takeReference) (maxL := 3) (ret := (some .int)) (by decide) rfl (Nat.le_of_ble_eq_true rfl) ?_
  intro p e sM m below meth c S hr hlk hnm hK hW ls hl
  have hl : lv_has ls 3 [(0, .ref (ad 0)), (1, .int (nI stk.length)), (2, .int (nI h))] := hl
  obtain ⟨hx, hb, hml, hown, hts⟩ := id S
  have in_kD : ∀ w ∈ u_ws R_D T_D 9, w ∈ ws_D_takeReference := fun w h => List.mem_cons_of_mem _ (in0_D w h)
  have in_kF : ∀ w ∈ u_ws R_F T_F 4, w ∈ ws_D_takeReference := fun w h => List.mem_cons_of_mem _ (in0_F w h)
  refine lv_aload_n hx hb d_D_takeReference_0 rfl (lv_at hl 0 rfl) ?_
  refine hp_get S hK hW (0) (by omega) rfl hS.1 rfl in_kD 4 (by decide) (hts _ (List.mem_cons_of_mem _ tq_18)) rfl d_D_takeReference_1 ?_
  refine hp_getN S hK hW (86) (by omega) rfl hS.2.2.2.2 rfl in_kF 1 (by decide) (List.mem_of_getElem? (i := 4) rfl) rfl d_D_takeReference_4 ?_
  refine lv_if_eq (tgt := 26) hx hb d_D_takeReference_7 (by decide) (fun c_7 => ?_) (fun c_7 => ?_)
  · have c_7i := c_7
    refine lv_aload_n hx hb d_D_takeReference_26 rfl (lv_at hl 0 rfl) ?_
    refine lv_aload_n hx hb d_D_takeReference_27 rfl (lv_at hl 0 rfl) ?_
    refine hp_get S hK hW (0) (by omega) rfl hS.1 rfl in_kD 2 (by decide) (hts _ (List.mem_cons_of_mem _ tq_8)) rfl d_D_takeReference_28 ?_
    refine lv_iload_n hx hb d_D_takeReference_31 rfl (lv_at hl 2 rfl) ?_
    refine hp_goi hW (va_runV S (c_addByNumber l g z0 N ad F hN rs1 kn (opS stk) fp (nI lim) (nI s.2.1) (nI s.2.2) wh (b2 ent) nu en hS 5 rowp_5 (nI h)) (cwV 2 hts (tb_V cd_D_addByNumber tq_79 tq_80 tq_81 tq_27) rfl rfl rfl hd_D_addByNumber (rk_ok (by omega) (by omega))) (hp_preV hK hW (by omega) rfl hS.1 rfl) rfl rfl hl.1 rfl (lv_room (Nat.le_of_ble_eq_true rfl)) d_D_takeReference_32 ⟨Nat.zero_le _, Nat.zero_le _⟩) (fun r_1 F_2 H locs hw hW => ?_)
    obtain ⟨hv1, hS1, hf1⟩ := hw
    rw [hv1]
    have hX : md_wr (txS kn rs) lim (subd (txS kn rs) lim d stk) stk ent nu s h = (((md_nu 300 s.1 nu).1, s.2), (md_nu 300 s.1 nu).2, h) := if_neg (by rw [b2_0.mp c_7i]; exact fun z => by cases z)
    rw [h5] at hS1
    exact hp_reti S hK hW hr hlk d_D_takeReference_35 (by rw [hX, h5]; exact ⟨rfl, ⟨_, _, _, _, _, hS1, va_up_self _ _ _, fun j hj => (va_up_ne _ _ hj).trans (hoth j hj)⟩, hf1⟩)
  · have c_7i := c_7
    refine lv_aload_n hx hb d_D_takeReference_10 rfl (lv_at hl 0 rfl) ?_
    refine lv_aload_n hx hb d_D_takeReference_11 rfl (lv_at hl 0 rfl) ?_
    refine hp_get S hK hW (0) (by omega) rfl hS.1 rfl in_kD 4 (by decide) (hts _ (List.mem_cons_of_mem _ tq_18)) rfl d_D_takeReference_12 ?_
    refine hp_getN S hK hW (86) (by omega) rfl hS.2.2.2.2 rfl in_kF 2 (by decide) (List.mem_of_getElem? (i := 5) rfl) rfl d_D_takeReference_15 ?_
    refine lv_iload_n hx hb d_D_takeReference_18 rfl (lv_at hl 1 rfl) ?_
    refine lv_iload_n hx hb d_D_takeReference_19 rfl (lv_at hl 2 rfl) ?_
    obtain ⟨k, hk, ek⟩ := hent (b2_n0.mp c_7i)
    subst ek
    refine hp_goi hW (va_runV S (hTE stk k h s F rs1 fp wh (b2 ent) (nI k) en hd hk hh hI) (cwV 3 hts (tb_V cd_D_takeEntity tq_91 tq_92 tq_93 tq_27) rfl rfl rfl hd_D_takeEntity (rk_ok (by omega) (by omega))) (hp_preV hK hW (by omega) rfl hS.1 rfl) rfl rfl hl.1 rfl (lv_room (Nat.le_of_ble_eq_true rfl)) d_D_takeReference_20 ⟨Nat.zero_le _, Nat.zero_le _⟩) (fun r_3 F_4 H locs hw hW => ?_)
    refine lv_goto (tgt := 35) hx hb d_D_takeReference_23 (by decide) ?_
    have hX : md_wr (txS kn rs) lim (subd (txS kn rs) lim d stk) stk ent (nI k) s h = md_en (txS kn rs) lim (subd (txS kn rs) lim d stk) stk k s h := by unfold md_wr; rw [if_pos (b2_n0.mp c_7i), nI_clamp (by omega)]
    exact hp_reti S hK hW hr hlk d_D_takeReference_35 (by rw [hX]; exact hw)

/-! readValue: its loop -/
set_option maxHeartbeats 400000 in
set_option maxRecDepth 100000 in
theorem lp_readValue {p : Program} {e : Env} {sM : State} {m : MethodId} {args : Array Value} {below : List Frame} {meth : Method} {c : Code} (l : Launch) (g : hp_G) (z0 N : Nat) (ad : Nat → Nat)  (hN : 87 ≤ N) (kn : Nat → Bool) (rs : Nat → List Int32) (lim d : Nat) (hTR : TR l g z0 N ad kn rs lim d) (stk : List Nat) (ou j0 : Nat) (hj0 : rowp j0) (hj5 : j0 ≠ 5) (hou : ou < 1000) (o3 : Int32) (ho3 : o3 = (if stk.length = 0 then -1 else nI ou)) (hd : d + 1 + stk.length = 27) (xs : List Int32) (hxs0 : rs j0 = xs) (hxl : xs.length ≤ 300) (R : md_R) (Fz : Nat → va_E) (fz : Int32) (S : CallFix p m c cc_D_readValue 8 sM args ws_D_readValue R_D) (hr : meth.sig.returnType = (some .int)) (hlk : meth.locks = false) (hK : hp_K g sM) : ∀ (j : Nat) (k b n : Nat) (s : md_S) (F : Nat → va_E) (rs1 : Nat → List Int32) (wh te nu en : Int32), k ≤ xs.length → xs.length + 1 ≤ k + j → b ≤ 400 → xs.length ≤ max k b + n → R = md_lp (txS kn rs) lim (subd (txS kn rs) lim d stk) stk ou xs n (max k b) s → RI g ad kn rs lim stk s F rs1 fz wh te nu en → vFr Fz F → ∀ (H : Heap) (locs : List Loc) (ls : Array Slot), hp_W g z0 N ad F sM.heap H locs → lv_has ls 8 [(0, .ref (ad 0)), (1, .ref (ad j0)), (2, .int (nI stk.length)), (3, .int o3), (4, .int (nI b)), (5, .int (nI k))] → W p l e (rk (3 * (d + 1) + 1)) sM m args below meth c H locs 0 0 (MQ below (va_Qi (RP g ad kn rs lim stk fz Fz R) (hp_B g z0 N ad) (hp_A z0)) args sM 0 0 (hp_A z0)) (F0 m 6 ls []) := by
  obtain ⟨hx, hb, hml, hown, hts⟩ := id S
  have in_kD : ∀ w ∈ u_ws R_D T_D 9, w ∈ ws_D_readValue := fun w h => List.mem_cons_of_mem _ (in0_D w h)
  have in_kF : ∀ w ∈ u_ws R_F T_F 4, w ∈ ws_D_readValue := fun w h => List.mem_cons_of_mem _ (in0_F w h)
  intro j
  induction j with
  | zero =>
    intro k b n s F rs1 wh te nu en hk hj hb0 hn hR hI hfr H locs ls hW hl
    exact absurd hj (by omega)
  | succ j ih =>
    intro k b n s F rs1 wh te nu en hk hj hb0 hn hR hI hfr H locs ls hW hl
    obtain ⟨hnd, hlt, hS, h5, hoth, hme, hdp, hlim⟩ := id hI
    have hxs : rs1 j0 = xs := (hoth j0 hj5).trans hxs0
    have hjl := rowp_lt hj0
    refine lv_iload hx hb d_D_readValue_6 (lv_at hl 5 rfl) ?_
    refine lv_aload_n hx hb d_D_readValue_8 rfl (lv_at hl 1 rfl) ?_
    refine hp_goi hW (va_runV S (s_size l g z0 N ad F hN rs1 kn (opS stk) fz (nI lim) (nI s.2.1) (nI s.2.2) wh te nu en hS j0 hj0) (cwV 0 hts (tb_V cd_R_size tq_20 tq_21 tq_22 tq_3) rfl rfl rfl hd_R_size (rk_ok (by omega) (by omega))) (hp_preV hK hW (by omega) rfl (hS.row hj0).obj rfl) rfl rfl hl.1 rfl (lv_room (Nat.le_of_ble_eq_true rfl)) d_D_readValue_9 ⟨Nat.zero_le _, Nat.zero_le _⟩) (fun r_1 F_2 H locs hw hW => ?_)
    obtain ⟨hvq, hFq⟩ := hw
    rw [hFq] at hW
    rw [hvq]
    rw [hxs]
    refine lv_icmp_ge (tgt := 127) hx hb d_D_readValue_12 (by decide) (fun c_12 => ?_) (fun c_12 => ?_)
    · have c_12i := c_12
      replace c_12 : xs.length ≤ k := (nI_leI (a := xs.length) (b := k) (by omega) (by omega)).mp c_12
      refine lv_iconst (v := 0) hx hb d_D_readValue_127 (by decide) ?_
      have hR1 : R = (s, 0, 0) := by rw [hR]; exact md_lp_end (by omega)
      exact hp_reti S hK hW hr hlk d_D_readValue_128 (⟨by rw [hR1]; rfl, ⟨rs1, _, _, _, _, by rw [hR1]; exact hS, by rw [hR1]; exact h5, hoth⟩, hfr⟩)
    · have c_12i := c_12
      replace c_12 : ¬ xs.length ≤ k := fun zz9 => c_12 ((nI_leI (a := xs.length) (b := k) (by omega) (by omega)).mpr zz9)
      refine lv_iload hx hb d_D_readValue_15 (lv_at hl 5 rfl) ?_
      refine lv_iload hx hb d_D_readValue_17 (lv_at hl 4 rfl) ?_
      refine lv_icmp_ge (tgt := 25) hx hb d_D_readValue_19 (by decide) (fun c_19 => ?_) (fun c_19 => ?_)
      · have c_19i := c_19
        replace c_19 : b ≤ k := (nI_leI (a := b) (b := k) (by omega) (by omega)).mp c_19
        refine lv_iload_n hx hb d_D_readValue_25 rfl (lv_at hl 2 rfl) ?_
        refine lv_if_ne (tgt := 34) hx hb d_D_readValue_26 (by decide) (fun c_26 => ?_) (fun c_26 => ?_)
        · have c_26i := c_26
          replace c_26 : ¬ stk.length = 0 := fun zz9 => c_26 ((nI_eq (a := stk.length) (b := 0) (by omega) (by omega)).mpr zz9)
          refine lv_iload_n hx hb d_D_readValue_34 rfl (lv_at hl 3 rfl) ?_
          rw [show o3 = nI (md_here stk ou k) from by rw [ho3]; unfold md_here; rw [if_neg c_26, if_neg c_26]]
          refine lv_istore (lv' := [(6, .int (nI (md_here stk ou k))), (0, .ref (ad 0)), (1, .ref (ad j0)), (2, .int (nI stk.length)), (3, .int o3), (4, .int (nI b)), (5, .int (nI k))]) hx hb d_D_readValue_35 hl (by decide) rfl (fun ls hl => ?_)
          refine lv_aload_n hx hb d_D_readValue_37 rfl (lv_at hl 2 rfl) ?_
          refine lv_iload hx hb d_D_readValue_38 (lv_at hl 6 rfl) ?_
          refine hp_goi hW (va_runV S (s_at l g z0 N ad F hN rs1 kn (opS stk) fz (nI lim) (nI s.2.1) (nI s.2.2) wh te nu en hS j0 hj0 k (by omega)) (cwV 1 hts (tb_V cd_R_at tq_59 tq_60 tq_61 tq_3) rfl rfl rfl hd_R_at (rk_ok (by omega) (by omega))) (hp_preV hK hW (by omega) rfl (hS.row hj0).obj rfl) rfl rfl hl.1 rfl (lv_room (Nat.le_of_ble_eq_true rfl)) d_D_readValue_40 ⟨Nat.zero_le _, Nat.zero_le _⟩) (fun r_3 F_4 H locs hw hW => ?_)
          obtain ⟨hvq, hFq⟩ := hw
          rw [hFq] at hW
          rw [hvq]
          rw [hxs]
          refine lv_bipush (v := 38) hx hb d_D_readValue_43 (by decide) ?_
          refine lv_icmp_ne (tgt := 99) hx hb d_D_readValue_45 (by decide) (fun c_45 => ?_) (fun c_45 => ?_)
          · have c_45i := c_45
            have h38 := c_45i
            refine lv_aload_n hx hb d_D_readValue_99 rfl (lv_at hl 1 rfl) ?_
            refine lv_aload_n hx hb d_D_readValue_100 rfl (lv_at hl 2 rfl) ?_
            refine lv_iload hx hb d_D_readValue_101 (lv_at hl 6 rfl) ?_
            refine hp_goi hW (va_runV S (s_at l g z0 N ad F hN rs1 kn (opS stk) fz (nI lim) (nI s.2.1) (nI s.2.2) wh te nu en hS j0 hj0 k (by omega)) (cwV 1 hts (tb_V cd_R_at tq_59 tq_60 tq_61 tq_3) rfl rfl rfl hd_R_at (rk_ok (by omega) (by omega))) (hp_preV hK hW (by omega) rfl (hS.row hj0).obj rfl) rfl rfl hl.1 rfl (lv_room (Nat.le_of_ble_eq_true rfl)) d_D_readValue_103 ⟨Nat.zero_le _, Nat.zero_le _⟩) (fun r_5 F_6 H locs hw hW => ?_)
            obtain ⟨hvq, hFq⟩ := hw
            rw [hFq] at hW
            rw [hvq]
            rw [hxs]
            refine lv_iload hx hb d_D_readValue_106 (lv_at hl 0 rfl) ?_
            refine hp_goi hW (va_runV S (c_takeByte l g z0 N ad F hN rs1 kn (opS stk) fz (nI lim) (nI s.2.1) (nI s.2.2) wh te nu en hS (md_at xs k) (nI (md_here stk ou k))) (cwV 2 hts (tb_V cd_D_takeByte tq_88 tq_89 tq_90 tq_27) rfl rfl rfl hd_D_takeByte (rk_ok (by omega) (by omega))) (hp_preV hK hW (by omega) rfl hS.1 rfl) rfl rfl hl.1 rfl (lv_room (Nat.le_of_ble_eq_true rfl)) d_D_readValue_108 ⟨Nat.zero_le _, Nat.zero_le _⟩) (fun r_7 F_8 H locs hw hW => ?_)
            obtain ⟨hv2, hS2, hf2⟩ := hw
            rw [h5] at hv2 hS2
            have hIT : (md_it (txS kn rs) lim (subd (txS kn rs) lim d stk) stk ou xs k s) = (((md_by s.1 (md_at xs k)).1, s.2), (md_by s.1 (md_at xs k)).2, (md_here stk ou k)) := if_neg h38
            replace hv2 : r_7 = nI (md_it (txS kn rs) lim (subd (txS kn rs) lim d stk) stk ou xs k s).2.1 := by rw [hIT]; exact hv2
            obtain ⟨rs2, wh2, te2, nu2, en2, hS2, h52, ho2⟩ : ∃ (rs2 : Nat → List Int32) (wh te nu en : Int32), vSt g ad F_8 rs2 kn (opS stk) (pf (md_it (txS kn rs) lim (subd (txS kn rs) lim d stk) stk ou xs k s).2.1 fz (nI (md_it (txS kn rs) lim (subd (txS kn rs) lim d stk) stk ou xs k s).2.2)) (nI lim) (nI (md_it (txS kn rs) lim (subd (txS kn rs) lim d stk) stk ou xs k s).1.2.1) (nI (md_it (txS kn rs) lim (subd (txS kn rs) lim d stk) stk ou xs k s).1.2.2) wh te nu en ∧ rs2 5 = (md_it (txS kn rs) lim (subd (txS kn rs) lim d stk) stk ou xs k s).1.1 ∧ ∀ j, j ≠ 5 → rs2 j = rs j := ⟨_, _, _, _, _, by rw [hIT]; exact hS2, by rw [hIT]; exact va_up_self _ _ _, fun j hj => (va_up_ne _ _ hj).trans (hoth j hj)⟩
            rw [hv2]
            refine lv_istore (lv' := [(7, .int (nI (md_it (txS kn rs) lim (subd (txS kn rs) lim d stk) stk ou xs k s).2.1)), (6, .int (nI (md_here stk ou k))), (0, .ref (ad 0)), (1, .ref (ad j0)), (2, .int (nI stk.length)), (3, .int o3), (4, .int (nI b)), (5, .int (nI k))]) hx hb d_D_readValue_111 hl (by decide) rfl (fun ls hl => ?_)
            have hok := ok_it (tx := (txS kn rs)) (lim := lim) (sub := (subd (txS kn rs) lim d stk)) (stk := stk) (ou := ou) (xs := xs) (i := k) (s := s) (fun k ys s h _ a b => ok_rv d (k :: stk) h ys s (by rw [List.length_cons]; omega) a b) (by omega) hme hdp
            have hok1 := hok.1
            refine lv_iload hx hb d_D_readValue_113 (lv_at hl 0 rfl) ?_
            refine lv_if_eq (tgt := 121) hx hb d_D_readValue_115 (by decide) (fun c_115 => ?_) (fun c_115 => ?_)
            · have c_115i := c_115
              replace c_115 : (md_it (txS kn rs) lim (subd (txS kn rs) lim d stk) stk ou xs k s).2.1 = 0 := (nI_eq (a := (md_it (txS kn rs) lim (subd (txS kn rs) lim d stk) stk ou xs k s).2.1) (b := 0) (by omega) (by omega)).mp c_115
              refine lv_iinc (v := (nI (k + 1))) (lv' := [(5, .int (nI (k + 1))), (7, .int (nI (md_it (txS kn rs) lim (subd (txS kn rs) lim d stk) stk ou xs k s).2.1)), (6, .int (nI (md_here stk ou k))), (0, .ref (ad 0)), (1, .ref (ad j0)), (2, .int (nI stk.length)), (3, .int o3), (4, .int (nI b))]) hx hb d_D_readValue_121 hl (k := 7) rfl ((nI_succ (k)).symm) (by decide) rfl (fun ls hl => ?_)
              refine lv_goto (tgt := 6) hx hb d_D_readValue_124 (by decide) ?_
              have ek : max k b = k := by omega
              have hnx : md_nx xs k = k + 1 := if_neg h38
              have enx : max (k + 1) (b) = md_nx xs k := by rw [hnx]; omega
              obtain ⟨n1, rfl⟩ : ∃ n1, n = n1 + 1 := ⟨n - 1, by omega⟩
              rw [ek] at hR
              have hR2 : R = md_lp (txS kn rs) lim (subd (txS kn rs) lim d stk) stk ou xs n1 (max (k + 1) (b)) (md_it (txS kn rs) lim (subd (txS kn rs) lim d stk) stk ou xs k s).1 := by rw [enx, hR]; exact md_lp_go (by omega) c_115
              rw [c_115, pf_0 rfl] at hS2
              exact ih (k + 1) (b) n1 (md_it (txS kn rs) lim (subd (txS kn rs) lim d stk) stk ou xs k s).1 F_8 rs2 _ _ _ _ (by omega) (by omega) (by omega) (by have := md_nx_ge xs k; rw [enx]; omega) hR2 ⟨hnd, hlt, hS2, h52, ho2, hok.2.1, hok.2.2, hlim⟩ (hfr.tr hf2) H locs ls hW (lv_sub hl [3, 4, 5, 6, 7, 0] rfl)
            · have c_115i := c_115
              replace c_115 : ¬ (md_it (txS kn rs) lim (subd (txS kn rs) lim d stk) stk ou xs k s).2.1 = 0 := fun zz9 => c_115 ((nI_eq (a := (md_it (txS kn rs) lim (subd (txS kn rs) lim d stk) stk ou xs k s).2.1) (b := 0) (by omega) (by omega)).mpr zz9)
              refine lv_iload hx hb d_D_readValue_118 (lv_at hl 0 rfl) ?_
              have ek : max k b = k := by omega
              obtain ⟨n1, rfl⟩ : ∃ n1, n = n1 + 1 := ⟨n - 1, by omega⟩
              rw [ek] at hR
              have hR1 : R = (md_it (txS kn rs) lim (subd (txS kn rs) lim d stk) stk ou xs k s) := by rw [hR]; exact md_lp_no (by omega) c_115
              exact hp_reti S hK hW hr hlk d_D_readValue_120 (⟨by rw [hR1], ⟨rs2, _, _, _, _, by rw [hR1]; exact hS2, by rw [hR1]; exact h52, ho2⟩, hfr.tr hf2⟩)
          · have c_45i := c_45
            have h38 := c_45i
            refine lv_aload_n hx hb d_D_readValue_48 rfl (lv_at hl 1 rfl) ?_
            refine hp_get S hK hW (0) (by omega) rfl hS.1 rfl in_kD 4 (by decide) (hts _ (List.mem_cons_of_mem _ tq_18)) rfl d_D_readValue_49 ?_
            refine lv_aload_n hx hb d_D_readValue_52 rfl (lv_at hl 2 rfl) ?_
            refine lv_iload hx hb d_D_readValue_53 (lv_at hl 6 rfl) ?_
            refine hp_gov hW (va_runV S (s_read l g z0 N ad F hN rs1 kn (opS stk) fz (nI lim) (nI s.2.1) (nI s.2.2) wh te nu en hS j0 hj0 k (by omega)) (cwV 2 hts (tb_V cd_F_read tq_62 tq_63 tq_64 tq_16) rfl rfl rfl hd_F_read (rk_ok (by omega) (by omega))) (hp_preV hK hW (by omega) rfl hS.2.2.2.2 rfl) rfl rfl hl.1 rfl (lv_room (Nat.le_of_ble_eq_true rfl)) d_D_readValue_55 ⟨Nat.zero_le _, Nat.zero_le _⟩) (fun F_10 H locs hw hW => ?_)
            obtain ⟨nu1, hS1, hnu1, hf1⟩ := hw
            rw [hxs] at hS1 hnu1
            have hre := md_ref_end xs k
            refine lv_aload_n hx hb d_D_readValue_58 rfl (lv_at hl 1 rfl) ?_
            refine hp_get S hK hW (0) (by omega) rfl hS1.1 rfl in_kD 4 (by decide) (hts _ (List.mem_cons_of_mem _ tq_18)) rfl d_D_readValue_59 ?_
            refine hp_getN S hK hW (86) (by omega) rfl hS1.2.2.2.2 rfl in_kF 3 (by decide) (List.mem_of_getElem? (i := 6) rfl) rfl d_D_readValue_62 ?_
            refine lv_istore (lv' := [(4, .int (nI (md_ref xs k).2.2.2)), (6, .int (nI (md_here stk ou k))), (0, .ref (ad 0)), (1, .ref (ad j0)), (2, .int (nI stk.length)), (3, .int o3), (5, .int (nI k))]) hx hb d_D_readValue_65 hl (by decide) rfl (fun ls hl => ?_)
            refine lv_aload_n hx hb d_D_readValue_67 rfl (lv_at hl 2 rfl) ?_
            refine hp_get S hK hW (0) (by omega) rfl hS1.1 rfl in_kD 4 (by decide) (hts _ (List.mem_cons_of_mem _ tq_18)) rfl d_D_readValue_68 ?_
            refine hp_getN S hK hW (86) (by omega) rfl hS1.2.2.2.2 rfl in_kF 0 (by decide) (List.mem_of_getElem? (i := 3) rfl) rfl d_D_readValue_71 ?_
            refine lv_if_eq (tgt := 87) hx hb d_D_readValue_74 (by decide) (fun c_74 => ?_) (fun c_74 => ?_)
            · have c_74i := c_74
              refine lv_aload_n hx hb d_D_readValue_87 rfl (lv_at hl 2 rfl) ?_
              refine lv_aload_n hx hb d_D_readValue_88 rfl (lv_at hl 3 rfl) ?_
              refine lv_iload_n hx hb d_D_readValue_89 rfl (lv_at hl 4 rfl) ?_
              refine lv_iload_n hx hb d_D_readValue_90 rfl (lv_at hl 5 rfl) ?_
              refine hp_goi hW (va_runV S (c_failBroken l g z0 N ad F_10 hN rs1 kn (opS stk) fz (nI lim) (nI s.2.1) (nI s.2.2) (b2 (md_ref xs k).1) (b2 (md_ref xs k).2.1) nu1 (nI (md_ref xs k).2.2.2) hS1 j0 hj0 stk.length (md_ref xs k).2.2.2 (by omega) (by omega) rfl (by rw [hxs]; omega) o3) (cwV 3 hts (tb_V cd_D_failBroken tq_85 tq_86 tq_87 tq_27) rfl rfl rfl hd_D_failBroken (rk_ok (by omega) (by omega))) (hp_preV hK hW (by omega) rfl hS1.1 rfl) rfl rfl hl.1 rfl (lv_room (Nat.le_of_ble_eq_true rfl)) d_D_readValue_91 ⟨Nat.zero_le _, Nat.zero_le _⟩) (fun r_11 F_12 H locs hw hW => ?_)
              obtain ⟨hv2, hS2, hf2⟩ := hw
              rw [hxs] at hv2
              have hIT : (md_it (txS kn rs) lim (subd (txS kn rs) lim d stk) stk ou xs k s) = (s, if stk.length = 0 ∨ (md_ref xs k).2.2.2 < xs.length then 1 else 7, md_here stk ou (md_ref xs k).2.2.2) := by unfold md_it; rw [if_pos h38, if_neg (by rw [b2_0.mp c_74i]; exact fun z => by cases z)]
              replace hv2 : r_11 = nI (md_it (txS kn rs) lim (subd (txS kn rs) lim d stk) stk ou xs k s).2.1 := by rw [hIT]; exact hv2
              have hne : ¬ (md_it (txS kn rs) lim (subd (txS kn rs) lim d stk) stk ou xs k s).2.1 = 0 := by rw [hIT]; show ¬ (if _ then 1 else 7) = 0; split <;> omega
              obtain ⟨rs2, wh2, te2, nu2, en2, hS2, h52, ho2⟩ : ∃ (rs2 : Nat → List Int32) (wh te nu en : Int32), vSt g ad F_12 rs2 kn (opS stk) (pf (md_it (txS kn rs) lim (subd (txS kn rs) lim d stk) stk ou xs k s).2.1 fz (nI (md_it (txS kn rs) lim (subd (txS kn rs) lim d stk) stk ou xs k s).2.2)) (nI lim) (nI (md_it (txS kn rs) lim (subd (txS kn rs) lim d stk) stk ou xs k s).1.2.1) (nI (md_it (txS kn rs) lim (subd (txS kn rs) lim d stk) stk ou xs k s).1.2.2) wh te nu en ∧ rs2 5 = (md_it (txS kn rs) lim (subd (txS kn rs) lim d stk) stk ou xs k s).1.1 ∧ ∀ j, j ≠ 5 → rs2 j = rs j := ⟨rs1, _, _, _, _, by rw [pf_n hne, hIT]; show vSt g ad _ rs1 kn (opS stk) (nI (md_here stk ou _)) _ _ _ _ _ _ _; rw [show nI (md_here stk ou (md_ref xs k).2.2.2) = (if stk.length = 0 then nI (md_ref xs k).2.2.2 else o3) by rw [ho3]; unfold md_here; split <;> rfl]; exact hS2, by rw [hIT]; exact h5, hoth⟩
              rw [hv2]
              refine lv_istore (lv' := [(7, .int (nI (md_it (txS kn rs) lim (subd (txS kn rs) lim d stk) stk ou xs k s).2.1)), (4, .int (nI (md_ref xs k).2.2.2)), (6, .int (nI (md_here stk ou k))), (0, .ref (ad 0)), (1, .ref (ad j0)), (2, .int (nI stk.length)), (3, .int o3), (5, .int (nI k))]) hx hb d_D_readValue_94 hl (by decide) rfl (fun ls hl => ?_)
              refine lv_goto (tgt := 113) hx hb d_D_readValue_96 (by decide) ?_
              have hok := ok_it (tx := (txS kn rs)) (lim := lim) (sub := (subd (txS kn rs) lim d stk)) (stk := stk) (ou := ou) (xs := xs) (i := k) (s := s) (fun k ys s h _ a b => ok_rv d (k :: stk) h ys s (by rw [List.length_cons]; omega) a b) (by omega) hme hdp
              have hok1 := hok.1
              refine lv_iload hx hb d_D_readValue_113 (lv_at hl 0 rfl) ?_
              refine lv_if_eq (tgt := 121) hx hb d_D_readValue_115 (by decide) (fun c_115 => ?_) (fun c_115 => ?_)
              · have c_115i := c_115
                replace c_115 : (md_it (txS kn rs) lim (subd (txS kn rs) lim d stk) stk ou xs k s).2.1 = 0 := (nI_eq (a := (md_it (txS kn rs) lim (subd (txS kn rs) lim d stk) stk ou xs k s).2.1) (b := 0) (by omega) (by omega)).mp c_115
                refine lv_iinc (v := (nI (k + 1))) (lv' := [(5, .int (nI (k + 1))), (7, .int (nI (md_it (txS kn rs) lim (subd (txS kn rs) lim d stk) stk ou xs k s).2.1)), (4, .int (nI (md_ref xs k).2.2.2)), (6, .int (nI (md_here stk ou k))), (0, .ref (ad 0)), (1, .ref (ad j0)), (2, .int (nI stk.length)), (3, .int o3)]) hx hb d_D_readValue_121 hl (k := 7) rfl ((nI_succ (k)).symm) (by decide) rfl (fun ls hl => ?_)
                refine lv_goto (tgt := 6) hx hb d_D_readValue_124 (by decide) ?_
                have ek : max k b = k := by omega
                have hnx : md_nx xs k = (md_ref xs k).2.2.2 := if_pos h38
                have enx : max (k + 1) ((md_ref xs k).2.2.2) = md_nx xs k := by rw [hnx]; omega
                obtain ⟨n1, rfl⟩ : ∃ n1, n = n1 + 1 := ⟨n - 1, by omega⟩
                rw [ek] at hR
                have hR2 : R = md_lp (txS kn rs) lim (subd (txS kn rs) lim d stk) stk ou xs n1 (max (k + 1) ((md_ref xs k).2.2.2)) (md_it (txS kn rs) lim (subd (txS kn rs) lim d stk) stk ou xs k s).1 := by rw [enx, hR]; exact md_lp_go (by omega) c_115
                rw [c_115, pf_0 rfl] at hS2
                exact ih (k + 1) ((md_ref xs k).2.2.2) n1 (md_it (txS kn rs) lim (subd (txS kn rs) lim d stk) stk ou xs k s).1 F_12 rs2 _ _ _ _ (by omega) (by omega) (by omega) (by have := md_nx_ge xs k; rw [enx]; omega) hR2 ⟨hnd, hlt, hS2, h52, ho2, hok.2.1, hok.2.2, hlim⟩ (hfr.tr (hf1.tr hf2)) H locs ls hW (lv_sub hl [4, 5, 6, 7, 2, 0] rfl)
              · have c_115i := c_115
                replace c_115 : ¬ (md_it (txS kn rs) lim (subd (txS kn rs) lim d stk) stk ou xs k s).2.1 = 0 := fun zz9 => c_115 ((nI_eq (a := (md_it (txS kn rs) lim (subd (txS kn rs) lim d stk) stk ou xs k s).2.1) (b := 0) (by omega) (by omega)).mpr zz9)
                refine lv_iload hx hb d_D_readValue_118 (lv_at hl 0 rfl) ?_
                have ek : max k b = k := by omega
                obtain ⟨n1, rfl⟩ : ∃ n1, n = n1 + 1 := ⟨n - 1, by omega⟩
                rw [ek] at hR
                have hR1 : R = (md_it (txS kn rs) lim (subd (txS kn rs) lim d stk) stk ou xs k s) := by rw [hR]; exact md_lp_no (by omega) c_115
                exact hp_reti S hK hW hr hlk d_D_readValue_120 (⟨by rw [hR1], ⟨rs2, _, _, _, _, by rw [hR1]; exact hS2, by rw [hR1]; exact h52, ho2⟩, hfr.tr (hf1.tr hf2)⟩)
            · have c_74i := c_74
              refine lv_aload_n hx hb d_D_readValue_77 rfl (lv_at hl 2 rfl) ?_
              refine lv_iload_n hx hb d_D_readValue_78 rfl (lv_at hl 4 rfl) ?_
              refine lv_iload hx hb d_D_readValue_79 (lv_at hl 1 rfl) ?_
              have hI1 : RI g ad kn rs lim stk s F_10 rs1 fz (b2 (md_ref xs k).1) (b2 (md_ref xs k).2.1) nu1 (nI (md_ref xs k).2.2.2) := ⟨hnd, hlt, hS1, h5, hoth, hme, hdp, hlim⟩
              have hwt := b2_n0.mp c_74i
              refine hp_goi hW (va_runV S (hTR stk (md_here stk ou k) s F_10 rs1 fz _ _ nu1 _ (md_ref xs k).2.1 (by omega) (here_lt hou (by omega)) rfl (fun z => by have h9 := md_ref_ent hwt z; obtain ⟨kk, hkk, ekk⟩ := nu_k h9.1.1 h9.1.2; exact ⟨kk, hkk, by rw [hnu1 hwt, h9.2.1, ekk]⟩) hI1) (cwV 2 hts (tb_V cd_D_takeReference tq_82 tq_83 tq_84 tq_27) rfl rfl rfl hd_D_takeReference (rk_ok (by omega) (by omega))) (hp_preV hK hW (by omega) rfl hS1.1 rfl) rfl rfl hl.1 rfl (lv_room (Nat.le_of_ble_eq_true rfl)) d_D_readValue_81 ⟨Nat.zero_le _, Nat.zero_le _⟩) (fun r_13 F_14 H locs hw hW => ?_)
              have hIT : (md_it (txS kn rs) lim (subd (txS kn rs) lim d stk) stk ou xs k s) = md_wr (txS kn rs) lim (subd (txS kn rs) lim d stk) stk (md_ref xs k).2.1 nu1 s (md_here stk ou k) := by unfold md_it; rw [if_pos h38, if_pos hwt, hnu1 hwt]
              rw [← hIT] at hw
              obtain ⟨hv2, ⟨rs2, wh2, te2, nu2, en2, hS2, h52, ho2⟩, hf2⟩ := hw
              rw [hv2]
              refine lv_goto (tgt := 94) hx hb d_D_readValue_84 (by decide) ?_
              refine lv_istore (lv' := [(7, .int (nI (md_it (txS kn rs) lim (subd (txS kn rs) lim d stk) stk ou xs k s).2.1)), (4, .int (nI (md_ref xs k).2.2.2)), (6, .int (nI (md_here stk ou k))), (0, .ref (ad 0)), (1, .ref (ad j0)), (2, .int (nI stk.length)), (3, .int o3), (5, .int (nI k))]) hx hb d_D_readValue_94 hl (by decide) rfl (fun ls hl => ?_)
              refine lv_goto (tgt := 113) hx hb d_D_readValue_96 (by decide) ?_
              have hok := ok_it (tx := (txS kn rs)) (lim := lim) (sub := (subd (txS kn rs) lim d stk)) (stk := stk) (ou := ou) (xs := xs) (i := k) (s := s) (fun k ys s h _ a b => ok_rv d (k :: stk) h ys s (by rw [List.length_cons]; omega) a b) (by omega) hme hdp
              have hok1 := hok.1
              refine lv_iload hx hb d_D_readValue_113 (lv_at hl 0 rfl) ?_
              refine lv_if_eq (tgt := 121) hx hb d_D_readValue_115 (by decide) (fun c_115 => ?_) (fun c_115 => ?_)
              · have c_115i := c_115
                replace c_115 : (md_it (txS kn rs) lim (subd (txS kn rs) lim d stk) stk ou xs k s).2.1 = 0 := (nI_eq (a := (md_it (txS kn rs) lim (subd (txS kn rs) lim d stk) stk ou xs k s).2.1) (b := 0) (by omega) (by omega)).mp c_115
                refine lv_iinc (v := (nI (k + 1))) (lv' := [(5, .int (nI (k + 1))), (7, .int (nI (md_it (txS kn rs) lim (subd (txS kn rs) lim d stk) stk ou xs k s).2.1)), (4, .int (nI (md_ref xs k).2.2.2)), (6, .int (nI (md_here stk ou k))), (0, .ref (ad 0)), (1, .ref (ad j0)), (2, .int (nI stk.length)), (3, .int o3)]) hx hb d_D_readValue_121 hl (k := 7) rfl ((nI_succ (k)).symm) (by decide) rfl (fun ls hl => ?_)
                refine lv_goto (tgt := 6) hx hb d_D_readValue_124 (by decide) ?_
                have ek : max k b = k := by omega
                have hnx : md_nx xs k = (md_ref xs k).2.2.2 := if_pos h38
                have enx : max (k + 1) ((md_ref xs k).2.2.2) = md_nx xs k := by rw [hnx]; omega
                obtain ⟨n1, rfl⟩ : ∃ n1, n = n1 + 1 := ⟨n - 1, by omega⟩
                rw [ek] at hR
                have hR2 : R = md_lp (txS kn rs) lim (subd (txS kn rs) lim d stk) stk ou xs n1 (max (k + 1) ((md_ref xs k).2.2.2)) (md_it (txS kn rs) lim (subd (txS kn rs) lim d stk) stk ou xs k s).1 := by rw [enx, hR]; exact md_lp_go (by omega) c_115
                rw [c_115, pf_0 rfl] at hS2
                exact ih (k + 1) ((md_ref xs k).2.2.2) n1 (md_it (txS kn rs) lim (subd (txS kn rs) lim d stk) stk ou xs k s).1 F_14 rs2 _ _ _ _ (by omega) (by omega) (by omega) (by have := md_nx_ge xs k; rw [enx]; omega) hR2 ⟨hnd, hlt, hS2, h52, ho2, hok.2.1, hok.2.2, hlim⟩ (hfr.tr (hf1.tr hf2)) H locs ls hW (lv_sub hl [4, 5, 6, 7, 2, 0] rfl)
              · have c_115i := c_115
                replace c_115 : ¬ (md_it (txS kn rs) lim (subd (txS kn rs) lim d stk) stk ou xs k s).2.1 = 0 := fun zz9 => c_115 ((nI_eq (a := (md_it (txS kn rs) lim (subd (txS kn rs) lim d stk) stk ou xs k s).2.1) (b := 0) (by omega) (by omega)).mpr zz9)
                refine lv_iload hx hb d_D_readValue_118 (lv_at hl 0 rfl) ?_
                have ek : max k b = k := by omega
                obtain ⟨n1, rfl⟩ : ∃ n1, n = n1 + 1 := ⟨n - 1, by omega⟩
                rw [ek] at hR
                have hR1 : R = (md_it (txS kn rs) lim (subd (txS kn rs) lim d stk) stk ou xs k s) := by rw [hR]; exact md_lp_no (by omega) c_115
                exact hp_reti S hK hW hr hlk d_D_readValue_120 (⟨by rw [hR1], ⟨rs2, _, _, _, _, by rw [hR1]; exact hS2, by rw [hR1]; exact h52, ho2⟩, hfr.tr (hf1.tr hf2)⟩)
        · have c_26i := c_26
          replace c_26 : stk.length = 0 := (nI_eq (a := stk.length) (b := 0) (by omega) (by omega)).mp c_26
          refine lv_iload hx hb d_D_readValue_29 (lv_at hl 5 rfl) ?_
          refine lv_goto (tgt := 35) hx hb d_D_readValue_31 (by decide) ?_
          rw [show (nI k) = nI (md_here stk ou k) from by unfold md_here; rw [if_pos c_26]]
          refine lv_istore (lv' := [(6, .int (nI (md_here stk ou k))), (0, .ref (ad 0)), (1, .ref (ad j0)), (2, .int (nI stk.length)), (3, .int o3), (4, .int (nI b)), (5, .int (nI k))]) hx hb d_D_readValue_35 hl (by decide) rfl (fun ls hl => ?_)
          refine lv_aload_n hx hb d_D_readValue_37 rfl (lv_at hl 2 rfl) ?_
          refine lv_iload hx hb d_D_readValue_38 (lv_at hl 6 rfl) ?_
          refine hp_goi hW (va_runV S (s_at l g z0 N ad F hN rs1 kn (opS stk) fz (nI lim) (nI s.2.1) (nI s.2.2) wh te nu en hS j0 hj0 k (by omega)) (cwV 1 hts (tb_V cd_R_at tq_59 tq_60 tq_61 tq_3) rfl rfl rfl hd_R_at (rk_ok (by omega) (by omega))) (hp_preV hK hW (by omega) rfl (hS.row hj0).obj rfl) rfl rfl hl.1 rfl (lv_room (Nat.le_of_ble_eq_true rfl)) d_D_readValue_40 ⟨Nat.zero_le _, Nat.zero_le _⟩) (fun r_15 F_16 H locs hw hW => ?_)
          obtain ⟨hvq, hFq⟩ := hw
          rw [hFq] at hW
          rw [hvq]
          rw [hxs]
          refine lv_bipush (v := 38) hx hb d_D_readValue_43 (by decide) ?_
          refine lv_icmp_ne (tgt := 99) hx hb d_D_readValue_45 (by decide) (fun c_45 => ?_) (fun c_45 => ?_)
          · have c_45i := c_45
            have h38 := c_45i
            refine lv_aload_n hx hb d_D_readValue_99 rfl (lv_at hl 1 rfl) ?_
            refine lv_aload_n hx hb d_D_readValue_100 rfl (lv_at hl 2 rfl) ?_
            refine lv_iload hx hb d_D_readValue_101 (lv_at hl 6 rfl) ?_
            refine hp_goi hW (va_runV S (s_at l g z0 N ad F hN rs1 kn (opS stk) fz (nI lim) (nI s.2.1) (nI s.2.2) wh te nu en hS j0 hj0 k (by omega)) (cwV 1 hts (tb_V cd_R_at tq_59 tq_60 tq_61 tq_3) rfl rfl rfl hd_R_at (rk_ok (by omega) (by omega))) (hp_preV hK hW (by omega) rfl (hS.row hj0).obj rfl) rfl rfl hl.1 rfl (lv_room (Nat.le_of_ble_eq_true rfl)) d_D_readValue_103 ⟨Nat.zero_le _, Nat.zero_le _⟩) (fun r_17 F_18 H locs hw hW => ?_)
            obtain ⟨hvq, hFq⟩ := hw
            rw [hFq] at hW
            rw [hvq]
            rw [hxs]
            refine lv_iload hx hb d_D_readValue_106 (lv_at hl 0 rfl) ?_
            refine hp_goi hW (va_runV S (c_takeByte l g z0 N ad F hN rs1 kn (opS stk) fz (nI lim) (nI s.2.1) (nI s.2.2) wh te nu en hS (md_at xs k) (nI (md_here stk ou k))) (cwV 2 hts (tb_V cd_D_takeByte tq_88 tq_89 tq_90 tq_27) rfl rfl rfl hd_D_takeByte (rk_ok (by omega) (by omega))) (hp_preV hK hW (by omega) rfl hS.1 rfl) rfl rfl hl.1 rfl (lv_room (Nat.le_of_ble_eq_true rfl)) d_D_readValue_108 ⟨Nat.zero_le _, Nat.zero_le _⟩) (fun r_19 F_20 H locs hw hW => ?_)
            obtain ⟨hv2, hS2, hf2⟩ := hw
            rw [h5] at hv2 hS2
            have hIT : (md_it (txS kn rs) lim (subd (txS kn rs) lim d stk) stk ou xs k s) = (((md_by s.1 (md_at xs k)).1, s.2), (md_by s.1 (md_at xs k)).2, (md_here stk ou k)) := if_neg h38
            replace hv2 : r_19 = nI (md_it (txS kn rs) lim (subd (txS kn rs) lim d stk) stk ou xs k s).2.1 := by rw [hIT]; exact hv2
            obtain ⟨rs2, wh2, te2, nu2, en2, hS2, h52, ho2⟩ : ∃ (rs2 : Nat → List Int32) (wh te nu en : Int32), vSt g ad F_20 rs2 kn (opS stk) (pf (md_it (txS kn rs) lim (subd (txS kn rs) lim d stk) stk ou xs k s).2.1 fz (nI (md_it (txS kn rs) lim (subd (txS kn rs) lim d stk) stk ou xs k s).2.2)) (nI lim) (nI (md_it (txS kn rs) lim (subd (txS kn rs) lim d stk) stk ou xs k s).1.2.1) (nI (md_it (txS kn rs) lim (subd (txS kn rs) lim d stk) stk ou xs k s).1.2.2) wh te nu en ∧ rs2 5 = (md_it (txS kn rs) lim (subd (txS kn rs) lim d stk) stk ou xs k s).1.1 ∧ ∀ j, j ≠ 5 → rs2 j = rs j := ⟨_, _, _, _, _, by rw [hIT]; exact hS2, by rw [hIT]; exact va_up_self _ _ _, fun j hj => (va_up_ne _ _ hj).trans (hoth j hj)⟩
            rw [hv2]
            refine lv_istore (lv' := [(7, .int (nI (md_it (txS kn rs) lim (subd (txS kn rs) lim d stk) stk ou xs k s).2.1)), (6, .int (nI (md_here stk ou k))), (0, .ref (ad 0)), (1, .ref (ad j0)), (2, .int (nI stk.length)), (3, .int o3), (4, .int (nI b)), (5, .int (nI k))]) hx hb d_D_readValue_111 hl (by decide) rfl (fun ls hl => ?_)
            have hok := ok_it (tx := (txS kn rs)) (lim := lim) (sub := (subd (txS kn rs) lim d stk)) (stk := stk) (ou := ou) (xs := xs) (i := k) (s := s) (fun k ys s h _ a b => ok_rv d (k :: stk) h ys s (by rw [List.length_cons]; omega) a b) (by omega) hme hdp
            have hok1 := hok.1
            refine lv_iload hx hb d_D_readValue_113 (lv_at hl 0 rfl) ?_
            refine lv_if_eq (tgt := 121) hx hb d_D_readValue_115 (by decide) (fun c_115 => ?_) (fun c_115 => ?_)
            · have c_115i := c_115
              replace c_115 : (md_it (txS kn rs) lim (subd (txS kn rs) lim d stk) stk ou xs k s).2.1 = 0 := (nI_eq (a := (md_it (txS kn rs) lim (subd (txS kn rs) lim d stk) stk ou xs k s).2.1) (b := 0) (by omega) (by omega)).mp c_115
              refine lv_iinc (v := (nI (k + 1))) (lv' := [(5, .int (nI (k + 1))), (7, .int (nI (md_it (txS kn rs) lim (subd (txS kn rs) lim d stk) stk ou xs k s).2.1)), (6, .int (nI (md_here stk ou k))), (0, .ref (ad 0)), (1, .ref (ad j0)), (2, .int (nI stk.length)), (3, .int o3), (4, .int (nI b))]) hx hb d_D_readValue_121 hl (k := 7) rfl ((nI_succ (k)).symm) (by decide) rfl (fun ls hl => ?_)
              refine lv_goto (tgt := 6) hx hb d_D_readValue_124 (by decide) ?_
              have ek : max k b = k := by omega
              have hnx : md_nx xs k = k + 1 := if_neg h38
              have enx : max (k + 1) (b) = md_nx xs k := by rw [hnx]; omega
              obtain ⟨n1, rfl⟩ : ∃ n1, n = n1 + 1 := ⟨n - 1, by omega⟩
              rw [ek] at hR
              have hR2 : R = md_lp (txS kn rs) lim (subd (txS kn rs) lim d stk) stk ou xs n1 (max (k + 1) (b)) (md_it (txS kn rs) lim (subd (txS kn rs) lim d stk) stk ou xs k s).1 := by rw [enx, hR]; exact md_lp_go (by omega) c_115
              rw [c_115, pf_0 rfl] at hS2
              exact ih (k + 1) (b) n1 (md_it (txS kn rs) lim (subd (txS kn rs) lim d stk) stk ou xs k s).1 F_20 rs2 _ _ _ _ (by omega) (by omega) (by omega) (by have := md_nx_ge xs k; rw [enx]; omega) hR2 ⟨hnd, hlt, hS2, h52, ho2, hok.2.1, hok.2.2, hlim⟩ (hfr.tr hf2) H locs ls hW (lv_sub hl [3, 4, 5, 6, 7, 0] rfl)
            · have c_115i := c_115
              replace c_115 : ¬ (md_it (txS kn rs) lim (subd (txS kn rs) lim d stk) stk ou xs k s).2.1 = 0 := fun zz9 => c_115 ((nI_eq (a := (md_it (txS kn rs) lim (subd (txS kn rs) lim d stk) stk ou xs k s).2.1) (b := 0) (by omega) (by omega)).mpr zz9)
              refine lv_iload hx hb d_D_readValue_118 (lv_at hl 0 rfl) ?_
              have ek : max k b = k := by omega
              obtain ⟨n1, rfl⟩ : ∃ n1, n = n1 + 1 := ⟨n - 1, by omega⟩
              rw [ek] at hR
              have hR1 : R = (md_it (txS kn rs) lim (subd (txS kn rs) lim d stk) stk ou xs k s) := by rw [hR]; exact md_lp_no (by omega) c_115
              exact hp_reti S hK hW hr hlk d_D_readValue_120 (⟨by rw [hR1], ⟨rs2, _, _, _, _, by rw [hR1]; exact hS2, by rw [hR1]; exact h52, ho2⟩, hfr.tr hf2⟩)
          · have c_45i := c_45
            have h38 := c_45i
            refine lv_aload_n hx hb d_D_readValue_48 rfl (lv_at hl 1 rfl) ?_
            refine hp_get S hK hW (0) (by omega) rfl hS.1 rfl in_kD 4 (by decide) (hts _ (List.mem_cons_of_mem _ tq_18)) rfl d_D_readValue_49 ?_
            refine lv_aload_n hx hb d_D_readValue_52 rfl (lv_at hl 2 rfl) ?_
            refine lv_iload hx hb d_D_readValue_53 (lv_at hl 6 rfl) ?_
            refine hp_gov hW (va_runV S (s_read l g z0 N ad F hN rs1 kn (opS stk) fz (nI lim) (nI s.2.1) (nI s.2.2) wh te nu en hS j0 hj0 k (by omega)) (cwV 2 hts (tb_V cd_F_read tq_62 tq_63 tq_64 tq_16) rfl rfl rfl hd_F_read (rk_ok (by omega) (by omega))) (hp_preV hK hW (by omega) rfl hS.2.2.2.2 rfl) rfl rfl hl.1 rfl (lv_room (Nat.le_of_ble_eq_true rfl)) d_D_readValue_55 ⟨Nat.zero_le _, Nat.zero_le _⟩) (fun F_22 H locs hw hW => ?_)
            obtain ⟨nu1, hS1, hnu1, hf1⟩ := hw
            rw [hxs] at hS1 hnu1
            have hre := md_ref_end xs k
            refine lv_aload_n hx hb d_D_readValue_58 rfl (lv_at hl 1 rfl) ?_
            refine hp_get S hK hW (0) (by omega) rfl hS1.1 rfl in_kD 4 (by decide) (hts _ (List.mem_cons_of_mem _ tq_18)) rfl d_D_readValue_59 ?_
            refine hp_getN S hK hW (86) (by omega) rfl hS1.2.2.2.2 rfl in_kF 3 (by decide) (List.mem_of_getElem? (i := 6) rfl) rfl d_D_readValue_62 ?_
            refine lv_istore (lv' := [(4, .int (nI (md_ref xs k).2.2.2)), (6, .int (nI (md_here stk ou k))), (0, .ref (ad 0)), (1, .ref (ad j0)), (2, .int (nI stk.length)), (3, .int o3), (5, .int (nI k))]) hx hb d_D_readValue_65 hl (by decide) rfl (fun ls hl => ?_)
            refine lv_aload_n hx hb d_D_readValue_67 rfl (lv_at hl 2 rfl) ?_
            refine hp_get S hK hW (0) (by omega) rfl hS1.1 rfl in_kD 4 (by decide) (hts _ (List.mem_cons_of_mem _ tq_18)) rfl d_D_readValue_68 ?_
            refine hp_getN S hK hW (86) (by omega) rfl hS1.2.2.2.2 rfl in_kF 0 (by decide) (List.mem_of_getElem? (i := 3) rfl) rfl d_D_readValue_71 ?_
            refine lv_if_eq (tgt := 87) hx hb d_D_readValue_74 (by decide) (fun c_74 => ?_) (fun c_74 => ?_)
            · have c_74i := c_74
              refine lv_aload_n hx hb d_D_readValue_87 rfl (lv_at hl 2 rfl) ?_
              refine lv_aload_n hx hb d_D_readValue_88 rfl (lv_at hl 3 rfl) ?_
              refine lv_iload_n hx hb d_D_readValue_89 rfl (lv_at hl 4 rfl) ?_
              refine lv_iload_n hx hb d_D_readValue_90 rfl (lv_at hl 5 rfl) ?_
              refine hp_goi hW (va_runV S (c_failBroken l g z0 N ad F_22 hN rs1 kn (opS stk) fz (nI lim) (nI s.2.1) (nI s.2.2) (b2 (md_ref xs k).1) (b2 (md_ref xs k).2.1) nu1 (nI (md_ref xs k).2.2.2) hS1 j0 hj0 stk.length (md_ref xs k).2.2.2 (by omega) (by omega) rfl (by rw [hxs]; omega) o3) (cwV 3 hts (tb_V cd_D_failBroken tq_85 tq_86 tq_87 tq_27) rfl rfl rfl hd_D_failBroken (rk_ok (by omega) (by omega))) (hp_preV hK hW (by omega) rfl hS1.1 rfl) rfl rfl hl.1 rfl (lv_room (Nat.le_of_ble_eq_true rfl)) d_D_readValue_91 ⟨Nat.zero_le _, Nat.zero_le _⟩) (fun r_23 F_24 H locs hw hW => ?_)
              obtain ⟨hv2, hS2, hf2⟩ := hw
              rw [hxs] at hv2
              have hIT : (md_it (txS kn rs) lim (subd (txS kn rs) lim d stk) stk ou xs k s) = (s, if stk.length = 0 ∨ (md_ref xs k).2.2.2 < xs.length then 1 else 7, md_here stk ou (md_ref xs k).2.2.2) := by unfold md_it; rw [if_pos h38, if_neg (by rw [b2_0.mp c_74i]; exact fun z => by cases z)]
              replace hv2 : r_23 = nI (md_it (txS kn rs) lim (subd (txS kn rs) lim d stk) stk ou xs k s).2.1 := by rw [hIT]; exact hv2
              have hne : ¬ (md_it (txS kn rs) lim (subd (txS kn rs) lim d stk) stk ou xs k s).2.1 = 0 := by rw [hIT]; show ¬ (if _ then 1 else 7) = 0; split <;> omega
              obtain ⟨rs2, wh2, te2, nu2, en2, hS2, h52, ho2⟩ : ∃ (rs2 : Nat → List Int32) (wh te nu en : Int32), vSt g ad F_24 rs2 kn (opS stk) (pf (md_it (txS kn rs) lim (subd (txS kn rs) lim d stk) stk ou xs k s).2.1 fz (nI (md_it (txS kn rs) lim (subd (txS kn rs) lim d stk) stk ou xs k s).2.2)) (nI lim) (nI (md_it (txS kn rs) lim (subd (txS kn rs) lim d stk) stk ou xs k s).1.2.1) (nI (md_it (txS kn rs) lim (subd (txS kn rs) lim d stk) stk ou xs k s).1.2.2) wh te nu en ∧ rs2 5 = (md_it (txS kn rs) lim (subd (txS kn rs) lim d stk) stk ou xs k s).1.1 ∧ ∀ j, j ≠ 5 → rs2 j = rs j := ⟨rs1, _, _, _, _, by rw [pf_n hne, hIT]; show vSt g ad _ rs1 kn (opS stk) (nI (md_here stk ou _)) _ _ _ _ _ _ _; rw [show nI (md_here stk ou (md_ref xs k).2.2.2) = (if stk.length = 0 then nI (md_ref xs k).2.2.2 else o3) by rw [ho3]; unfold md_here; split <;> rfl]; exact hS2, by rw [hIT]; exact h5, hoth⟩
              rw [hv2]
              refine lv_istore (lv' := [(7, .int (nI (md_it (txS kn rs) lim (subd (txS kn rs) lim d stk) stk ou xs k s).2.1)), (4, .int (nI (md_ref xs k).2.2.2)), (6, .int (nI (md_here stk ou k))), (0, .ref (ad 0)), (1, .ref (ad j0)), (2, .int (nI stk.length)), (3, .int o3), (5, .int (nI k))]) hx hb d_D_readValue_94 hl (by decide) rfl (fun ls hl => ?_)
              refine lv_goto (tgt := 113) hx hb d_D_readValue_96 (by decide) ?_
              have hok := ok_it (tx := (txS kn rs)) (lim := lim) (sub := (subd (txS kn rs) lim d stk)) (stk := stk) (ou := ou) (xs := xs) (i := k) (s := s) (fun k ys s h _ a b => ok_rv d (k :: stk) h ys s (by rw [List.length_cons]; omega) a b) (by omega) hme hdp
              have hok1 := hok.1
              refine lv_iload hx hb d_D_readValue_113 (lv_at hl 0 rfl) ?_
              refine lv_if_eq (tgt := 121) hx hb d_D_readValue_115 (by decide) (fun c_115 => ?_) (fun c_115 => ?_)
              · have c_115i := c_115
                replace c_115 : (md_it (txS kn rs) lim (subd (txS kn rs) lim d stk) stk ou xs k s).2.1 = 0 := (nI_eq (a := (md_it (txS kn rs) lim (subd (txS kn rs) lim d stk) stk ou xs k s).2.1) (b := 0) (by omega) (by omega)).mp c_115
                refine lv_iinc (v := (nI (k + 1))) (lv' := [(5, .int (nI (k + 1))), (7, .int (nI (md_it (txS kn rs) lim (subd (txS kn rs) lim d stk) stk ou xs k s).2.1)), (4, .int (nI (md_ref xs k).2.2.2)), (6, .int (nI (md_here stk ou k))), (0, .ref (ad 0)), (1, .ref (ad j0)), (2, .int (nI stk.length)), (3, .int o3)]) hx hb d_D_readValue_121 hl (k := 7) rfl ((nI_succ (k)).symm) (by decide) rfl (fun ls hl => ?_)
                refine lv_goto (tgt := 6) hx hb d_D_readValue_124 (by decide) ?_
                have ek : max k b = k := by omega
                have hnx : md_nx xs k = (md_ref xs k).2.2.2 := if_pos h38
                have enx : max (k + 1) ((md_ref xs k).2.2.2) = md_nx xs k := by rw [hnx]; omega
                obtain ⟨n1, rfl⟩ : ∃ n1, n = n1 + 1 := ⟨n - 1, by omega⟩
                rw [ek] at hR
                have hR2 : R = md_lp (txS kn rs) lim (subd (txS kn rs) lim d stk) stk ou xs n1 (max (k + 1) ((md_ref xs k).2.2.2)) (md_it (txS kn rs) lim (subd (txS kn rs) lim d stk) stk ou xs k s).1 := by rw [enx, hR]; exact md_lp_go (by omega) c_115
                rw [c_115, pf_0 rfl] at hS2
                exact ih (k + 1) ((md_ref xs k).2.2.2) n1 (md_it (txS kn rs) lim (subd (txS kn rs) lim d stk) stk ou xs k s).1 F_24 rs2 _ _ _ _ (by omega) (by omega) (by omega) (by have := md_nx_ge xs k; rw [enx]; omega) hR2 ⟨hnd, hlt, hS2, h52, ho2, hok.2.1, hok.2.2, hlim⟩ (hfr.tr (hf1.tr hf2)) H locs ls hW (lv_sub hl [4, 5, 6, 7, 2, 0] rfl)
              · have c_115i := c_115
                replace c_115 : ¬ (md_it (txS kn rs) lim (subd (txS kn rs) lim d stk) stk ou xs k s).2.1 = 0 := fun zz9 => c_115 ((nI_eq (a := (md_it (txS kn rs) lim (subd (txS kn rs) lim d stk) stk ou xs k s).2.1) (b := 0) (by omega) (by omega)).mpr zz9)
                refine lv_iload hx hb d_D_readValue_118 (lv_at hl 0 rfl) ?_
                have ek : max k b = k := by omega
                obtain ⟨n1, rfl⟩ : ∃ n1, n = n1 + 1 := ⟨n - 1, by omega⟩
                rw [ek] at hR
                have hR1 : R = (md_it (txS kn rs) lim (subd (txS kn rs) lim d stk) stk ou xs k s) := by rw [hR]; exact md_lp_no (by omega) c_115
                exact hp_reti S hK hW hr hlk d_D_readValue_120 (⟨by rw [hR1], ⟨rs2, _, _, _, _, by rw [hR1]; exact hS2, by rw [hR1]; exact h52, ho2⟩, hfr.tr (hf1.tr hf2)⟩)
            · have c_74i := c_74
              refine lv_aload_n hx hb d_D_readValue_77 rfl (lv_at hl 2 rfl) ?_
              refine lv_iload_n hx hb d_D_readValue_78 rfl (lv_at hl 4 rfl) ?_
              refine lv_iload hx hb d_D_readValue_79 (lv_at hl 1 rfl) ?_
              have hI1 : RI g ad kn rs lim stk s F_22 rs1 fz (b2 (md_ref xs k).1) (b2 (md_ref xs k).2.1) nu1 (nI (md_ref xs k).2.2.2) := ⟨hnd, hlt, hS1, h5, hoth, hme, hdp, hlim⟩
              have hwt := b2_n0.mp c_74i
              refine hp_goi hW (va_runV S (hTR stk (md_here stk ou k) s F_22 rs1 fz _ _ nu1 _ (md_ref xs k).2.1 (by omega) (here_lt hou (by omega)) rfl (fun z => by have h9 := md_ref_ent hwt z; obtain ⟨kk, hkk, ekk⟩ := nu_k h9.1.1 h9.1.2; exact ⟨kk, hkk, by rw [hnu1 hwt, h9.2.1, ekk]⟩) hI1) (cwV 2 hts (tb_V cd_D_takeReference tq_82 tq_83 tq_84 tq_27) rfl rfl rfl hd_D_takeReference (rk_ok (by omega) (by omega))) (hp_preV hK hW (by omega) rfl hS1.1 rfl) rfl rfl hl.1 rfl (lv_room (Nat.le_of_ble_eq_true rfl)) d_D_readValue_81 ⟨Nat.zero_le _, Nat.zero_le _⟩) (fun r_25 F_26 H locs hw hW => ?_)
              have hIT : (md_it (txS kn rs) lim (subd (txS kn rs) lim d stk) stk ou xs k s) = md_wr (txS kn rs) lim (subd (txS kn rs) lim d stk) stk (md_ref xs k).2.1 nu1 s (md_here stk ou k) := by unfold md_it; rw [if_pos h38, if_pos hwt, hnu1 hwt]
              rw [← hIT] at hw
              obtain ⟨hv2, ⟨rs2, wh2, te2, nu2, en2, hS2, h52, ho2⟩, hf2⟩ := hw
              rw [hv2]
              refine lv_goto (tgt := 94) hx hb d_D_readValue_84 (by decide) ?_
              refine lv_istore (lv' := [(7, .int (nI (md_it (txS kn rs) lim (subd (txS kn rs) lim d stk) stk ou xs k s).2.1)), (4, .int (nI (md_ref xs k).2.2.2)), (6, .int (nI (md_here stk ou k))), (0, .ref (ad 0)), (1, .ref (ad j0)), (2, .int (nI stk.length)), (3, .int o3), (5, .int (nI k))]) hx hb d_D_readValue_94 hl (by decide) rfl (fun ls hl => ?_)
              refine lv_goto (tgt := 113) hx hb d_D_readValue_96 (by decide) ?_
              have hok := ok_it (tx := (txS kn rs)) (lim := lim) (sub := (subd (txS kn rs) lim d stk)) (stk := stk) (ou := ou) (xs := xs) (i := k) (s := s) (fun k ys s h _ a b => ok_rv d (k :: stk) h ys s (by rw [List.length_cons]; omega) a b) (by omega) hme hdp
              have hok1 := hok.1
              refine lv_iload hx hb d_D_readValue_113 (lv_at hl 0 rfl) ?_
              refine lv_if_eq (tgt := 121) hx hb d_D_readValue_115 (by decide) (fun c_115 => ?_) (fun c_115 => ?_)
              · have c_115i := c_115
                replace c_115 : (md_it (txS kn rs) lim (subd (txS kn rs) lim d stk) stk ou xs k s).2.1 = 0 := (nI_eq (a := (md_it (txS kn rs) lim (subd (txS kn rs) lim d stk) stk ou xs k s).2.1) (b := 0) (by omega) (by omega)).mp c_115
                refine lv_iinc (v := (nI (k + 1))) (lv' := [(5, .int (nI (k + 1))), (7, .int (nI (md_it (txS kn rs) lim (subd (txS kn rs) lim d stk) stk ou xs k s).2.1)), (4, .int (nI (md_ref xs k).2.2.2)), (6, .int (nI (md_here stk ou k))), (0, .ref (ad 0)), (1, .ref (ad j0)), (2, .int (nI stk.length)), (3, .int o3)]) hx hb d_D_readValue_121 hl (k := 7) rfl ((nI_succ (k)).symm) (by decide) rfl (fun ls hl => ?_)
                refine lv_goto (tgt := 6) hx hb d_D_readValue_124 (by decide) ?_
                have ek : max k b = k := by omega
                have hnx : md_nx xs k = (md_ref xs k).2.2.2 := if_pos h38
                have enx : max (k + 1) ((md_ref xs k).2.2.2) = md_nx xs k := by rw [hnx]; omega
                obtain ⟨n1, rfl⟩ : ∃ n1, n = n1 + 1 := ⟨n - 1, by omega⟩
                rw [ek] at hR
                have hR2 : R = md_lp (txS kn rs) lim (subd (txS kn rs) lim d stk) stk ou xs n1 (max (k + 1) ((md_ref xs k).2.2.2)) (md_it (txS kn rs) lim (subd (txS kn rs) lim d stk) stk ou xs k s).1 := by rw [enx, hR]; exact md_lp_go (by omega) c_115
                rw [c_115, pf_0 rfl] at hS2
                exact ih (k + 1) ((md_ref xs k).2.2.2) n1 (md_it (txS kn rs) lim (subd (txS kn rs) lim d stk) stk ou xs k s).1 F_26 rs2 _ _ _ _ (by omega) (by omega) (by omega) (by have := md_nx_ge xs k; rw [enx]; omega) hR2 ⟨hnd, hlt, hS2, h52, ho2, hok.2.1, hok.2.2, hlim⟩ (hfr.tr (hf1.tr hf2)) H locs ls hW (lv_sub hl [4, 5, 6, 7, 2, 0] rfl)
              · have c_115i := c_115
                replace c_115 : ¬ (md_it (txS kn rs) lim (subd (txS kn rs) lim d stk) stk ou xs k s).2.1 = 0 := fun zz9 => c_115 ((nI_eq (a := (md_it (txS kn rs) lim (subd (txS kn rs) lim d stk) stk ou xs k s).2.1) (b := 0) (by omega) (by omega)).mpr zz9)
                refine lv_iload hx hb d_D_readValue_118 (lv_at hl 0 rfl) ?_
                have ek : max k b = k := by omega
                obtain ⟨n1, rfl⟩ : ∃ n1, n = n1 + 1 := ⟨n - 1, by omega⟩
                rw [ek] at hR
                have hR1 : R = (md_it (txS kn rs) lim (subd (txS kn rs) lim d stk) stk ou xs k s) := by rw [hR]; exact md_lp_no (by omega) c_115
                exact hp_reti S hK hW hr hlk d_D_readValue_120 (⟨by rw [hR1], ⟨rs2, _, _, _, _, by rw [hR1]; exact hS2, by rw [hR1]; exact h52, ho2⟩, hfr.tr (hf1.tr hf2)⟩)
      · have c_19i := c_19
        replace c_19 : ¬ b ≤ k := fun zz9 => c_19 ((nI_leI (a := b) (b := k) (by omega) (by omega)).mpr zz9)
        refine lv_goto (tgt := 121) hx hb d_D_readValue_22 (by decide) ?_
        refine lv_iinc (v := (nI (k + 1))) (lv' := [(5, .int (nI (k + 1))), (0, .ref (ad 0)), (1, .ref (ad j0)), (2, .int (nI stk.length)), (3, .int o3), (4, .int (nI b))]) hx hb d_D_readValue_121 hl (k := 5) rfl ((nI_succ (k)).symm) (by decide) rfl (fun ls hl => ?_)
        refine lv_goto (tgt := 6) hx hb d_D_readValue_124 (by decide) ?_
        exact ih (k + 1) b n s F rs1 wh te nu en (by omega) (by omega) hb0 (by omega) (by rw [show max (k + 1) b = max k b by omega]; exact hR) hI hfr H locs ls hW (lv_sub hl [1, 2, 3, 4, 5, 0] rfl)

/-! readValue(row, depth, outer), over takeReference's contract -/
set_option maxHeartbeats 400000 in
set_option maxRecDepth 100000 in
theorem rv_of_tr (l : Launch) (g : hp_G) (z0 N : Nat) (ad : Nat → Nat) (hN : 87 ≤ N) (kn : Nat → Bool) (rs : Nat → List Int32) (lim d : Nat) (hTR : TR l g z0 N ad kn rs lim d) : RV l g z0 N ad kn rs lim (d + 1) := by
  intro stk ou j s F rs1 fp wh te nu en o3 hd hj hj5 hou ho3 hI
  obtain ⟨hnd, hlt, hS, h5, hoth, hme, hdp, hlim⟩ := id hI
  have hxl : (rs j).length ≤ 300 := by
    have h1 := (hS.row hj).len
    rw [hoth j hj5] at h1
    have := cap_le j
    omega
  refine hp_enter (cc := cc_D_readValue) (maxL := 8) (ret := (some .int)) (by decide) rfl (Nat.le_of_ble_eq_true rfl) ?_
  intro p e sM m below meth c S hr hlk hnm hK hW ls hl
  have hl : lv_has ls 8 [(0, .ref (ad 0)), (1, .ref (ad j)), (2, .int (nI stk.length)), (3, .int o3)] := hl
  obtain ⟨hx, hb, hml, hown, hts⟩ := id S
  refine lv_iconst (v := 0) hx hb d_D_readValue_0 (by decide) ?_
  refine lv_istore (lv' := [(4, .int 0), (0, .ref (ad 0)), (1, .ref (ad j)), (2, .int (nI stk.length)), (3, .int o3)]) hx hb d_D_readValue_1 hl (by decide) rfl (fun ls hl => ?_)
  refine lv_iconst (v := 0) hx hb d_D_readValue_3 (by decide) ?_
  refine lv_istore (lv' := [(5, .int 0), (4, .int 0), (0, .ref (ad 0)), (1, .ref (ad j)), (2, .int (nI stk.length)), (3, .int o3)]) hx hb d_D_readValue_4 hl (by decide) rfl (fun ls hl => ?_)
  exact lp_readValue l g z0 N ad hN kn rs lim d hTR stk ou j hj hj5 hou o3 ho3 hd (rs j) rfl hxl _ F fp S hr hlk hK ((rs j).length + 1) 0 0 (rs j).length s F rs1 wh te nu en (by omega) (by omega) (by omega) (by omega) rfl hI vFr.rf _ _ ls hW (lv_sub hl [2, 3, 4, 5, 1, 0] rfl)

theorem rv_all (l : Launch) (g : hp_G) (z0 N : Nat) (ad : Nat → Nat) (hN : 87 ≤ N) (kn : Nat → Bool) (rs : Nat → List Int32) (lim : Nat) : ∀ d, RV l g z0 N ad kn rs lim d
  | 0 => by
    intro stk ou j s F rs1 fp wh te nu en o3 hd hj hj5 hou ho3 hI
    have h1 := pig 26 stk hI.1 hI.2.1
    omega
  | d + 1 => rv_of_tr l g z0 N ad hN kn rs lim d (tr_of_te l g z0 N ad hN kn rs lim d (te_of_rv l g z0 N ad hN kn rs lim d (rv_all l g z0 N ad hN kn rs lim d)))
