/-! the reference: open -/
set_option maxHeartbeats 400000 in
set_option maxRecDepth 100000 in
theorem m_open (l : Launch) (g : hp_G) (z0 N : Nat) (ad : Nat → Nat) (F : Nat → va_E) (hN : 96 ≤ N) (tape : List Int32) (kn : Nat → Bool) (rt : Nat → List Int32) (la mm : List Int32) (stk : List Nat) (ap : Nat → Int32) (tc fp ou ki nu be : Int32) (me0 dp0 lim : Nat) (hme : me0 ≤ lim) (hlim : lim ≤ 100000) (hdp : dp0 ≤ 27) (hS : mS g ad F tape kn rt la mm stk ap tc fp (nI me0) (nI dp0) 0 ou ki nu be) (hnd : stk.Nodup) (k q0 : Nat) (hk : k < 26) (hq0 : q0 < 1000) : hp_Mv l g z0 N ad y_M_open ws_M_open (rk 1) [.ref (ad 87), .int (nI k), .int (nI q0), .int (nI lim)] F (fun F' => (if opf kn stk k (rt k).length me0 lim = 0 then mS g ad F' tape kn rt la mm (k :: stk) (upd (upd ap stk.length be) (stk.length + 1) 0) tc fp (nI (me0 + (rt k).length)) (nI (max dp0 (stk.length + 1))) 0 (if stk.length = 0 then (nI q0) else ou) ki nu be else mS g ad F' tape kn rt la mm stk ap tc (if stk.length = 0 then (nI q0) else ou) (nI me0) (nI dp0) (nI (opf kn stk k (rt k).length me0 lim)) ou ki nu be) ∧ mFr F F') := by
  have hsl := hS.sl
  obtain ⟨tp, hs, sz, tx, vl, ey, md, hR, ⟨htl, htp⟩, hT, ⟨hll, hvl⟩, hKs, hml0, hmd⟩ := id hS
  refine hp_enter (cc := cc_M_open) (maxL := 4) (ret := none) (by decide) rfl (Nat.le_of_ble_eq_true rfl) ?_
  intro p e s m below meth c S hr hlk hnm hK hW ls hl
  have hl : lv_has ls 4 [(0, .ref (ad 87)), (1, .int (nI k)), (2, .int (nI q0)), (3, .int (nI lim))] := hl
  obtain ⟨hx, hb, hml, hown, hts⟩ := id S
  have in_kM : ∀ w ∈ u_ws R_M T_M 21, w ∈ ws_M_open := fun w h => List.mem_cons_of_mem _ (in0_M w h)
  refine lv_aload_n hx hb d_M_open_0 rfl (lv_at hl 0 rfl) ?_
  refine hp_get S hK hW (87) (by omega) rfl hR.1 rfl in_kM 3 (by decide) (hts _ (List.mem_cons_of_mem _ tq_99)) rfl d_M_open_1 ?_
  refine lv_iload_n hx hb d_M_open_4 rfl (lv_at hl 1 rfl) ?_
  refine hp_zald S hK hW (89) (by omega) rfl hR.2.2.1 (vp_in_nI hk (by omega)) d_M_open_5 ?_
  rw [show (hs ((nI k) : Int32).toNatClampNeg) = (b2 (kn k)) from (by rw [nI_clamp (by omega)]; exact (hT k hk).1)]
  refine lv_if_ne (tgt := 18) hx hb d_M_open_6 (by decide) (fun c_6 => ?_) (fun c_6 => ?_)
  · have c_6i := c_6
    have hkn := b2_n0.mp c_6i
    have hTk := (hT k hk).2 hkn
    have hkl := hTk.2.1
    refine lv_aload_n hx hb d_M_open_18 rfl (lv_at hl 0 rfl) ?_
    refine lv_iload_n hx hb d_M_open_19 rfl (lv_at hl 1 rfl) ?_
    refine hp_goi hW (va_runV S (m_isOpen l g z0 N ad F hN tape kn rt la mm stk ap tc fp (nI me0) (nI dp0) 0 ou ki nu be hS k hk) (cwV 1 hts (tb_V cd_M_isOpen tq_134 tq_135 tq_136 tq_118) rfl rfl rfl hd_M_isOpen (rk_ok (by omega) (by omega))) (hp_preV hK hW (by omega) rfl hR.1 rfl) rfl rfl hl.1 rfl (lv_room (Nat.le_of_ble_eq_true rfl)) d_M_open_20 ⟨Nat.zero_le _, Nat.zero_le _⟩) (fun r_1 F_2 H locs hw hW => ?_)
    obtain ⟨hvq, hFq⟩ := hw
    rw [hFq] at hW
    rw [hvq]
    refine lv_if_eq (tgt := 35) hx hb d_M_open_23 (by decide) (fun c_23 => ?_) (fun c_23 => ?_)
    · have c_23i := c_23
      have hkt : ¬ kn k = false := by rw [hkn]; exact fun z => by cases z
      have hns : k ∉ stk := of_decide_eq_false (b2_0.mp c_23i)
      refine lv_aload_n hx hb d_M_open_35 rfl (lv_at hl 0 rfl) ?_
      refine hp_get S hK hW (87) (by omega) rfl hR.1 rfl in_kM 9 (by decide) (hts _ (List.mem_cons_of_mem _ tq_105)) rfl d_M_open_36 ?_
      refine lv_aload_n hx hb d_M_open_39 rfl (lv_at hl 0 rfl) ?_
      refine hp_get S hK hW (87) (by omega) rfl hR.1 rfl in_kM 4 (by decide) (hts _ (List.mem_cons_of_mem _ tq_100)) rfl d_M_open_40 ?_
      refine lv_iload_n hx hb d_M_open_43 rfl (lv_at hl 1 rfl) ?_
      refine hp_iald S hK hW (90) (by omega) rfl hR.2.2.2.1 (vp_in_nI hk (by omega)) d_M_open_44 ?_
      rw [show (sz ((nI k) : Int32).toNatClampNeg) = (nI (rt k).length) from (by rw [nI_clamp (by omega)]; exact hTk.1)]
      refine lv_iadd hx hb d_M_open_45 ?_
      rw [show ((nI me0) + (nI (rt k).length)) = (nI (me0 + (rt k).length)) from nI_add _ _]
      refine lv_iload_n hx hb d_M_open_46 rfl (lv_at hl 3 rfl) ?_
      refine lv_icmp_le (tgt := 60) hx hb d_M_open_47 (by decide) (fun c_47 => ?_) (fun c_47 => ?_)
      · have c_47i := c_47
        replace c_47 : (me0 + (rt k).length) ≤ lim := (nI_leI (a := (me0 + (rt k).length)) (b := lim) (by omega) (by omega)).mp c_47
        have hO : opf kn stk k (rt k).length me0 lim = 0 := (if_neg hkt).trans ((if_neg hns).trans (if_neg (by omega)))
        have hpg := pig 26 (k :: stk) (List.nodup_cons.mpr ⟨hns, hnd⟩) (fun x hx => by rcases List.mem_cons.mp hx with rfl | h2; exact hk; exact (hKs.2.2 x h2).1)
        rw [List.length_cons] at hpg
        refine lv_aload_n hx hb d_M_open_60 rfl (lv_at hl 0 rfl) ?_
        refine hp_get S hK hW (87) (by omega) rfl hR.1 rfl in_kM 11 (by decide) (hts _ (List.mem_cons_of_mem _ tq_107)) rfl d_M_open_61 ?_
        refine lv_if_ne (tgt := 72) hx hb d_M_open_64 (by decide) (fun c_64 => ?_) (fun c_64 => ?_)
        · have c_64i := c_64
          replace c_64 : ¬ stk.length = 0 := fun zz9 => c_64 ((nI_eq (a := stk.length) (b := 0) (by omega) (by omega)).mpr zz9)
          refine lv_aload_n hx hb d_M_open_72 rfl (lv_at hl 0 rfl) ?_
          refine hp_get S hK hW (87) (by omega) rfl hR.1 rfl in_kM 13 (by decide) (hts _ (List.mem_cons_of_mem _ tq_109)) rfl d_M_open_73 ?_
          refine lv_aload_n hx hb d_M_open_76 rfl (lv_at hl 0 rfl) ?_
          refine hp_get S hK hW (87) (by omega) rfl hR.1 rfl in_kM 11 (by decide) (hts _ (List.mem_cons_of_mem _ tq_107)) rfl d_M_open_77 ?_
          refine lv_aload_n hx hb d_M_open_80 rfl (lv_at hl 0 rfl) ?_
          refine hp_get S hK hW (87) (by omega) rfl hR.1 rfl in_kM 18 (by decide) (hts _ (List.mem_cons_of_mem _ tq_114)) rfl d_M_open_81 ?_
          refine hp_iast S hK hW (94) (by omega) rfl hR.2.2.2.2.2.2.2.1 (x := be) (vp_in_nI (by omega) (by omega)) d_M_open_84 (fun H locs hW => ?_)
          obtain ⟨F_3, eF_3⟩ : ∃ z, z = va_up F (94) (.inl (g.2 0, 28, .inl (upd ap stk.length be))) := ⟨_, rfl⟩
          rw [show (((nI stk.length) : Int32).toNatClampNeg) = stk.length from nI_clamp (by omega)] at hW
          replace hW : hp_W g z0 N ad F_3 s.heap H locs := by rw [eF_3]; exact hW
          have f_4 : F_3 (87) = .inr (kM, [.int tc, .ref (ad 88), .int (nI tape.length), .ref (ad 89), .ref (ad 90), .ref (ad 91), .ref (ad 92), .int (nI la.length), .int fp, .int (nI me0), .int (nI dp0), .int (nI stk.length), .ref (ad 93), .ref (ad 94), .int 0, .int ou, .int ki, .int nu, .int be, .ref (ad 95), .int (nI mm.length)]) := by rw [eF_3, va_up_ne _ _ (by omega)]; exact hR.1
          have f_5 : F_3 (88) = .inl (g.2 0, 200, .inl tp) := by rw [eF_3, va_up_ne _ _ (by omega)]; exact hR.2.1
          have f_6 : F_3 (89) = .inl (g.2 2, 26, .inl hs) := by rw [eF_3, va_up_ne _ _ (by omega)]; exact hR.2.2.1
          have f_7 : F_3 (90) = .inl (g.2 0, 26, .inl sz) := by rw [eF_3, va_up_ne _ _ (by omega)]; exact hR.2.2.2.1
          have f_8 : F_3 (91) = .inl (g.2 0, 2600, .inl tx) := by rw [eF_3, va_up_ne _ _ (by omega)]; exact hR.2.2.2.2.1
          have f_9 : F_3 (92) = .inl (g.2 0, 301, .inl vl) := by rw [eF_3, va_up_ne _ _ (by omega)]; exact hR.2.2.2.2.2.1
          have f_10 : F_3 (93) = .inl (g.2 0, 28, .inl ey) := by rw [eF_3, va_up_ne _ _ (by omega)]; exact hR.2.2.2.2.2.2.1
          have f_11 : F_3 (94) = .inl (g.2 0, 28, .inl (upd ap stk.length be)) := by rw [eF_3, va_up_self]
          have f_12 : F_3 (95) = .inl (g.2 0, 204, .inl md) := by rw [eF_3, va_up_ne _ _ (by omega)]; exact hR.2.2.2.2.2.2.2.2
          have hf_13 : mFr F F_3 := fun x hx => by rw [eF_3, va_up_ne _ _ (by omega)]
          refine lv_aload_n hx hb d_M_open_85 rfl (lv_at hl 0 rfl) ?_
          refine lv_dup hx hb d_M_open_86 rfl ?_
          refine hp_get S hK hW (87) (by omega) rfl f_4 rfl in_kM 9 (by decide) (hts _ (List.mem_cons_of_mem _ tq_105)) rfl d_M_open_87 ?_
          refine lv_aload_n hx hb d_M_open_90 rfl (lv_at hl 0 rfl) ?_
          refine hp_get S hK hW (87) (by omega) rfl f_4 rfl in_kM 4 (by decide) (hts _ (List.mem_cons_of_mem _ tq_100)) rfl d_M_open_91 ?_
          refine lv_iload_n hx hb d_M_open_94 rfl (lv_at hl 1 rfl) ?_
          refine hp_iald S hK hW (90) (by omega) rfl f_7 (vp_in_nI hk (by omega)) d_M_open_95 ?_
          rw [show (sz ((nI k) : Int32).toNatClampNeg) = (nI (rt k).length) from (by rw [nI_clamp (by omega)]; exact hTk.1)]
          refine lv_iadd hx hb d_M_open_96 ?_
          rw [show ((nI me0) + (nI (rt k).length)) = (nI (me0 + (rt k).length)) from nI_add _ _]
          refine hp_put S hK hW (87) (by omega) rfl f_4 rfl in_kM tyok_M nm_M 9 (by decide) (hts _ (List.mem_cons_of_mem _ tq_105)) rfl rfl rfl (Nat.le_of_ble_eq_true rfl) d_M_open_97 (fun H locs hW => ?_)
          obtain ⟨F_14, eF_14⟩ : ∃ z, z = va_up F_3 (87) (.inr (kM, [.int tc, .ref (ad 88), .int (nI tape.length), .ref (ad 89), .ref (ad 90), .ref (ad 91), .ref (ad 92), .int (nI la.length), .int fp, .int (nI (me0 + (rt k).length)), .int (nI dp0), .int (nI stk.length), .ref (ad 93), .ref (ad 94), .int 0, .int ou, .int ki, .int nu, .int be, .ref (ad 95), .int (nI mm.length)])) := ⟨_, rfl⟩
          replace hW : hp_W g z0 N ad F_14 s.heap H locs := by rw [eF_14]; exact hW
          have f_15 : F_14 (87) = .inr (kM, [.int tc, .ref (ad 88), .int (nI tape.length), .ref (ad 89), .ref (ad 90), .ref (ad 91), .ref (ad 92), .int (nI la.length), .int fp, .int (nI (me0 + (rt k).length)), .int (nI dp0), .int (nI stk.length), .ref (ad 93), .ref (ad 94), .int 0, .int ou, .int ki, .int nu, .int be, .ref (ad 95), .int (nI mm.length)]) := by rw [eF_14, va_up_self]
          have f_16 : F_14 (88) = .inl (g.2 0, 200, .inl tp) := by rw [eF_14, va_up_ne _ _ (by omega)]; exact f_5
          have f_17 : F_14 (89) = .inl (g.2 2, 26, .inl hs) := by rw [eF_14, va_up_ne _ _ (by omega)]; exact f_6
          have f_18 : F_14 (90) = .inl (g.2 0, 26, .inl sz) := by rw [eF_14, va_up_ne _ _ (by omega)]; exact f_7
          have f_19 : F_14 (91) = .inl (g.2 0, 2600, .inl tx) := by rw [eF_14, va_up_ne _ _ (by omega)]; exact f_8
          have f_20 : F_14 (92) = .inl (g.2 0, 301, .inl vl) := by rw [eF_14, va_up_ne _ _ (by omega)]; exact f_9
          have f_21 : F_14 (93) = .inl (g.2 0, 28, .inl ey) := by rw [eF_14, va_up_ne _ _ (by omega)]; exact f_10
          have f_22 : F_14 (94) = .inl (g.2 0, 28, .inl (upd ap stk.length be)) := by rw [eF_14, va_up_ne _ _ (by omega)]; exact f_11
          have f_23 : F_14 (95) = .inl (g.2 0, 204, .inl md) := by rw [eF_14, va_up_ne _ _ (by omega)]; exact f_12
          have hf_24 : mFr F_3 F_14 := fun x hx => by rw [eF_14, va_up_ne _ _ (by omega)]
          refine lv_aload_n hx hb d_M_open_100 rfl (lv_at hl 0 rfl) ?_
          refine lv_dup hx hb d_M_open_101 rfl ?_
          refine hp_get S hK hW (87) (by omega) rfl f_15 rfl in_kM 11 (by decide) (hts _ (List.mem_cons_of_mem _ tq_107)) rfl d_M_open_102 ?_
          refine lv_iconst (v := 1) hx hb d_M_open_105 (by decide) ?_
          refine lv_iadd hx hb d_M_open_106 ?_
          rw [show ((nI stk.length) + 1) = (nI (stk.length + 1)) from (nI_succ _).symm]
          refine hp_put S hK hW (87) (by omega) rfl f_15 rfl in_kM tyok_M nm_M 11 (by decide) (hts _ (List.mem_cons_of_mem _ tq_107)) rfl rfl rfl (Nat.le_of_ble_eq_true rfl) d_M_open_107 (fun H locs hW => ?_)
          obtain ⟨F_25, eF_25⟩ : ∃ z, z = va_up F_14 (87) (.inr (kM, [.int tc, .ref (ad 88), .int (nI tape.length), .ref (ad 89), .ref (ad 90), .ref (ad 91), .ref (ad 92), .int (nI la.length), .int fp, .int (nI (me0 + (rt k).length)), .int (nI dp0), .int (nI (stk.length + 1)), .ref (ad 93), .ref (ad 94), .int 0, .int ou, .int ki, .int nu, .int be, .ref (ad 95), .int (nI mm.length)])) := ⟨_, rfl⟩
          replace hW : hp_W g z0 N ad F_25 s.heap H locs := by rw [eF_25]; exact hW
          have f_26 : F_25 (87) = .inr (kM, [.int tc, .ref (ad 88), .int (nI tape.length), .ref (ad 89), .ref (ad 90), .ref (ad 91), .ref (ad 92), .int (nI la.length), .int fp, .int (nI (me0 + (rt k).length)), .int (nI dp0), .int (nI (stk.length + 1)), .ref (ad 93), .ref (ad 94), .int 0, .int ou, .int ki, .int nu, .int be, .ref (ad 95), .int (nI mm.length)]) := by rw [eF_25, va_up_self]
          have f_27 : F_25 (88) = .inl (g.2 0, 200, .inl tp) := by rw [eF_25, va_up_ne _ _ (by omega)]; exact f_16
          have f_28 : F_25 (89) = .inl (g.2 2, 26, .inl hs) := by rw [eF_25, va_up_ne _ _ (by omega)]; exact f_17
          have f_29 : F_25 (90) = .inl (g.2 0, 26, .inl sz) := by rw [eF_25, va_up_ne _ _ (by omega)]; exact f_18
          have f_30 : F_25 (91) = .inl (g.2 0, 2600, .inl tx) := by rw [eF_25, va_up_ne _ _ (by omega)]; exact f_19
          have f_31 : F_25 (92) = .inl (g.2 0, 301, .inl vl) := by rw [eF_25, va_up_ne _ _ (by omega)]; exact f_20
          have f_32 : F_25 (93) = .inl (g.2 0, 28, .inl ey) := by rw [eF_25, va_up_ne _ _ (by omega)]; exact f_21
          have f_33 : F_25 (94) = .inl (g.2 0, 28, .inl (upd ap stk.length be)) := by rw [eF_25, va_up_ne _ _ (by omega)]; exact f_22
          have f_34 : F_25 (95) = .inl (g.2 0, 204, .inl md) := by rw [eF_25, va_up_ne _ _ (by omega)]; exact f_23
          have hf_35 : mFr F_14 F_25 := fun x hx => by rw [eF_25, va_up_ne _ _ (by omega)]
          refine lv_aload_n hx hb d_M_open_110 rfl (lv_at hl 0 rfl) ?_
          refine hp_get S hK hW (87) (by omega) rfl f_26 rfl in_kM 12 (by decide) (hts _ (List.mem_cons_of_mem _ tq_108)) rfl d_M_open_111 ?_
          refine lv_aload_n hx hb d_M_open_114 rfl (lv_at hl 0 rfl) ?_
          refine hp_get S hK hW (87) (by omega) rfl f_26 rfl in_kM 11 (by decide) (hts _ (List.mem_cons_of_mem _ tq_107)) rfl d_M_open_115 ?_
          refine lv_iload_n hx hb d_M_open_118 rfl (lv_at hl 1 rfl) ?_
          refine hp_iast S hK hW (93) (by omega) rfl f_32 (x := (nI k)) (vp_in_nI (by omega) (by omega)) d_M_open_119 (fun H locs hW => ?_)
          obtain ⟨F_36, eF_36⟩ : ∃ z, z = va_up F_25 (93) (.inl (g.2 0, 28, .inl (upd ey (stk.length + 1) (nI k)))) := ⟨_, rfl⟩
          rw [show (((nI (stk.length + 1)) : Int32).toNatClampNeg) = (stk.length + 1) from nI_clamp (by omega)] at hW
          replace hW : hp_W g z0 N ad F_36 s.heap H locs := by rw [eF_36]; exact hW
          have f_37 : F_36 (87) = .inr (kM, [.int tc, .ref (ad 88), .int (nI tape.length), .ref (ad 89), .ref (ad 90), .ref (ad 91), .ref (ad 92), .int (nI la.length), .int fp, .int (nI (me0 + (rt k).length)), .int (nI dp0), .int (nI (stk.length + 1)), .ref (ad 93), .ref (ad 94), .int 0, .int ou, .int ki, .int nu, .int be, .ref (ad 95), .int (nI mm.length)]) := by rw [eF_36, va_up_ne _ _ (by omega)]; exact f_26
          have f_38 : F_36 (88) = .inl (g.2 0, 200, .inl tp) := by rw [eF_36, va_up_ne _ _ (by omega)]; exact f_27
          have f_39 : F_36 (89) = .inl (g.2 2, 26, .inl hs) := by rw [eF_36, va_up_ne _ _ (by omega)]; exact f_28
          have f_40 : F_36 (90) = .inl (g.2 0, 26, .inl sz) := by rw [eF_36, va_up_ne _ _ (by omega)]; exact f_29
          have f_41 : F_36 (91) = .inl (g.2 0, 2600, .inl tx) := by rw [eF_36, va_up_ne _ _ (by omega)]; exact f_30
          have f_42 : F_36 (92) = .inl (g.2 0, 301, .inl vl) := by rw [eF_36, va_up_ne _ _ (by omega)]; exact f_31
          have f_43 : F_36 (93) = .inl (g.2 0, 28, .inl (upd ey (stk.length + 1) (nI k))) := by rw [eF_36, va_up_self]
          have f_44 : F_36 (94) = .inl (g.2 0, 28, .inl (upd ap stk.length be)) := by rw [eF_36, va_up_ne _ _ (by omega)]; exact f_33
          have f_45 : F_36 (95) = .inl (g.2 0, 204, .inl md) := by rw [eF_36, va_up_ne _ _ (by omega)]; exact f_34
          have hf_46 : mFr F_25 F_36 := fun x hx => by rw [eF_36, va_up_ne _ _ (by omega)]
          refine lv_aload_n hx hb d_M_open_120 rfl (lv_at hl 0 rfl) ?_
          refine hp_get S hK hW (87) (by omega) rfl f_37 rfl in_kM 13 (by decide) (hts _ (List.mem_cons_of_mem _ tq_109)) rfl d_M_open_121 ?_
          refine lv_aload_n hx hb d_M_open_124 rfl (lv_at hl 0 rfl) ?_
          refine hp_get S hK hW (87) (by omega) rfl f_37 rfl in_kM 11 (by decide) (hts _ (List.mem_cons_of_mem _ tq_107)) rfl d_M_open_125 ?_
          refine lv_iconst (v := 0) hx hb d_M_open_128 (by decide) ?_
          refine hp_iast S hK hW (94) (by omega) rfl f_44 (x := 0) (vp_in_nI (by omega) (by omega)) d_M_open_129 (fun H locs hW => ?_)
          obtain ⟨F_47, eF_47⟩ : ∃ z, z = va_up F_36 (94) (.inl (g.2 0, 28, .inl (upd (upd ap stk.length be) (stk.length + 1) 0))) := ⟨_, rfl⟩
          rw [show (((nI (stk.length + 1)) : Int32).toNatClampNeg) = (stk.length + 1) from nI_clamp (by omega)] at hW
          replace hW : hp_W g z0 N ad F_47 s.heap H locs := by rw [eF_47]; exact hW
          have f_48 : F_47 (87) = .inr (kM, [.int tc, .ref (ad 88), .int (nI tape.length), .ref (ad 89), .ref (ad 90), .ref (ad 91), .ref (ad 92), .int (nI la.length), .int fp, .int (nI (me0 + (rt k).length)), .int (nI dp0), .int (nI (stk.length + 1)), .ref (ad 93), .ref (ad 94), .int 0, .int ou, .int ki, .int nu, .int be, .ref (ad 95), .int (nI mm.length)]) := by rw [eF_47, va_up_ne _ _ (by omega)]; exact f_37
          have f_49 : F_47 (88) = .inl (g.2 0, 200, .inl tp) := by rw [eF_47, va_up_ne _ _ (by omega)]; exact f_38
          have f_50 : F_47 (89) = .inl (g.2 2, 26, .inl hs) := by rw [eF_47, va_up_ne _ _ (by omega)]; exact f_39
          have f_51 : F_47 (90) = .inl (g.2 0, 26, .inl sz) := by rw [eF_47, va_up_ne _ _ (by omega)]; exact f_40
          have f_52 : F_47 (91) = .inl (g.2 0, 2600, .inl tx) := by rw [eF_47, va_up_ne _ _ (by omega)]; exact f_41
          have f_53 : F_47 (92) = .inl (g.2 0, 301, .inl vl) := by rw [eF_47, va_up_ne _ _ (by omega)]; exact f_42
          have f_54 : F_47 (93) = .inl (g.2 0, 28, .inl (upd ey (stk.length + 1) (nI k))) := by rw [eF_47, va_up_ne _ _ (by omega)]; exact f_43
          have f_55 : F_47 (94) = .inl (g.2 0, 28, .inl (upd (upd ap stk.length be) (stk.length + 1) 0)) := by rw [eF_47, va_up_self]
          have f_56 : F_47 (95) = .inl (g.2 0, 204, .inl md) := by rw [eF_47, va_up_ne _ _ (by omega)]; exact f_45
          have hf_57 : mFr F_36 F_47 := fun x hx => by rw [eF_47, va_up_ne _ _ (by omega)]
          refine lv_aload_n hx hb d_M_open_130 rfl (lv_at hl 0 rfl) ?_
          refine hp_get S hK hW (87) (by omega) rfl f_48 rfl in_kM 11 (by decide) (hts _ (List.mem_cons_of_mem _ tq_107)) rfl d_M_open_131 ?_
          refine lv_aload_n hx hb d_M_open_134 rfl (lv_at hl 0 rfl) ?_
          refine hp_get S hK hW (87) (by omega) rfl f_48 rfl in_kM 10 (by decide) (hts _ (List.mem_cons_of_mem _ tq_106)) rfl d_M_open_135 ?_
          refine lv_icmp_le (tgt := 149) hx hb d_M_open_138 (by decide) (fun c_138 => ?_) (fun c_138 => ?_)
          · have c_138i := c_138
            replace c_138 : (stk.length + 1) ≤ dp0 := (nI_leI (a := (stk.length + 1)) (b := dp0) (by omega) (by omega)).mp c_138
            exact hp_retv S hK hW hr hlk d_M_open_149 (by rw [hO]; refine ⟨?_, ((((hf_13.tr hf_24).tr hf_35).tr hf_46).tr hf_57)⟩; rw [if_pos rfl, if_neg c_64, Nat.max_eq_left (by omega)]; exact ⟨tp, hs, sz, tx, vl, ((upd ey (stk.length + 1) (nI k))), md, ⟨f_48, f_49, f_50, f_51, f_52, f_53, f_54, f_55, f_56⟩, ⟨htl, htp⟩, hT, ⟨hll, hvl⟩, mK_push hKs hk hkn hpg, hml0, hmd⟩)
          · have c_138i := c_138
            replace c_138 : ¬ (stk.length + 1) ≤ dp0 := fun zz9 => c_138 ((nI_leI (a := (stk.length + 1)) (b := dp0) (by omega) (by omega)).mpr zz9)
            refine lv_aload_n hx hb d_M_open_141 rfl (lv_at hl 0 rfl) ?_
            refine lv_aload_n hx hb d_M_open_142 rfl (lv_at hl 0 rfl) ?_
            refine hp_get S hK hW (87) (by omega) rfl f_48 rfl in_kM 11 (by decide) (hts _ (List.mem_cons_of_mem _ tq_107)) rfl d_M_open_143 ?_
            refine hp_put S hK hW (87) (by omega) rfl f_48 rfl in_kM tyok_M nm_M 10 (by decide) (hts _ (List.mem_cons_of_mem _ tq_106)) rfl rfl rfl (Nat.le_of_ble_eq_true rfl) d_M_open_146 (fun H locs hW => ?_)
            obtain ⟨F_58, eF_58⟩ : ∃ z, z = va_up F_47 (87) (.inr (kM, [.int tc, .ref (ad 88), .int (nI tape.length), .ref (ad 89), .ref (ad 90), .ref (ad 91), .ref (ad 92), .int (nI la.length), .int fp, .int (nI (me0 + (rt k).length)), .int (nI (stk.length + 1)), .int (nI (stk.length + 1)), .ref (ad 93), .ref (ad 94), .int 0, .int ou, .int ki, .int nu, .int be, .ref (ad 95), .int (nI mm.length)])) := ⟨_, rfl⟩
            replace hW : hp_W g z0 N ad F_58 s.heap H locs := by rw [eF_58]; exact hW
            have f_59 : F_58 (87) = .inr (kM, [.int tc, .ref (ad 88), .int (nI tape.length), .ref (ad 89), .ref (ad 90), .ref (ad 91), .ref (ad 92), .int (nI la.length), .int fp, .int (nI (me0 + (rt k).length)), .int (nI (stk.length + 1)), .int (nI (stk.length + 1)), .ref (ad 93), .ref (ad 94), .int 0, .int ou, .int ki, .int nu, .int be, .ref (ad 95), .int (nI mm.length)]) := by rw [eF_58, va_up_self]
            have f_60 : F_58 (88) = .inl (g.2 0, 200, .inl tp) := by rw [eF_58, va_up_ne _ _ (by omega)]; exact f_49
            have f_61 : F_58 (89) = .inl (g.2 2, 26, .inl hs) := by rw [eF_58, va_up_ne _ _ (by omega)]; exact f_50
            have f_62 : F_58 (90) = .inl (g.2 0, 26, .inl sz) := by rw [eF_58, va_up_ne _ _ (by omega)]; exact f_51
            have f_63 : F_58 (91) = .inl (g.2 0, 2600, .inl tx) := by rw [eF_58, va_up_ne _ _ (by omega)]; exact f_52
            have f_64 : F_58 (92) = .inl (g.2 0, 301, .inl vl) := by rw [eF_58, va_up_ne _ _ (by omega)]; exact f_53
            have f_65 : F_58 (93) = .inl (g.2 0, 28, .inl (upd ey (stk.length + 1) (nI k))) := by rw [eF_58, va_up_ne _ _ (by omega)]; exact f_54
            have f_66 : F_58 (94) = .inl (g.2 0, 28, .inl (upd (upd ap stk.length be) (stk.length + 1) 0)) := by rw [eF_58, va_up_ne _ _ (by omega)]; exact f_55
            have f_67 : F_58 (95) = .inl (g.2 0, 204, .inl md) := by rw [eF_58, va_up_ne _ _ (by omega)]; exact f_56
            have hf_68 : mFr F_47 F_58 := fun x hx => by rw [eF_58, va_up_ne _ _ (by omega)]
            exact hp_retv S hK hW hr hlk d_M_open_149 (by rw [hO]; refine ⟨?_, (((((hf_13.tr hf_24).tr hf_35).tr hf_46).tr hf_57).tr hf_68)⟩; rw [if_pos rfl, if_neg c_64, Nat.max_eq_right (by omega)]; exact ⟨tp, hs, sz, tx, vl, ((upd ey (stk.length + 1) (nI k))), md, ⟨f_59, f_60, f_61, f_62, f_63, f_64, f_65, f_66, f_67⟩, ⟨htl, htp⟩, hT, ⟨hll, hvl⟩, mK_push hKs hk hkn hpg, hml0, hmd⟩)
        · have c_64i := c_64
          replace c_64 : stk.length = 0 := (nI_eq (a := stk.length) (b := 0) (by omega) (by omega)).mp c_64
          refine lv_aload_n hx hb d_M_open_67 rfl (lv_at hl 0 rfl) ?_
          refine lv_iload_n hx hb d_M_open_68 rfl (lv_at hl 2 rfl) ?_
          refine hp_put S hK hW (87) (by omega) rfl hR.1 rfl in_kM tyok_M nm_M 15 (by decide) (hts _ (List.mem_cons_of_mem _ tq_111)) rfl rfl rfl (Nat.le_of_ble_eq_true rfl) d_M_open_69 (fun H locs hW => ?_)
          obtain ⟨F_69, eF_69⟩ : ∃ z, z = va_up F (87) (.inr (kM, [.int tc, .ref (ad 88), .int (nI tape.length), .ref (ad 89), .ref (ad 90), .ref (ad 91), .ref (ad 92), .int (nI la.length), .int fp, .int (nI me0), .int (nI dp0), .int (nI stk.length), .ref (ad 93), .ref (ad 94), .int 0, .int (nI q0), .int ki, .int nu, .int be, .ref (ad 95), .int (nI mm.length)])) := ⟨_, rfl⟩
          replace hW : hp_W g z0 N ad F_69 s.heap H locs := by rw [eF_69]; exact hW
          have f_70 : F_69 (87) = .inr (kM, [.int tc, .ref (ad 88), .int (nI tape.length), .ref (ad 89), .ref (ad 90), .ref (ad 91), .ref (ad 92), .int (nI la.length), .int fp, .int (nI me0), .int (nI dp0), .int (nI stk.length), .ref (ad 93), .ref (ad 94), .int 0, .int (nI q0), .int ki, .int nu, .int be, .ref (ad 95), .int (nI mm.length)]) := by rw [eF_69, va_up_self]
          have f_71 : F_69 (88) = .inl (g.2 0, 200, .inl tp) := by rw [eF_69, va_up_ne _ _ (by omega)]; exact hR.2.1
          have f_72 : F_69 (89) = .inl (g.2 2, 26, .inl hs) := by rw [eF_69, va_up_ne _ _ (by omega)]; exact hR.2.2.1
          have f_73 : F_69 (90) = .inl (g.2 0, 26, .inl sz) := by rw [eF_69, va_up_ne _ _ (by omega)]; exact hR.2.2.2.1
          have f_74 : F_69 (91) = .inl (g.2 0, 2600, .inl tx) := by rw [eF_69, va_up_ne _ _ (by omega)]; exact hR.2.2.2.2.1
          have f_75 : F_69 (92) = .inl (g.2 0, 301, .inl vl) := by rw [eF_69, va_up_ne _ _ (by omega)]; exact hR.2.2.2.2.2.1
          have f_76 : F_69 (93) = .inl (g.2 0, 28, .inl ey) := by rw [eF_69, va_up_ne _ _ (by omega)]; exact hR.2.2.2.2.2.2.1
          have f_77 : F_69 (94) = .inl (g.2 0, 28, .inl ap) := by rw [eF_69, va_up_ne _ _ (by omega)]; exact hR.2.2.2.2.2.2.2.1
          have f_78 : F_69 (95) = .inl (g.2 0, 204, .inl md) := by rw [eF_69, va_up_ne _ _ (by omega)]; exact hR.2.2.2.2.2.2.2.2
          have hf_79 : mFr F F_69 := fun x hx => by rw [eF_69, va_up_ne _ _ (by omega)]
          refine lv_aload_n hx hb d_M_open_72 rfl (lv_at hl 0 rfl) ?_
          refine hp_get S hK hW (87) (by omega) rfl f_70 rfl in_kM 13 (by decide) (hts _ (List.mem_cons_of_mem _ tq_109)) rfl d_M_open_73 ?_
          refine lv_aload_n hx hb d_M_open_76 rfl (lv_at hl 0 rfl) ?_
          refine hp_get S hK hW (87) (by omega) rfl f_70 rfl in_kM 11 (by decide) (hts _ (List.mem_cons_of_mem _ tq_107)) rfl d_M_open_77 ?_
          refine lv_aload_n hx hb d_M_open_80 rfl (lv_at hl 0 rfl) ?_
          refine hp_get S hK hW (87) (by omega) rfl f_70 rfl in_kM 18 (by decide) (hts _ (List.mem_cons_of_mem _ tq_114)) rfl d_M_open_81 ?_
          refine hp_iast S hK hW (94) (by omega) rfl f_77 (x := be) (vp_in_nI (by omega) (by omega)) d_M_open_84 (fun H locs hW => ?_)
          obtain ⟨F_80, eF_80⟩ : ∃ z, z = va_up F_69 (94) (.inl (g.2 0, 28, .inl (upd ap stk.length be))) := ⟨_, rfl⟩
          rw [show (((nI stk.length) : Int32).toNatClampNeg) = stk.length from nI_clamp (by omega)] at hW
          replace hW : hp_W g z0 N ad F_80 s.heap H locs := by rw [eF_80]; exact hW
          have f_81 : F_80 (87) = .inr (kM, [.int tc, .ref (ad 88), .int (nI tape.length), .ref (ad 89), .ref (ad 90), .ref (ad 91), .ref (ad 92), .int (nI la.length), .int fp, .int (nI me0), .int (nI dp0), .int (nI stk.length), .ref (ad 93), .ref (ad 94), .int 0, .int (nI q0), .int ki, .int nu, .int be, .ref (ad 95), .int (nI mm.length)]) := by rw [eF_80, va_up_ne _ _ (by omega)]; exact f_70
          have f_82 : F_80 (88) = .inl (g.2 0, 200, .inl tp) := by rw [eF_80, va_up_ne _ _ (by omega)]; exact f_71
          have f_83 : F_80 (89) = .inl (g.2 2, 26, .inl hs) := by rw [eF_80, va_up_ne _ _ (by omega)]; exact f_72
          have f_84 : F_80 (90) = .inl (g.2 0, 26, .inl sz) := by rw [eF_80, va_up_ne _ _ (by omega)]; exact f_73
          have f_85 : F_80 (91) = .inl (g.2 0, 2600, .inl tx) := by rw [eF_80, va_up_ne _ _ (by omega)]; exact f_74
          have f_86 : F_80 (92) = .inl (g.2 0, 301, .inl vl) := by rw [eF_80, va_up_ne _ _ (by omega)]; exact f_75
          have f_87 : F_80 (93) = .inl (g.2 0, 28, .inl ey) := by rw [eF_80, va_up_ne _ _ (by omega)]; exact f_76
          have f_88 : F_80 (94) = .inl (g.2 0, 28, .inl (upd ap stk.length be)) := by rw [eF_80, va_up_self]
          have f_89 : F_80 (95) = .inl (g.2 0, 204, .inl md) := by rw [eF_80, va_up_ne _ _ (by omega)]; exact f_78
          have hf_90 : mFr F_69 F_80 := fun x hx => by rw [eF_80, va_up_ne _ _ (by omega)]
          refine lv_aload_n hx hb d_M_open_85 rfl (lv_at hl 0 rfl) ?_
          refine lv_dup hx hb d_M_open_86 rfl ?_
          refine hp_get S hK hW (87) (by omega) rfl f_81 rfl in_kM 9 (by decide) (hts _ (List.mem_cons_of_mem _ tq_105)) rfl d_M_open_87 ?_
          refine lv_aload_n hx hb d_M_open_90 rfl (lv_at hl 0 rfl) ?_
          refine hp_get S hK hW (87) (by omega) rfl f_81 rfl in_kM 4 (by decide) (hts _ (List.mem_cons_of_mem _ tq_100)) rfl d_M_open_91 ?_
          refine lv_iload_n hx hb d_M_open_94 rfl (lv_at hl 1 rfl) ?_
          refine hp_iald S hK hW (90) (by omega) rfl f_84 (vp_in_nI hk (by omega)) d_M_open_95 ?_
          rw [show (sz ((nI k) : Int32).toNatClampNeg) = (nI (rt k).length) from (by rw [nI_clamp (by omega)]; exact hTk.1)]
          refine lv_iadd hx hb d_M_open_96 ?_
          rw [show ((nI me0) + (nI (rt k).length)) = (nI (me0 + (rt k).length)) from nI_add _ _]
          refine hp_put S hK hW (87) (by omega) rfl f_81 rfl in_kM tyok_M nm_M 9 (by decide) (hts _ (List.mem_cons_of_mem _ tq_105)) rfl rfl rfl (Nat.le_of_ble_eq_true rfl) d_M_open_97 (fun H locs hW => ?_)
          obtain ⟨F_91, eF_91⟩ : ∃ z, z = va_up F_80 (87) (.inr (kM, [.int tc, .ref (ad 88), .int (nI tape.length), .ref (ad 89), .ref (ad 90), .ref (ad 91), .ref (ad 92), .int (nI la.length), .int fp, .int (nI (me0 + (rt k).length)), .int (nI dp0), .int (nI stk.length), .ref (ad 93), .ref (ad 94), .int 0, .int (nI q0), .int ki, .int nu, .int be, .ref (ad 95), .int (nI mm.length)])) := ⟨_, rfl⟩
          replace hW : hp_W g z0 N ad F_91 s.heap H locs := by rw [eF_91]; exact hW
          have f_92 : F_91 (87) = .inr (kM, [.int tc, .ref (ad 88), .int (nI tape.length), .ref (ad 89), .ref (ad 90), .ref (ad 91), .ref (ad 92), .int (nI la.length), .int fp, .int (nI (me0 + (rt k).length)), .int (nI dp0), .int (nI stk.length), .ref (ad 93), .ref (ad 94), .int 0, .int (nI q0), .int ki, .int nu, .int be, .ref (ad 95), .int (nI mm.length)]) := by rw [eF_91, va_up_self]
          have f_93 : F_91 (88) = .inl (g.2 0, 200, .inl tp) := by rw [eF_91, va_up_ne _ _ (by omega)]; exact f_82
          have f_94 : F_91 (89) = .inl (g.2 2, 26, .inl hs) := by rw [eF_91, va_up_ne _ _ (by omega)]; exact f_83
          have f_95 : F_91 (90) = .inl (g.2 0, 26, .inl sz) := by rw [eF_91, va_up_ne _ _ (by omega)]; exact f_84
          have f_96 : F_91 (91) = .inl (g.2 0, 2600, .inl tx) := by rw [eF_91, va_up_ne _ _ (by omega)]; exact f_85
          have f_97 : F_91 (92) = .inl (g.2 0, 301, .inl vl) := by rw [eF_91, va_up_ne _ _ (by omega)]; exact f_86
          have f_98 : F_91 (93) = .inl (g.2 0, 28, .inl ey) := by rw [eF_91, va_up_ne _ _ (by omega)]; exact f_87
          have f_99 : F_91 (94) = .inl (g.2 0, 28, .inl (upd ap stk.length be)) := by rw [eF_91, va_up_ne _ _ (by omega)]; exact f_88
          have f_100 : F_91 (95) = .inl (g.2 0, 204, .inl md) := by rw [eF_91, va_up_ne _ _ (by omega)]; exact f_89
          have hf_101 : mFr F_80 F_91 := fun x hx => by rw [eF_91, va_up_ne _ _ (by omega)]
          refine lv_aload_n hx hb d_M_open_100 rfl (lv_at hl 0 rfl) ?_
          refine lv_dup hx hb d_M_open_101 rfl ?_
          refine hp_get S hK hW (87) (by omega) rfl f_92 rfl in_kM 11 (by decide) (hts _ (List.mem_cons_of_mem _ tq_107)) rfl d_M_open_102 ?_
          refine lv_iconst (v := 1) hx hb d_M_open_105 (by decide) ?_
          refine lv_iadd hx hb d_M_open_106 ?_
          rw [show ((nI stk.length) + 1) = (nI (stk.length + 1)) from (nI_succ _).symm]
          refine hp_put S hK hW (87) (by omega) rfl f_92 rfl in_kM tyok_M nm_M 11 (by decide) (hts _ (List.mem_cons_of_mem _ tq_107)) rfl rfl rfl (Nat.le_of_ble_eq_true rfl) d_M_open_107 (fun H locs hW => ?_)
          obtain ⟨F_102, eF_102⟩ : ∃ z, z = va_up F_91 (87) (.inr (kM, [.int tc, .ref (ad 88), .int (nI tape.length), .ref (ad 89), .ref (ad 90), .ref (ad 91), .ref (ad 92), .int (nI la.length), .int fp, .int (nI (me0 + (rt k).length)), .int (nI dp0), .int (nI (stk.length + 1)), .ref (ad 93), .ref (ad 94), .int 0, .int (nI q0), .int ki, .int nu, .int be, .ref (ad 95), .int (nI mm.length)])) := ⟨_, rfl⟩
          replace hW : hp_W g z0 N ad F_102 s.heap H locs := by rw [eF_102]; exact hW
          have f_103 : F_102 (87) = .inr (kM, [.int tc, .ref (ad 88), .int (nI tape.length), .ref (ad 89), .ref (ad 90), .ref (ad 91), .ref (ad 92), .int (nI la.length), .int fp, .int (nI (me0 + (rt k).length)), .int (nI dp0), .int (nI (stk.length + 1)), .ref (ad 93), .ref (ad 94), .int 0, .int (nI q0), .int ki, .int nu, .int be, .ref (ad 95), .int (nI mm.length)]) := by rw [eF_102, va_up_self]
          have f_104 : F_102 (88) = .inl (g.2 0, 200, .inl tp) := by rw [eF_102, va_up_ne _ _ (by omega)]; exact f_93
          have f_105 : F_102 (89) = .inl (g.2 2, 26, .inl hs) := by rw [eF_102, va_up_ne _ _ (by omega)]; exact f_94
          have f_106 : F_102 (90) = .inl (g.2 0, 26, .inl sz) := by rw [eF_102, va_up_ne _ _ (by omega)]; exact f_95
          have f_107 : F_102 (91) = .inl (g.2 0, 2600, .inl tx) := by rw [eF_102, va_up_ne _ _ (by omega)]; exact f_96
          have f_108 : F_102 (92) = .inl (g.2 0, 301, .inl vl) := by rw [eF_102, va_up_ne _ _ (by omega)]; exact f_97
          have f_109 : F_102 (93) = .inl (g.2 0, 28, .inl ey) := by rw [eF_102, va_up_ne _ _ (by omega)]; exact f_98
          have f_110 : F_102 (94) = .inl (g.2 0, 28, .inl (upd ap stk.length be)) := by rw [eF_102, va_up_ne _ _ (by omega)]; exact f_99
          have f_111 : F_102 (95) = .inl (g.2 0, 204, .inl md) := by rw [eF_102, va_up_ne _ _ (by omega)]; exact f_100
          have hf_112 : mFr F_91 F_102 := fun x hx => by rw [eF_102, va_up_ne _ _ (by omega)]
          refine lv_aload_n hx hb d_M_open_110 rfl (lv_at hl 0 rfl) ?_
          refine hp_get S hK hW (87) (by omega) rfl f_103 rfl in_kM 12 (by decide) (hts _ (List.mem_cons_of_mem _ tq_108)) rfl d_M_open_111 ?_
          refine lv_aload_n hx hb d_M_open_114 rfl (lv_at hl 0 rfl) ?_
          refine hp_get S hK hW (87) (by omega) rfl f_103 rfl in_kM 11 (by decide) (hts _ (List.mem_cons_of_mem _ tq_107)) rfl d_M_open_115 ?_
          refine lv_iload_n hx hb d_M_open_118 rfl (lv_at hl 1 rfl) ?_
          refine hp_iast S hK hW (93) (by omega) rfl f_109 (x := (nI k)) (vp_in_nI (by omega) (by omega)) d_M_open_119 (fun H locs hW => ?_)
          obtain ⟨F_113, eF_113⟩ : ∃ z, z = va_up F_102 (93) (.inl (g.2 0, 28, .inl (upd ey (stk.length + 1) (nI k)))) := ⟨_, rfl⟩
          rw [show (((nI (stk.length + 1)) : Int32).toNatClampNeg) = (stk.length + 1) from nI_clamp (by omega)] at hW
          replace hW : hp_W g z0 N ad F_113 s.heap H locs := by rw [eF_113]; exact hW
          have f_114 : F_113 (87) = .inr (kM, [.int tc, .ref (ad 88), .int (nI tape.length), .ref (ad 89), .ref (ad 90), .ref (ad 91), .ref (ad 92), .int (nI la.length), .int fp, .int (nI (me0 + (rt k).length)), .int (nI dp0), .int (nI (stk.length + 1)), .ref (ad 93), .ref (ad 94), .int 0, .int (nI q0), .int ki, .int nu, .int be, .ref (ad 95), .int (nI mm.length)]) := by rw [eF_113, va_up_ne _ _ (by omega)]; exact f_103
          have f_115 : F_113 (88) = .inl (g.2 0, 200, .inl tp) := by rw [eF_113, va_up_ne _ _ (by omega)]; exact f_104
          have f_116 : F_113 (89) = .inl (g.2 2, 26, .inl hs) := by rw [eF_113, va_up_ne _ _ (by omega)]; exact f_105
          have f_117 : F_113 (90) = .inl (g.2 0, 26, .inl sz) := by rw [eF_113, va_up_ne _ _ (by omega)]; exact f_106
          have f_118 : F_113 (91) = .inl (g.2 0, 2600, .inl tx) := by rw [eF_113, va_up_ne _ _ (by omega)]; exact f_107
          have f_119 : F_113 (92) = .inl (g.2 0, 301, .inl vl) := by rw [eF_113, va_up_ne _ _ (by omega)]; exact f_108
          have f_120 : F_113 (93) = .inl (g.2 0, 28, .inl (upd ey (stk.length + 1) (nI k))) := by rw [eF_113, va_up_self]
          have f_121 : F_113 (94) = .inl (g.2 0, 28, .inl (upd ap stk.length be)) := by rw [eF_113, va_up_ne _ _ (by omega)]; exact f_110
          have f_122 : F_113 (95) = .inl (g.2 0, 204, .inl md) := by rw [eF_113, va_up_ne _ _ (by omega)]; exact f_111
          have hf_123 : mFr F_102 F_113 := fun x hx => by rw [eF_113, va_up_ne _ _ (by omega)]
          refine lv_aload_n hx hb d_M_open_120 rfl (lv_at hl 0 rfl) ?_
          refine hp_get S hK hW (87) (by omega) rfl f_114 rfl in_kM 13 (by decide) (hts _ (List.mem_cons_of_mem _ tq_109)) rfl d_M_open_121 ?_
          refine lv_aload_n hx hb d_M_open_124 rfl (lv_at hl 0 rfl) ?_
          refine hp_get S hK hW (87) (by omega) rfl f_114 rfl in_kM 11 (by decide) (hts _ (List.mem_cons_of_mem _ tq_107)) rfl d_M_open_125 ?_
          refine lv_iconst (v := 0) hx hb d_M_open_128 (by decide) ?_
          refine hp_iast S hK hW (94) (by omega) rfl f_121 (x := 0) (vp_in_nI (by omega) (by omega)) d_M_open_129 (fun H locs hW => ?_)
          obtain ⟨F_124, eF_124⟩ : ∃ z, z = va_up F_113 (94) (.inl (g.2 0, 28, .inl (upd (upd ap stk.length be) (stk.length + 1) 0))) := ⟨_, rfl⟩
          rw [show (((nI (stk.length + 1)) : Int32).toNatClampNeg) = (stk.length + 1) from nI_clamp (by omega)] at hW
          replace hW : hp_W g z0 N ad F_124 s.heap H locs := by rw [eF_124]; exact hW
          have f_125 : F_124 (87) = .inr (kM, [.int tc, .ref (ad 88), .int (nI tape.length), .ref (ad 89), .ref (ad 90), .ref (ad 91), .ref (ad 92), .int (nI la.length), .int fp, .int (nI (me0 + (rt k).length)), .int (nI dp0), .int (nI (stk.length + 1)), .ref (ad 93), .ref (ad 94), .int 0, .int (nI q0), .int ki, .int nu, .int be, .ref (ad 95), .int (nI mm.length)]) := by rw [eF_124, va_up_ne _ _ (by omega)]; exact f_114
          have f_126 : F_124 (88) = .inl (g.2 0, 200, .inl tp) := by rw [eF_124, va_up_ne _ _ (by omega)]; exact f_115
          have f_127 : F_124 (89) = .inl (g.2 2, 26, .inl hs) := by rw [eF_124, va_up_ne _ _ (by omega)]; exact f_116
          have f_128 : F_124 (90) = .inl (g.2 0, 26, .inl sz) := by rw [eF_124, va_up_ne _ _ (by omega)]; exact f_117
          have f_129 : F_124 (91) = .inl (g.2 0, 2600, .inl tx) := by rw [eF_124, va_up_ne _ _ (by omega)]; exact f_118
          have f_130 : F_124 (92) = .inl (g.2 0, 301, .inl vl) := by rw [eF_124, va_up_ne _ _ (by omega)]; exact f_119
          have f_131 : F_124 (93) = .inl (g.2 0, 28, .inl (upd ey (stk.length + 1) (nI k))) := by rw [eF_124, va_up_ne _ _ (by omega)]; exact f_120
          have f_132 : F_124 (94) = .inl (g.2 0, 28, .inl (upd (upd ap stk.length be) (stk.length + 1) 0)) := by rw [eF_124, va_up_self]
          have f_133 : F_124 (95) = .inl (g.2 0, 204, .inl md) := by rw [eF_124, va_up_ne _ _ (by omega)]; exact f_122
          have hf_134 : mFr F_113 F_124 := fun x hx => by rw [eF_124, va_up_ne _ _ (by omega)]
          refine lv_aload_n hx hb d_M_open_130 rfl (lv_at hl 0 rfl) ?_
          refine hp_get S hK hW (87) (by omega) rfl f_125 rfl in_kM 11 (by decide) (hts _ (List.mem_cons_of_mem _ tq_107)) rfl d_M_open_131 ?_
          refine lv_aload_n hx hb d_M_open_134 rfl (lv_at hl 0 rfl) ?_
          refine hp_get S hK hW (87) (by omega) rfl f_125 rfl in_kM 10 (by decide) (hts _ (List.mem_cons_of_mem _ tq_106)) rfl d_M_open_135 ?_
          refine lv_icmp_le (tgt := 149) hx hb d_M_open_138 (by decide) (fun c_138 => ?_) (fun c_138 => ?_)
          · have c_138i := c_138
            replace c_138 : (stk.length + 1) ≤ dp0 := (nI_leI (a := (stk.length + 1)) (b := dp0) (by omega) (by omega)).mp c_138
            exact hp_retv S hK hW hr hlk d_M_open_149 (by rw [hO]; refine ⟨?_, (((((hf_79.tr hf_90).tr hf_101).tr hf_112).tr hf_123).tr hf_134)⟩; rw [if_pos rfl, if_pos c_64, Nat.max_eq_left (by omega)]; exact ⟨tp, hs, sz, tx, vl, ((upd ey (stk.length + 1) (nI k))), md, ⟨f_125, f_126, f_127, f_128, f_129, f_130, f_131, f_132, f_133⟩, ⟨htl, htp⟩, hT, ⟨hll, hvl⟩, mK_push hKs hk hkn hpg, hml0, hmd⟩)
          · have c_138i := c_138
            replace c_138 : ¬ (stk.length + 1) ≤ dp0 := fun zz9 => c_138 ((nI_leI (a := (stk.length + 1)) (b := dp0) (by omega) (by omega)).mpr zz9)
            refine lv_aload_n hx hb d_M_open_141 rfl (lv_at hl 0 rfl) ?_
            refine lv_aload_n hx hb d_M_open_142 rfl (lv_at hl 0 rfl) ?_
            refine hp_get S hK hW (87) (by omega) rfl f_125 rfl in_kM 11 (by decide) (hts _ (List.mem_cons_of_mem _ tq_107)) rfl d_M_open_143 ?_
            refine hp_put S hK hW (87) (by omega) rfl f_125 rfl in_kM tyok_M nm_M 10 (by decide) (hts _ (List.mem_cons_of_mem _ tq_106)) rfl rfl rfl (Nat.le_of_ble_eq_true rfl) d_M_open_146 (fun H locs hW => ?_)
            obtain ⟨F_135, eF_135⟩ : ∃ z, z = va_up F_124 (87) (.inr (kM, [.int tc, .ref (ad 88), .int (nI tape.length), .ref (ad 89), .ref (ad 90), .ref (ad 91), .ref (ad 92), .int (nI la.length), .int fp, .int (nI (me0 + (rt k).length)), .int (nI (stk.length + 1)), .int (nI (stk.length + 1)), .ref (ad 93), .ref (ad 94), .int 0, .int (nI q0), .int ki, .int nu, .int be, .ref (ad 95), .int (nI mm.length)])) := ⟨_, rfl⟩
            replace hW : hp_W g z0 N ad F_135 s.heap H locs := by rw [eF_135]; exact hW
            have f_136 : F_135 (87) = .inr (kM, [.int tc, .ref (ad 88), .int (nI tape.length), .ref (ad 89), .ref (ad 90), .ref (ad 91), .ref (ad 92), .int (nI la.length), .int fp, .int (nI (me0 + (rt k).length)), .int (nI (stk.length + 1)), .int (nI (stk.length + 1)), .ref (ad 93), .ref (ad 94), .int 0, .int (nI q0), .int ki, .int nu, .int be, .ref (ad 95), .int (nI mm.length)]) := by rw [eF_135, va_up_self]
            have f_137 : F_135 (88) = .inl (g.2 0, 200, .inl tp) := by rw [eF_135, va_up_ne _ _ (by omega)]; exact f_126
            have f_138 : F_135 (89) = .inl (g.2 2, 26, .inl hs) := by rw [eF_135, va_up_ne _ _ (by omega)]; exact f_127
            have f_139 : F_135 (90) = .inl (g.2 0, 26, .inl sz) := by rw [eF_135, va_up_ne _ _ (by omega)]; exact f_128
            have f_140 : F_135 (91) = .inl (g.2 0, 2600, .inl tx) := by rw [eF_135, va_up_ne _ _ (by omega)]; exact f_129
            have f_141 : F_135 (92) = .inl (g.2 0, 301, .inl vl) := by rw [eF_135, va_up_ne _ _ (by omega)]; exact f_130
            have f_142 : F_135 (93) = .inl (g.2 0, 28, .inl (upd ey (stk.length + 1) (nI k))) := by rw [eF_135, va_up_ne _ _ (by omega)]; exact f_131
            have f_143 : F_135 (94) = .inl (g.2 0, 28, .inl (upd (upd ap stk.length be) (stk.length + 1) 0)) := by rw [eF_135, va_up_ne _ _ (by omega)]; exact f_132
            have f_144 : F_135 (95) = .inl (g.2 0, 204, .inl md) := by rw [eF_135, va_up_ne _ _ (by omega)]; exact f_133
            have hf_145 : mFr F_124 F_135 := fun x hx => by rw [eF_135, va_up_ne _ _ (by omega)]
            exact hp_retv S hK hW hr hlk d_M_open_149 (by rw [hO]; refine ⟨?_, ((((((hf_79.tr hf_90).tr hf_101).tr hf_112).tr hf_123).tr hf_134).tr hf_145)⟩; rw [if_pos rfl, if_pos c_64, Nat.max_eq_right (by omega)]; exact ⟨tp, hs, sz, tx, vl, ((upd ey (stk.length + 1) (nI k))), md, ⟨f_136, f_137, f_138, f_139, f_140, f_141, f_142, f_143, f_144⟩, ⟨htl, htp⟩, hT, ⟨hll, hvl⟩, mK_push hKs hk hkn hpg, hml0, hmd⟩)
      · have c_47i := c_47
        replace c_47 : ¬ (me0 + (rt k).length) ≤ lim := fun zz9 => c_47 ((nI_leI (a := (me0 + (rt k).length)) (b := lim) (by omega) (by omega)).mpr zz9)
        have hO : opf kn stk k (rt k).length me0 lim = 6 := (if_neg hkt).trans ((if_neg hns).trans (if_pos (by omega)))
        refine lv_aload_n hx hb d_M_open_50 rfl (lv_at hl 0 rfl) ?_
        refine lv_bipush (v := 6) hx hb d_M_open_51 (by decide) ?_
        refine lv_iload_n hx hb d_M_open_53 rfl (lv_at hl 2 rfl) ?_
        refine hp_gov hW (va_runV S (m_fails l g z0 N ad F hN tape kn rt la mm stk ap tc fp (nI me0) (nI dp0) 0 ou ki nu be hS 6 (nI q0)) (cwV 2 hts (tb_V cd_M_fails tq_121 tq_122 tq_123 tq_118) rfl rfl rfl hd_M_fails (rk_ok (by omega) (by omega))) (hp_preV hK hW (by omega) rfl hR.1 rfl) rfl rfl hl.1 rfl (lv_room (Nat.le_of_ble_eq_true rfl)) d_M_open_54 ⟨Nat.zero_le _, Nat.zero_le _⟩) (fun F_147 H locs hw hW => ?_)
        obtain ⟨hS1, hg1⟩ := hw
        obtain ⟨tp, hs, sz, tx, vl, ey, md, hR, ⟨htl, htp⟩, hT, ⟨hll, hvl⟩, hKs, hml0, hmd⟩ := id hS1
        refine lv_goto (tgt := 149) hx hb d_M_open_57 (by decide) ?_
        exact hp_retv S hK hW hr hlk d_M_open_149 (by rw [hO]; exact ⟨hS1, hg1⟩)
    · have c_23i := c_23
      have hkt : ¬ kn k = false := by rw [hkn]; exact fun z => by cases z
      have hO : opf kn stk k (rt k).length me0 lim = 3 := (if_neg hkt).trans (if_pos (of_decide_eq_true (b2_n0.mp c_23i)))
      refine lv_aload_n hx hb d_M_open_26 rfl (lv_at hl 0 rfl) ?_
      refine lv_iconst (v := 3) hx hb d_M_open_27 (by decide) ?_
      refine lv_iload_n hx hb d_M_open_28 rfl (lv_at hl 2 rfl) ?_
      refine hp_gov hW (va_runV S (m_fails l g z0 N ad F hN tape kn rt la mm stk ap tc fp (nI me0) (nI dp0) 0 ou ki nu be hS 3 (nI q0)) (cwV 2 hts (tb_V cd_M_fails tq_121 tq_122 tq_123 tq_118) rfl rfl rfl hd_M_fails (rk_ok (by omega) (by omega))) (hp_preV hK hW (by omega) rfl hR.1 rfl) rfl rfl hl.1 rfl (lv_room (Nat.le_of_ble_eq_true rfl)) d_M_open_29 ⟨Nat.zero_le _, Nat.zero_le _⟩) (fun F_149 H locs hw hW => ?_)
      obtain ⟨hS1, hg1⟩ := hw
      obtain ⟨tp, hs, sz, tx, vl, ey, md, hR, ⟨htl, htp⟩, hT, ⟨hll, hvl⟩, hKs, hml0, hmd⟩ := id hS1
      refine lv_goto (tgt := 149) hx hb d_M_open_32 (by decide) ?_
      exact hp_retv S hK hW hr hlk d_M_open_149 (by rw [hO]; exact ⟨hS1, hg1⟩)
  · have c_6i := c_6
    have hkn := b2_0.mp c_6i
    have hO : opf kn stk k (rt k).length me0 lim = 2 := if_pos hkn
    refine lv_aload_n hx hb d_M_open_9 rfl (lv_at hl 0 rfl) ?_
    refine lv_iconst (v := 2) hx hb d_M_open_10 (by decide) ?_
    refine lv_iload_n hx hb d_M_open_11 rfl (lv_at hl 2 rfl) ?_
    refine hp_gov hW (va_runV S (m_fails l g z0 N ad F hN tape kn rt la mm stk ap tc fp (nI me0) (nI dp0) 0 ou ki nu be hS 2 (nI q0)) (cwV 2 hts (tb_V cd_M_fails tq_121 tq_122 tq_123 tq_118) rfl rfl rfl hd_M_fails (rk_ok (by omega) (by omega))) (hp_preV hK hW (by omega) rfl hR.1 rfl) rfl rfl hl.1 rfl (lv_room (Nat.le_of_ble_eq_true rfl)) d_M_open_12 ⟨Nat.zero_le _, Nat.zero_le _⟩) (fun F_151 H locs hw hW => ?_)
    obtain ⟨hS1, hg1⟩ := hw
    obtain ⟨tp, hs, sz, tx, vl, ey, md, hR, ⟨htl, htp⟩, hT, ⟨hll, hvl⟩, hKs, hml0, hmd⟩ := id hS1
    refine lv_goto (tgt := 149) hx hb d_M_open_15 (by decide) ?_
    exact hp_retv S hK hW hr hlk d_M_open_149 (by rw [hO]; exact ⟨hS1, hg1⟩)
