/-! the reference: value, refused -/
set_option maxHeartbeats 400000 in
set_option maxRecDepth 100000 in
theorem m_value_out (l : Launch) (g : hp_G) (z0 N : Nat) (ad : Nat → Nat) (F : Nat → va_E) (hN : 96 ≤ N) (tape : List Int32) (kn : Nat → Bool) (rt : Nat → List Int32) (la mm : List Int32) (stk : List Nat) (ap : Nat → Int32) (tc fp me dp fa ou ki nu be : Int32) (hS : mS g ad F tape kn rt la mm stk ap tc fp me dp fa ou ki nu be) (mo li : Int32) (hno : mo < 0 ∨ 1 < mo ∨ li < 0 ∨ 100000 < li) : hp_Mi l g z0 N ad y_M_value ws_M_value (rk 4) [.ref (ad 87), .int mo, .int li] F (fun v F' => v = -10 ∧ mS g ad F' tape kn rt la mm stk ap 0 fp me dp fa ou ki nu be ∧ mFr F F') := by
  obtain ⟨tp, hs, sz, tx, vl, ey, md, hR, ⟨htl, htp⟩, hT, ⟨hll, hvl⟩, hKs, hml0, hmd⟩ := id hS
  refine hp_enter (cc := cc_M_value) (maxL := 4) (ret := (some .int)) (by decide) rfl (Nat.le_of_ble_eq_true rfl) ?_
  intro p e s m below meth c S hr hlk hnm hK hW ls hl
  have hl : lv_has ls 4 [(0, .ref (ad 87)), (1, .int mo), (2, .int li)] := hl
  obtain ⟨hx, hb, hml, hown, hts⟩ := id S
  have in_kM : ∀ w ∈ u_ws R_M T_M 21, w ∈ ws_M_value := fun w h => List.mem_cons_of_mem _ (in0_M w h)
  refine lv_aload_n hx hb d_M_value_0 rfl (lv_at hl 0 rfl) ?_
  refine lv_iconst (v := 0) hx hb d_M_value_1 (by decide) ?_
  refine hp_put S hK hW (87) (by omega) rfl hR.1 rfl in_kM tyok_M nm_M 0 (by decide) (hts _ (List.mem_cons_of_mem _ tq_96)) rfl rfl rfl (Nat.le_of_ble_eq_true rfl) d_M_value_2 (fun H locs hW => ?_)
  obtain ⟨F_1, eF_1⟩ : ∃ z, z = va_up F (87) (.inr (kM, [.int 0, .ref (ad 88), .int (nI tape.length), .ref (ad 89), .ref (ad 90), .ref (ad 91), .ref (ad 92), .int (nI la.length), .int fp, .int me, .int dp, .int (nI stk.length), .ref (ad 93), .ref (ad 94), .int fa, .int ou, .int ki, .int nu, .int be, .ref (ad 95), .int (nI mm.length)])) := ⟨_, rfl⟩
  replace hW : hp_W g z0 N ad F_1 s.heap H locs := by rw [eF_1]; exact hW
  have f_2 : F_1 (87) = .inr (kM, [.int 0, .ref (ad 88), .int (nI tape.length), .ref (ad 89), .ref (ad 90), .ref (ad 91), .ref (ad 92), .int (nI la.length), .int fp, .int me, .int dp, .int (nI stk.length), .ref (ad 93), .ref (ad 94), .int fa, .int ou, .int ki, .int nu, .int be, .ref (ad 95), .int (nI mm.length)]) := by rw [eF_1, va_up_self]
  have f_3 : F_1 (88) = .inl (g.2 0, 200, .inl tp) := by rw [eF_1, va_up_ne _ _ (by omega)]; exact hR.2.1
  have f_4 : F_1 (89) = .inl (g.2 2, 26, .inl hs) := by rw [eF_1, va_up_ne _ _ (by omega)]; exact hR.2.2.1
  have f_5 : F_1 (90) = .inl (g.2 0, 26, .inl sz) := by rw [eF_1, va_up_ne _ _ (by omega)]; exact hR.2.2.2.1
  have f_6 : F_1 (91) = .inl (g.2 0, 2600, .inl tx) := by rw [eF_1, va_up_ne _ _ (by omega)]; exact hR.2.2.2.2.1
  have f_7 : F_1 (92) = .inl (g.2 0, 301, .inl vl) := by rw [eF_1, va_up_ne _ _ (by omega)]; exact hR.2.2.2.2.2.1
  have f_8 : F_1 (93) = .inl (g.2 0, 28, .inl ey) := by rw [eF_1, va_up_ne _ _ (by omega)]; exact hR.2.2.2.2.2.2.1
  have f_9 : F_1 (94) = .inl (g.2 0, 28, .inl ap) := by rw [eF_1, va_up_ne _ _ (by omega)]; exact hR.2.2.2.2.2.2.2.1
  have f_10 : F_1 (95) = .inl (g.2 0, 204, .inl md) := by rw [eF_1, va_up_ne _ _ (by omega)]; exact hR.2.2.2.2.2.2.2.2
  have hf_11 : mFr F F_1 := fun x hx => by rw [eF_1, va_up_ne _ _ (by omega)]
  refine lv_iload_n hx hb d_M_value_5 rfl (lv_at hl 1 rfl) ?_
  refine lv_if_lt (tgt := 24) hx hb d_M_value_6 (by decide) (fun c_6 => ?_) (fun c_6 => ?_)
  · have c_6i := c_6
    have c_6j := Int32.not_le.mpr c_6
    refine lv_bipush (v := (-10)) hx hb d_M_value_24 (by decide) ?_
    exact hp_reti S hK hW hr hlk d_M_value_26 (⟨rfl, ⟨tp, hs, sz, tx, vl, ey, md, ⟨f_2, f_3, f_4, f_5, f_6, f_7, f_8, f_9, f_10⟩, ⟨htl, htp⟩, hT, ⟨hll, hvl⟩, hKs, hml0, hmd⟩, hf_11⟩)
  · have c_6i := c_6
    have c_6j := Int32.not_lt.mp c_6
    refine lv_iload_n hx hb d_M_value_9 rfl (lv_at hl 1 rfl) ?_
    refine lv_iconst (v := 1) hx hb d_M_value_10 (by decide) ?_
    refine lv_icmp_gt (tgt := 24) hx hb d_M_value_11 (by decide) (fun c_11 => ?_) (fun c_11 => ?_)
    · have c_11i := c_11
      have c_11j := Int32.not_le.mpr c_11
      refine lv_bipush (v := (-10)) hx hb d_M_value_24 (by decide) ?_
      exact hp_reti S hK hW hr hlk d_M_value_26 (⟨rfl, ⟨tp, hs, sz, tx, vl, ey, md, ⟨f_2, f_3, f_4, f_5, f_6, f_7, f_8, f_9, f_10⟩, ⟨htl, htp⟩, hT, ⟨hll, hvl⟩, hKs, hml0, hmd⟩, hf_11⟩)
    · have c_11i := c_11
      have c_11j := Int32.not_lt.mp c_11
      refine lv_iload_n hx hb d_M_value_14 rfl (lv_at hl 2 rfl) ?_
      refine lv_if_lt (tgt := 24) hx hb d_M_value_15 (by decide) (fun c_15 => ?_) (fun c_15 => ?_)
      · have c_15i := c_15
        have c_15j := Int32.not_le.mpr c_15
        refine lv_bipush (v := (-10)) hx hb d_M_value_24 (by decide) ?_
        exact hp_reti S hK hW hr hlk d_M_value_26 (⟨rfl, ⟨tp, hs, sz, tx, vl, ey, md, ⟨f_2, f_3, f_4, f_5, f_6, f_7, f_8, f_9, f_10⟩, ⟨htl, htp⟩, hT, ⟨hll, hvl⟩, hKs, hml0, hmd⟩, hf_11⟩)
      · have c_15i := c_15
        have c_15j := Int32.not_lt.mp c_15
        refine lv_iload_n hx hb d_M_value_18 rfl (lv_at hl 2 rfl) ?_
        refine lv_ldc (v := 100000) hx hb hown (hts _ (List.mem_cons_of_mem _ tq_152)) d_M_value_19 ?_
        refine lv_icmp_le (tgt := 27) hx hb d_M_value_21 (by decide) (fun c_21 => ?_) (fun c_21 => ?_)
        · have c_21i := c_21
          have c_21j := Int32.not_lt.mpr c_21
          exact absurd hno (by rintro (h | h | h | h); exact c_6i h; exact c_11i h; exact c_15i h; exact absurd c_21i (Int32.not_le.mpr h))
        · have c_21i := c_21
          have c_21j := Int32.not_le.mp c_21
          refine lv_bipush (v := (-10)) hx hb d_M_value_24 (by decide) ?_
          exact hp_reti S hK hW hr hlk d_M_value_26 (⟨rfl, ⟨tp, hs, sz, tx, vl, ey, md, ⟨f_2, f_3, f_4, f_5, f_6, f_7, f_8, f_9, f_10⟩, ⟨htl, htp⟩, hT, ⟨hll, hvl⟩, hKs, hml0, hmd⟩, hf_11⟩)

set_option maxHeartbeats 400000 in
set_option maxRecDepth 100000 in
theorem m_value_ok {p : Program} {e : Env} {s : State} {m : MethodId} {args : Array Value} {below : List Frame} {meth : Method} {c : Code} (l : Launch) (g : hp_G) (z0 N : Nat) (ad : Nat → Nat) (F : Nat → va_E) (hN : 96 ≤ N) (tape : List Int32) (kn : Nat → Bool) (rt : Nat → List Int32) (mm : List Int32) (m0 lim : Nat) (hm0 : m0 ≤ 1) (F1 : Nat → va_E) (hR0 : (md_rv (txR kn rt) lim 27 [] 0 tape ([], 0, 0)).2.1 = 0) (ap1 : Nat → Int32) (ou1 ki1 nu1 be1 : Int32) (i1 : Nat) (hi1a : i1 ≤ 300) (hi1 : ap1 0 = nI i1) (hi1c : tape.length ≤ i1) (hS : mS g ad F1 tape kn rt ((md_rv (txR kn rt) lim 27 [] 0 tape ([], 0, 0)).1.1) mm (([] : List Nat)) ap1 0 ((-1)) (nI (md_rv (txR kn rt) lim 27 [] 0 tape ([], 0, 0)).1.2.1) (nI (md_rv (txR kn rt) lim 27 [] 0 tape ([], 0, 0)).1.2.2) 0 ou1 ki1 nu1 be1) (hfr : mFr F F1) (S : CallFix p m c cc_M_value 4 s args ws_M_value R_M) (hr : meth.sig.returnType = (some .int)) (hlk : meth.locks = false) (hK : hp_K g s) (H : Heap) (locs : List Loc) (ls : Array Slot) (hW : hp_W g z0 N ad F1 s.heap H locs) (hl : lv_has ls 4 [(0, .ref (ad 87)), (1, .int (nI m0)), (2, .int (nI lim)), (3, .int 1)]) : W p l e (rk 4) s m args below meth c H locs 0 0 (MQ below (va_Qi (fun v F' => v = (if (md_rv (txR kn rt) lim 27 [] 0 tape ([], 0, 0)).2.1 = 0 then nI (if m0 = 1 then md_sq (md_rv (txR kn rt) lim 27 [] 0 tape ([], 0, 0)).1.1 else (md_rv (txR kn rt) lim 27 [] 0 tape ([], 0, 0)).1.1).length else -nI (md_rv (txR kn rt) lim 27 [] 0 tape ([], 0, 0)).2.1) ∧ (∃ (ap2 : Nat → Int32) (fa2 ou2 ki2 nu2 be2 : Int32), mS g ad F' [] kn rt (if (md_rv (txR kn rt) lim 27 [] 0 tape ([], 0, 0)).2.1 = 0 then if m0 = 1 then md_sq (md_rv (txR kn rt) lim 27 [] 0 tape ([], 0, 0)).1.1 else (md_rv (txR kn rt) lim 27 [] 0 tape ([], 0, 0)).1.1 else []) mm [] ap2 0 (pf (md_rv (txR kn rt) lim 27 [] 0 tape ([], 0, 0)).2.1 (-1) (nI (md_rv (txR kn rt) lim 27 [] 0 tape ([], 0, 0)).2.2)) (nI (md_rv (txR kn rt) lim 27 [] 0 tape ([], 0, 0)).1.2.1) (nI (md_rv (txR kn rt) lim 27 [] 0 tape ([], 0, 0)).1.2.2) fa2 ou2 ki2 nu2 be2) ∧ mFr F F') (hp_B g z0 N ad) (hp_A z0)) args s 0 0 (hp_A z0)) (F0 m 48 ls []) := by
  obtain ⟨hx, hb, hml, hown, hts⟩ := id S
  have in_kM : ∀ w ∈ u_ws R_M T_M 21, w ∈ ws_M_value := fun w h => List.mem_cons_of_mem _ (in0_M w h)
  have hcl := hS.cl
  have hsl := hS.sl
  have hok := ok_rv (tx := (txR kn rt)) (lim := lim) 27 [] 0 tape ([], 0, 0) rfl (Nat.zero_le _) (Nat.zero_le _)
  obtain ⟨tp, hs, sz, tx, vl, ey, md, hR, ⟨htl, htp⟩, hT, ⟨hll, hvl⟩, hKs, hml0, hmd⟩ := id hS
  refine lv_iload_n hx hb d_M_value_48 rfl (lv_at hl 3 rfl) ?_
  refine lv_if_eq (tgt := 108) hx hb d_M_value_49 (by decide) (fun c_49 => absurd c_49 (show ¬ ((1 : Int32) = 0) from by decide)) (fun c_49 => ?_)
  refine lv_aload_n hx hb d_M_value_52 rfl (lv_at hl 0 rfl) ?_
  refine hp_get S hK hW (87) (by omega) rfl hR.1 rfl in_kM 14 (by decide) (hts _ (List.mem_cons_of_mem _ tq_110)) rfl d_M_value_53 ?_
  refine lv_if_ne (tgt := 108) hx hb d_M_value_56 (by decide) (fun c_56 => absurd c_56 (show ¬ (¬ (0 : Int32) = 0) from fun z => z rfl)) (fun c_56 => ?_)
  refine lv_aload_n hx hb d_M_value_59 rfl (lv_at hl 0 rfl) ?_
  refine hp_get S hK hW (87) (by omega) rfl hR.1 rfl in_kM 13 (by decide) (hts _ (List.mem_cons_of_mem _ tq_109)) rfl d_M_value_60 ?_
  refine lv_aload_n hx hb d_M_value_63 rfl (lv_at hl 0 rfl) ?_
  refine hp_get S hK hW (87) (by omega) rfl hR.1 rfl in_kM 11 (by decide) (hts _ (List.mem_cons_of_mem _ tq_107)) rfl d_M_value_64 ?_
  refine hp_iald S hK hW (94) (by omega) rfl hR.2.2.2.2.2.2.2.1 (vp_in_nI (n := 0) (by omega) (by omega)) d_M_value_67 ?_
  rw [show (ap1 ((nI (([] : List Nat)).length) : Int32).toNatClampNeg) = (nI i1) from (by exact hi1)]
  refine lv_aload_n hx hb d_M_value_68 rfl (lv_at hl 0 rfl) ?_
  refine hp_goi hW (va_runV S (m_length l g z0 N ad F1 hN tape kn rt ((md_rv (txR kn rt) lim 27 [] 0 tape ([], 0, 0)).1.1) mm (([] : List Nat)) ap1 0 ((-1)) (nI (md_rv (txR kn rt) lim 27 [] 0 tape ([], 0, 0)).1.2.1) (nI (md_rv (txR kn rt) lim 27 [] 0 tape ([], 0, 0)).1.2.2) 0 ou1 ki1 nu1 be1 hS) (cwV 0 hts (tb_V cd_M_length tq_117 tq_119 tq_120 tq_118) rfl rfl rfl hd_M_length (rk_ok (by omega) (by omega))) (hp_preV hK hW (by omega) rfl hR.1 rfl) rfl rfl hl.1 rfl (lv_room (Nat.le_of_ble_eq_true rfl)) d_M_value_69 ⟨Nat.zero_le _, Nat.zero_le _⟩) (fun r_1 F_2 H locs hw hW => ?_)
  obtain ⟨hvq, hFq⟩ := hw
  rw [hFq] at hW
  rw [hvq]
  rw [show mC tape rt ([] : List Nat) = tape from rfl]
  refine lv_icmp_ge (tgt := 83) hx hb d_M_value_72 (by decide) (fun c_72 => ?_) (fun c_72 => absurd (show (nI tape.length) ≤ ((nI i1) : Int32) from nI_le hi1c (by omega)) c_72)
  refine lv_aload_n hx hb d_M_value_83 rfl (lv_at hl 0 rfl) ?_
  refine hp_get S hK hW (87) (by omega) rfl hR.1 rfl in_kM 11 (by decide) (hts _ (List.mem_cons_of_mem _ tq_107)) rfl d_M_value_84 ?_
  refine lv_if_le (tgt := 103) hx hb d_M_value_87 (by decide) (fun c_87 => ?_) (fun c_87 => absurd (show ((nI (([] : List Nat)).length) : Int32) ≤ 0 from by decide) c_87)
  refine lv_iconst (v := 0) hx hb d_M_value_103 (by decide) ?_
  refine lv_istore_n (lv' := [(3, .int 0), (0, .ref (ad 87)), (1, .int (nI m0)), (2, .int (nI lim))]) hx hb d_M_value_104 rfl hl (by decide) rfl (fun ls hl => ?_)
  refine lv_goto (tgt := 48) hx hb d_M_value_105 (by decide) ?_
  refine lv_iload_n hx hb d_M_value_48 rfl (lv_at hl 0 rfl) ?_
  refine lv_if_eq (tgt := 108) hx hb d_M_value_49 (by decide) (fun c_49 => ?_) (fun c_49 => absurd (show (0 : Int32) = 0 from by decide) c_49)
  refine lv_aload_n hx hb d_M_value_108 rfl (lv_at hl 1 rfl) ?_
  refine lv_iconst (v := 0) hx hb d_M_value_109 (by decide) ?_
  refine hp_put S hK hW (87) (by omega) rfl hR.1 rfl in_kM tyok_M nm_M 2 (by decide) (hts _ (List.mem_cons_of_mem _ tq_98)) rfl rfl rfl (Nat.le_of_ble_eq_true rfl) d_M_value_110 (fun H locs hW => ?_)
  obtain ⟨F_3, eF_3⟩ : ∃ z, z = va_up F1 (87) (.inr (kM, [.int 0, .ref (ad 88), .int 0, .ref (ad 89), .ref (ad 90), .ref (ad 91), .ref (ad 92), .int (nI ((md_rv (txR kn rt) lim 27 [] 0 tape ([], 0, 0)).1.1).length), .int ((-1)), .int (nI (md_rv (txR kn rt) lim 27 [] 0 tape ([], 0, 0)).1.2.1), .int (nI (md_rv (txR kn rt) lim 27 [] 0 tape ([], 0, 0)).1.2.2), .int (nI (([] : List Nat)).length), .ref (ad 93), .ref (ad 94), .int 0, .int ou1, .int ki1, .int nu1, .int be1, .ref (ad 95), .int (nI mm.length)])) := ⟨_, rfl⟩
  replace hW : hp_W g z0 N ad F_3 s.heap H locs := by rw [eF_3]; exact hW
  have f_4 : F_3 (87) = .inr (kM, [.int 0, .ref (ad 88), .int 0, .ref (ad 89), .ref (ad 90), .ref (ad 91), .ref (ad 92), .int (nI ((md_rv (txR kn rt) lim 27 [] 0 tape ([], 0, 0)).1.1).length), .int ((-1)), .int (nI (md_rv (txR kn rt) lim 27 [] 0 tape ([], 0, 0)).1.2.1), .int (nI (md_rv (txR kn rt) lim 27 [] 0 tape ([], 0, 0)).1.2.2), .int (nI (([] : List Nat)).length), .ref (ad 93), .ref (ad 94), .int 0, .int ou1, .int ki1, .int nu1, .int be1, .ref (ad 95), .int (nI mm.length)]) := by rw [eF_3, va_up_self]
  have f_5 : F_3 (88) = .inl (g.2 0, 200, .inl tp) := by rw [eF_3, va_up_ne _ _ (by omega)]; exact hR.2.1
  have f_6 : F_3 (89) = .inl (g.2 2, 26, .inl hs) := by rw [eF_3, va_up_ne _ _ (by omega)]; exact hR.2.2.1
  have f_7 : F_3 (90) = .inl (g.2 0, 26, .inl sz) := by rw [eF_3, va_up_ne _ _ (by omega)]; exact hR.2.2.2.1
  have f_8 : F_3 (91) = .inl (g.2 0, 2600, .inl tx) := by rw [eF_3, va_up_ne _ _ (by omega)]; exact hR.2.2.2.2.1
  have f_9 : F_3 (92) = .inl (g.2 0, 301, .inl vl) := by rw [eF_3, va_up_ne _ _ (by omega)]; exact hR.2.2.2.2.2.1
  have f_10 : F_3 (93) = .inl (g.2 0, 28, .inl ey) := by rw [eF_3, va_up_ne _ _ (by omega)]; exact hR.2.2.2.2.2.2.1
  have f_11 : F_3 (94) = .inl (g.2 0, 28, .inl ap1) := by rw [eF_3, va_up_ne _ _ (by omega)]; exact hR.2.2.2.2.2.2.2.1
  have f_12 : F_3 (95) = .inl (g.2 0, 204, .inl md) := by rw [eF_3, va_up_ne _ _ (by omega)]; exact hR.2.2.2.2.2.2.2.2
  have hf_13 : mFr F1 F_3 := fun x hx => by rw [eF_3, va_up_ne _ _ (by omega)]
  refine lv_aload_n hx hb d_M_value_113 rfl (lv_at hl 1 rfl) ?_
  refine lv_iconst (v := 0) hx hb d_M_value_114 (by decide) ?_
  refine hp_put S hK hW (87) (by omega) rfl f_4 rfl in_kM tyok_M nm_M 11 (by decide) (hts _ (List.mem_cons_of_mem _ tq_107)) rfl rfl rfl (Nat.le_of_ble_eq_true rfl) d_M_value_115 (fun H locs hW => ?_)
  obtain ⟨F_14, eF_14⟩ : ∃ z, z = va_up F_3 (87) (.inr (kM, [.int 0, .ref (ad 88), .int 0, .ref (ad 89), .ref (ad 90), .ref (ad 91), .ref (ad 92), .int (nI ((md_rv (txR kn rt) lim 27 [] 0 tape ([], 0, 0)).1.1).length), .int ((-1)), .int (nI (md_rv (txR kn rt) lim 27 [] 0 tape ([], 0, 0)).1.2.1), .int (nI (md_rv (txR kn rt) lim 27 [] 0 tape ([], 0, 0)).1.2.2), .int 0, .ref (ad 93), .ref (ad 94), .int 0, .int ou1, .int ki1, .int nu1, .int be1, .ref (ad 95), .int (nI mm.length)])) := ⟨_, rfl⟩
  replace hW : hp_W g z0 N ad F_14 s.heap H locs := by rw [eF_14]; exact hW
  have f_15 : F_14 (87) = .inr (kM, [.int 0, .ref (ad 88), .int 0, .ref (ad 89), .ref (ad 90), .ref (ad 91), .ref (ad 92), .int (nI ((md_rv (txR kn rt) lim 27 [] 0 tape ([], 0, 0)).1.1).length), .int ((-1)), .int (nI (md_rv (txR kn rt) lim 27 [] 0 tape ([], 0, 0)).1.2.1), .int (nI (md_rv (txR kn rt) lim 27 [] 0 tape ([], 0, 0)).1.2.2), .int 0, .ref (ad 93), .ref (ad 94), .int 0, .int ou1, .int ki1, .int nu1, .int be1, .ref (ad 95), .int (nI mm.length)]) := by rw [eF_14, va_up_self]
  have f_16 : F_14 (88) = .inl (g.2 0, 200, .inl tp) := by rw [eF_14, va_up_ne _ _ (by omega)]; exact f_5
  have f_17 : F_14 (89) = .inl (g.2 2, 26, .inl hs) := by rw [eF_14, va_up_ne _ _ (by omega)]; exact f_6
  have f_18 : F_14 (90) = .inl (g.2 0, 26, .inl sz) := by rw [eF_14, va_up_ne _ _ (by omega)]; exact f_7
  have f_19 : F_14 (91) = .inl (g.2 0, 2600, .inl tx) := by rw [eF_14, va_up_ne _ _ (by omega)]; exact f_8
  have f_20 : F_14 (92) = .inl (g.2 0, 301, .inl vl) := by rw [eF_14, va_up_ne _ _ (by omega)]; exact f_9
  have f_21 : F_14 (93) = .inl (g.2 0, 28, .inl ey) := by rw [eF_14, va_up_ne _ _ (by omega)]; exact f_10
  have f_22 : F_14 (94) = .inl (g.2 0, 28, .inl ap1) := by rw [eF_14, va_up_ne _ _ (by omega)]; exact f_11
  have f_23 : F_14 (95) = .inl (g.2 0, 204, .inl md) := by rw [eF_14, va_up_ne _ _ (by omega)]; exact f_12
  have hf_24 : mFr F_3 F_14 := fun x hx => by rw [eF_14, va_up_ne _ _ (by omega)]
  refine lv_aload_n hx hb d_M_value_118 rfl (lv_at hl 1 rfl) ?_
  refine hp_get S hK hW (87) (by omega) rfl f_15 rfl in_kM 14 (by decide) (hts _ (List.mem_cons_of_mem _ tq_110)) rfl d_M_value_119 ?_
  refine lv_if_le (tgt := 136) hx hb d_M_value_122 (by decide) (fun c_122 => ?_) (fun c_122 => absurd (show (0 : Int32) ≤ 0 from by decide) c_122)
  refine lv_iload_n hx hb d_M_value_136 rfl (lv_at hl 2 rfl) ?_
  refine lv_iconst (v := 1) hx hb d_M_value_137 (by decide) ?_
  refine lv_icmp_ne (tgt := 145) hx hb d_M_value_138 (by decide) (fun c_138 => ?_) (fun c_138 => ?_)
  · have c_138i := c_138
    replace c_138 : ¬ m0 = 1 := fun zz9 => c_138 ((nI_eq (a := m0) (b := 1) (by omega) (by omega)).mpr zz9)
    refine lv_aload_n hx hb d_M_value_145 rfl (lv_at hl 1 rfl) ?_
    refine hp_get S hK hW (87) (by omega) rfl f_15 rfl in_kM 7 (by decide) (hts _ (List.mem_cons_of_mem _ tq_103)) rfl d_M_value_146 ?_
    have h0 := hR0
    exact hp_reti S hK hW hr hlk d_M_value_149 (by rw [if_pos h0, if_pos h0, if_neg c_138, pf_0 h0]; exact ⟨rfl, ⟨_, _, _, _, _, _, ⟨tp, hs, sz, tx, vl, ey, md, ⟨f_15, f_16, f_17, f_18, f_19, f_20, f_21, f_22, f_23⟩, ⟨Nat.zero_le _, mL_nil _ _⟩, hT, ⟨hll, hvl⟩, ⟨Nat.zero_le _, fun i h => absurd h (Nat.not_lt_zero _), fun k h => absurd h List.not_mem_nil⟩, hml0, hmd⟩⟩, hfr.tr (hf_13.tr hf_24)⟩)
  · have c_138i := c_138
    replace c_138 : m0 = 1 := (nI_eq (a := m0) (b := 1) (by omega) (by omega)).mp c_138
    refine lv_aload_n hx hb d_M_value_141 rfl (lv_at hl 1 rfl) ?_
    have hS2 : mS g ad F_14 (([] : List Int32)) kn rt ((md_rv (txR kn rt) lim 27 [] 0 tape ([], 0, 0)).1.1) mm (([] : List Nat)) ap1 0 ((-1)) (nI (md_rv (txR kn rt) lim 27 [] 0 tape ([], 0, 0)).1.2.1) (nI (md_rv (txR kn rt) lim 27 [] 0 tape ([], 0, 0)).1.2.2) 0 ou1 ki1 nu1 be1 := ⟨tp, hs, sz, tx, vl, ey, md, ⟨f_15, f_16, f_17, f_18, f_19, f_20, f_21, f_22, f_23⟩, ⟨Nat.zero_le _, mL_nil _ _⟩, hT, ⟨hll, hvl⟩, ⟨Nat.zero_le _, fun i h => absurd h (Nat.not_lt_zero _), fun k h => absurd h List.not_mem_nil⟩, hml0, hmd⟩
    refine hp_gov hW (va_runV S (m_trim l g z0 N ad F_14 hN (([] : List Int32)) kn rt ((md_rv (txR kn rt) lim 27 [] 0 tape ([], 0, 0)).1.1) mm (([] : List Nat)) ap1 0 ((-1)) (nI (md_rv (txR kn rt) lim 27 [] 0 tape ([], 0, 0)).1.2.1) (nI (md_rv (txR kn rt) lim 27 [] 0 tape ([], 0, 0)).1.2.2) 0 ou1 ki1 nu1 be1 hS2) (cwV 0 hts (tb_V cd_M_trim tq_156 tq_157 tq_158 tq_118) rfl rfl rfl hd_M_trim (rk_ok (by omega) (by omega))) (hp_preV hK hW (by omega) rfl f_15 rfl) rfl rfl hl.1 rfl (lv_room (Nat.le_of_ble_eq_true rfl)) d_M_value_142 ⟨Nat.zero_le _, Nat.zero_le _⟩) (fun F_26 H locs hw hW => ?_)
    obtain ⟨hS3, hg3⟩ := hw
    obtain ⟨tp, hs, sz, tx, vl, ey, md, hR, ⟨htl, htp⟩, hT, ⟨hll, hvl⟩, hKs, hml0, hmd⟩ := id hS3
    refine lv_aload_n hx hb d_M_value_145 rfl (lv_at hl 1 rfl) ?_
    refine hp_get S hK hW (87) (by omega) rfl hR.1 rfl in_kM 7 (by decide) (hts _ (List.mem_cons_of_mem _ tq_103)) rfl d_M_value_146 ?_
    have h0 := hR0
    exact hp_reti S hK hW hr hlk d_M_value_149 (by rw [if_pos h0, if_pos h0, if_pos c_138, pf_0 h0]; exact ⟨rfl, ⟨_, _, _, _, _, _, hS3⟩, hfr.tr ((hf_13.tr hf_24).tr hg3)⟩)

set_option maxHeartbeats 400000 in
set_option maxRecDepth 100000 in
theorem m_value_no {p : Program} {e : Env} {s : State} {m : MethodId} {args : Array Value} {below : List Frame} {meth : Method} {c : Code} (l : Launch) (g : hp_G) (z0 N : Nat) (ad : Nat → Nat) (F : Nat → va_E) (hN : 96 ≤ N) (tape : List Int32) (kn : Nat → Bool) (rt : Nat → List Int32) (mm : List Int32) (m0 lim : Nat) (hm0 : m0 ≤ 1) (F1 : Nat → va_E) (hR0 : ¬ (md_rv (txR kn rt) lim 27 [] 0 tape ([], 0, 0)).2.1 = 0) (stk1 : List Nat) (ap1 : Nat → Int32) (ou1 ki1 nu1 be1 : Int32) (hS : mS g ad F1 tape kn rt ((md_rv (txR kn rt) lim 27 [] 0 tape ([], 0, 0)).1.1) mm stk1 ap1 0 (nI (md_rv (txR kn rt) lim 27 [] 0 tape ([], 0, 0)).2.2) (nI (md_rv (txR kn rt) lim 27 [] 0 tape ([], 0, 0)).1.2.1) (nI (md_rv (txR kn rt) lim 27 [] 0 tape ([], 0, 0)).1.2.2) (nI (md_rv (txR kn rt) lim 27 [] 0 tape ([], 0, 0)).2.1) ou1 ki1 nu1 be1) (hfr : mFr F F1) (S : CallFix p m c cc_M_value 4 s args ws_M_value R_M) (hr : meth.sig.returnType = (some .int)) (hlk : meth.locks = false) (hK : hp_K g s) (H : Heap) (locs : List Loc) (ls : Array Slot) (hW : hp_W g z0 N ad F1 s.heap H locs) (hl : lv_has ls 4 [(0, .ref (ad 87)), (1, .int (nI m0)), (2, .int (nI lim)), (3, .int 1)]) : W p l e (rk 4) s m args below meth c H locs 0 0 (MQ below (va_Qi (fun v F' => v = (if (md_rv (txR kn rt) lim 27 [] 0 tape ([], 0, 0)).2.1 = 0 then nI (if m0 = 1 then md_sq (md_rv (txR kn rt) lim 27 [] 0 tape ([], 0, 0)).1.1 else (md_rv (txR kn rt) lim 27 [] 0 tape ([], 0, 0)).1.1).length else -nI (md_rv (txR kn rt) lim 27 [] 0 tape ([], 0, 0)).2.1) ∧ (∃ (ap2 : Nat → Int32) (fa2 ou2 ki2 nu2 be2 : Int32), mS g ad F' [] kn rt (if (md_rv (txR kn rt) lim 27 [] 0 tape ([], 0, 0)).2.1 = 0 then if m0 = 1 then md_sq (md_rv (txR kn rt) lim 27 [] 0 tape ([], 0, 0)).1.1 else (md_rv (txR kn rt) lim 27 [] 0 tape ([], 0, 0)).1.1 else []) mm [] ap2 0 (pf (md_rv (txR kn rt) lim 27 [] 0 tape ([], 0, 0)).2.1 (-1) (nI (md_rv (txR kn rt) lim 27 [] 0 tape ([], 0, 0)).2.2)) (nI (md_rv (txR kn rt) lim 27 [] 0 tape ([], 0, 0)).1.2.1) (nI (md_rv (txR kn rt) lim 27 [] 0 tape ([], 0, 0)).1.2.2) fa2 ou2 ki2 nu2 be2) ∧ mFr F F') (hp_B g z0 N ad) (hp_A z0)) args s 0 0 (hp_A z0)) (F0 m 48 ls []) := by
  obtain ⟨hx, hb, hml, hown, hts⟩ := id S
  have in_kM : ∀ w ∈ u_ws R_M T_M 21, w ∈ ws_M_value := fun w h => List.mem_cons_of_mem _ (in0_M w h)
  have hcl := hS.cl
  have hsl := hS.sl
  have hok := ok_rv (tx := (txR kn rt)) (lim := lim) 27 [] 0 tape ([], 0, 0) rfl (Nat.zero_le _) (Nat.zero_le _)
  obtain ⟨tp, hs, sz, tx, vl, ey, md, hR, ⟨htl, htp⟩, hT, ⟨hll, hvl⟩, hKs, hml0, hmd⟩ := id hS
  refine lv_iload_n hx hb d_M_value_48 rfl (lv_at hl 3 rfl) ?_
  refine lv_if_eq (tgt := 108) hx hb d_M_value_49 (by decide) (fun c_49 => absurd c_49 (show ¬ ((1 : Int32) = 0) from by decide)) (fun c_49 => ?_)
  refine lv_aload_n hx hb d_M_value_52 rfl (lv_at hl 0 rfl) ?_
  refine hp_get S hK hW (87) (by omega) rfl hR.1 rfl in_kM 14 (by decide) (hts _ (List.mem_cons_of_mem _ tq_110)) rfl d_M_value_53 ?_
  refine lv_if_ne (tgt := 108) hx hb d_M_value_56 (by decide) (fun c_56 => ?_) (fun c_56 => absurd c_56 (show ¬ ((nI (md_rv (txR kn rt) lim 27 [] 0 tape ([], 0, 0)).2.1) : Int32) = 0 from nI_ne0 (by omega) (by have := hok.1; omega)))
  refine lv_aload_n hx hb d_M_value_108 rfl (lv_at hl 0 rfl) ?_
  refine lv_iconst (v := 0) hx hb d_M_value_109 (by decide) ?_
  refine hp_put S hK hW (87) (by omega) rfl hR.1 rfl in_kM tyok_M nm_M 2 (by decide) (hts _ (List.mem_cons_of_mem _ tq_98)) rfl rfl rfl (Nat.le_of_ble_eq_true rfl) d_M_value_110 (fun H locs hW => ?_)
  obtain ⟨F_1, eF_1⟩ : ∃ z, z = va_up F1 (87) (.inr (kM, [.int 0, .ref (ad 88), .int 0, .ref (ad 89), .ref (ad 90), .ref (ad 91), .ref (ad 92), .int (nI ((md_rv (txR kn rt) lim 27 [] 0 tape ([], 0, 0)).1.1).length), .int (nI (md_rv (txR kn rt) lim 27 [] 0 tape ([], 0, 0)).2.2), .int (nI (md_rv (txR kn rt) lim 27 [] 0 tape ([], 0, 0)).1.2.1), .int (nI (md_rv (txR kn rt) lim 27 [] 0 tape ([], 0, 0)).1.2.2), .int (nI stk1.length), .ref (ad 93), .ref (ad 94), .int (nI (md_rv (txR kn rt) lim 27 [] 0 tape ([], 0, 0)).2.1), .int ou1, .int ki1, .int nu1, .int be1, .ref (ad 95), .int (nI mm.length)])) := ⟨_, rfl⟩
  replace hW : hp_W g z0 N ad F_1 s.heap H locs := by rw [eF_1]; exact hW
  have f_2 : F_1 (87) = .inr (kM, [.int 0, .ref (ad 88), .int 0, .ref (ad 89), .ref (ad 90), .ref (ad 91), .ref (ad 92), .int (nI ((md_rv (txR kn rt) lim 27 [] 0 tape ([], 0, 0)).1.1).length), .int (nI (md_rv (txR kn rt) lim 27 [] 0 tape ([], 0, 0)).2.2), .int (nI (md_rv (txR kn rt) lim 27 [] 0 tape ([], 0, 0)).1.2.1), .int (nI (md_rv (txR kn rt) lim 27 [] 0 tape ([], 0, 0)).1.2.2), .int (nI stk1.length), .ref (ad 93), .ref (ad 94), .int (nI (md_rv (txR kn rt) lim 27 [] 0 tape ([], 0, 0)).2.1), .int ou1, .int ki1, .int nu1, .int be1, .ref (ad 95), .int (nI mm.length)]) := by rw [eF_1, va_up_self]
  have f_3 : F_1 (88) = .inl (g.2 0, 200, .inl tp) := by rw [eF_1, va_up_ne _ _ (by omega)]; exact hR.2.1
  have f_4 : F_1 (89) = .inl (g.2 2, 26, .inl hs) := by rw [eF_1, va_up_ne _ _ (by omega)]; exact hR.2.2.1
  have f_5 : F_1 (90) = .inl (g.2 0, 26, .inl sz) := by rw [eF_1, va_up_ne _ _ (by omega)]; exact hR.2.2.2.1
  have f_6 : F_1 (91) = .inl (g.2 0, 2600, .inl tx) := by rw [eF_1, va_up_ne _ _ (by omega)]; exact hR.2.2.2.2.1
  have f_7 : F_1 (92) = .inl (g.2 0, 301, .inl vl) := by rw [eF_1, va_up_ne _ _ (by omega)]; exact hR.2.2.2.2.2.1
  have f_8 : F_1 (93) = .inl (g.2 0, 28, .inl ey) := by rw [eF_1, va_up_ne _ _ (by omega)]; exact hR.2.2.2.2.2.2.1
  have f_9 : F_1 (94) = .inl (g.2 0, 28, .inl ap1) := by rw [eF_1, va_up_ne _ _ (by omega)]; exact hR.2.2.2.2.2.2.2.1
  have f_10 : F_1 (95) = .inl (g.2 0, 204, .inl md) := by rw [eF_1, va_up_ne _ _ (by omega)]; exact hR.2.2.2.2.2.2.2.2
  have hf_11 : mFr F1 F_1 := fun x hx => by rw [eF_1, va_up_ne _ _ (by omega)]
  refine lv_aload_n hx hb d_M_value_113 rfl (lv_at hl 0 rfl) ?_
  refine lv_iconst (v := 0) hx hb d_M_value_114 (by decide) ?_
  refine hp_put S hK hW (87) (by omega) rfl f_2 rfl in_kM tyok_M nm_M 11 (by decide) (hts _ (List.mem_cons_of_mem _ tq_107)) rfl rfl rfl (Nat.le_of_ble_eq_true rfl) d_M_value_115 (fun H locs hW => ?_)
  obtain ⟨F_12, eF_12⟩ : ∃ z, z = va_up F_1 (87) (.inr (kM, [.int 0, .ref (ad 88), .int 0, .ref (ad 89), .ref (ad 90), .ref (ad 91), .ref (ad 92), .int (nI ((md_rv (txR kn rt) lim 27 [] 0 tape ([], 0, 0)).1.1).length), .int (nI (md_rv (txR kn rt) lim 27 [] 0 tape ([], 0, 0)).2.2), .int (nI (md_rv (txR kn rt) lim 27 [] 0 tape ([], 0, 0)).1.2.1), .int (nI (md_rv (txR kn rt) lim 27 [] 0 tape ([], 0, 0)).1.2.2), .int 0, .ref (ad 93), .ref (ad 94), .int (nI (md_rv (txR kn rt) lim 27 [] 0 tape ([], 0, 0)).2.1), .int ou1, .int ki1, .int nu1, .int be1, .ref (ad 95), .int (nI mm.length)])) := ⟨_, rfl⟩
  replace hW : hp_W g z0 N ad F_12 s.heap H locs := by rw [eF_12]; exact hW
  have f_13 : F_12 (87) = .inr (kM, [.int 0, .ref (ad 88), .int 0, .ref (ad 89), .ref (ad 90), .ref (ad 91), .ref (ad 92), .int (nI ((md_rv (txR kn rt) lim 27 [] 0 tape ([], 0, 0)).1.1).length), .int (nI (md_rv (txR kn rt) lim 27 [] 0 tape ([], 0, 0)).2.2), .int (nI (md_rv (txR kn rt) lim 27 [] 0 tape ([], 0, 0)).1.2.1), .int (nI (md_rv (txR kn rt) lim 27 [] 0 tape ([], 0, 0)).1.2.2), .int 0, .ref (ad 93), .ref (ad 94), .int (nI (md_rv (txR kn rt) lim 27 [] 0 tape ([], 0, 0)).2.1), .int ou1, .int ki1, .int nu1, .int be1, .ref (ad 95), .int (nI mm.length)]) := by rw [eF_12, va_up_self]
  have f_14 : F_12 (88) = .inl (g.2 0, 200, .inl tp) := by rw [eF_12, va_up_ne _ _ (by omega)]; exact f_3
  have f_15 : F_12 (89) = .inl (g.2 2, 26, .inl hs) := by rw [eF_12, va_up_ne _ _ (by omega)]; exact f_4
  have f_16 : F_12 (90) = .inl (g.2 0, 26, .inl sz) := by rw [eF_12, va_up_ne _ _ (by omega)]; exact f_5
  have f_17 : F_12 (91) = .inl (g.2 0, 2600, .inl tx) := by rw [eF_12, va_up_ne _ _ (by omega)]; exact f_6
  have f_18 : F_12 (92) = .inl (g.2 0, 301, .inl vl) := by rw [eF_12, va_up_ne _ _ (by omega)]; exact f_7
  have f_19 : F_12 (93) = .inl (g.2 0, 28, .inl ey) := by rw [eF_12, va_up_ne _ _ (by omega)]; exact f_8
  have f_20 : F_12 (94) = .inl (g.2 0, 28, .inl ap1) := by rw [eF_12, va_up_ne _ _ (by omega)]; exact f_9
  have f_21 : F_12 (95) = .inl (g.2 0, 204, .inl md) := by rw [eF_12, va_up_ne _ _ (by omega)]; exact f_10
  have hf_22 : mFr F_1 F_12 := fun x hx => by rw [eF_12, va_up_ne _ _ (by omega)]
  refine lv_aload_n hx hb d_M_value_118 rfl (lv_at hl 0 rfl) ?_
  refine hp_get S hK hW (87) (by omega) rfl f_13 rfl in_kM 14 (by decide) (hts _ (List.mem_cons_of_mem _ tq_110)) rfl d_M_value_119 ?_
  refine lv_if_le (tgt := 136) hx hb d_M_value_122 (by decide) (fun c_122 => absurd c_122 (show ¬ (((nI (md_rv (txR kn rt) lim 27 [] 0 tape ([], 0, 0)).2.1) : Int32) ≤ 0) from nI_nle (by omega) (by have := hok.1; omega))) (fun c_122 => ?_)
  refine lv_aload_n hx hb d_M_value_125 rfl (lv_at hl 0 rfl) ?_
  refine lv_iconst (v := 0) hx hb d_M_value_126 (by decide) ?_
  refine hp_put S hK hW (87) (by omega) rfl f_13 rfl in_kM tyok_M nm_M 7 (by decide) (hts _ (List.mem_cons_of_mem _ tq_103)) rfl rfl rfl (Nat.le_of_ble_eq_true rfl) d_M_value_127 (fun H locs hW => ?_)
  obtain ⟨F_23, eF_23⟩ : ∃ z, z = va_up F_12 (87) (.inr (kM, [.int 0, .ref (ad 88), .int 0, .ref (ad 89), .ref (ad 90), .ref (ad 91), .ref (ad 92), .int 0, .int (nI (md_rv (txR kn rt) lim 27 [] 0 tape ([], 0, 0)).2.2), .int (nI (md_rv (txR kn rt) lim 27 [] 0 tape ([], 0, 0)).1.2.1), .int (nI (md_rv (txR kn rt) lim 27 [] 0 tape ([], 0, 0)).1.2.2), .int 0, .ref (ad 93), .ref (ad 94), .int (nI (md_rv (txR kn rt) lim 27 [] 0 tape ([], 0, 0)).2.1), .int ou1, .int ki1, .int nu1, .int be1, .ref (ad 95), .int (nI mm.length)])) := ⟨_, rfl⟩
  replace hW : hp_W g z0 N ad F_23 s.heap H locs := by rw [eF_23]; exact hW
  have f_24 : F_23 (87) = .inr (kM, [.int 0, .ref (ad 88), .int 0, .ref (ad 89), .ref (ad 90), .ref (ad 91), .ref (ad 92), .int 0, .int (nI (md_rv (txR kn rt) lim 27 [] 0 tape ([], 0, 0)).2.2), .int (nI (md_rv (txR kn rt) lim 27 [] 0 tape ([], 0, 0)).1.2.1), .int (nI (md_rv (txR kn rt) lim 27 [] 0 tape ([], 0, 0)).1.2.2), .int 0, .ref (ad 93), .ref (ad 94), .int (nI (md_rv (txR kn rt) lim 27 [] 0 tape ([], 0, 0)).2.1), .int ou1, .int ki1, .int nu1, .int be1, .ref (ad 95), .int (nI mm.length)]) := by rw [eF_23, va_up_self]
  have f_25 : F_23 (88) = .inl (g.2 0, 200, .inl tp) := by rw [eF_23, va_up_ne _ _ (by omega)]; exact f_14
  have f_26 : F_23 (89) = .inl (g.2 2, 26, .inl hs) := by rw [eF_23, va_up_ne _ _ (by omega)]; exact f_15
  have f_27 : F_23 (90) = .inl (g.2 0, 26, .inl sz) := by rw [eF_23, va_up_ne _ _ (by omega)]; exact f_16
  have f_28 : F_23 (91) = .inl (g.2 0, 2600, .inl tx) := by rw [eF_23, va_up_ne _ _ (by omega)]; exact f_17
  have f_29 : F_23 (92) = .inl (g.2 0, 301, .inl vl) := by rw [eF_23, va_up_ne _ _ (by omega)]; exact f_18
  have f_30 : F_23 (93) = .inl (g.2 0, 28, .inl ey) := by rw [eF_23, va_up_ne _ _ (by omega)]; exact f_19
  have f_31 : F_23 (94) = .inl (g.2 0, 28, .inl ap1) := by rw [eF_23, va_up_ne _ _ (by omega)]; exact f_20
  have f_32 : F_23 (95) = .inl (g.2 0, 204, .inl md) := by rw [eF_23, va_up_ne _ _ (by omega)]; exact f_21
  have hf_33 : mFr F_12 F_23 := fun x hx => by rw [eF_23, va_up_ne _ _ (by omega)]
  refine lv_aload_n hx hb d_M_value_130 rfl (lv_at hl 0 rfl) ?_
  refine hp_get S hK hW (87) (by omega) rfl f_24 rfl in_kM 14 (by decide) (hts _ (List.mem_cons_of_mem _ tq_110)) rfl d_M_value_131 ?_
  refine lv_ineg hx hb d_M_value_134 ?_
  exact hp_reti S hK hW hr hlk d_M_value_135 (by rw [if_neg hR0, if_neg hR0, pf_n hR0]; exact ⟨rfl, ⟨_, _, _, _, _, _, ⟨tp, hs, sz, tx, vl, ey, md, ⟨f_24, f_25, f_26, f_27, f_28, f_29, f_30, f_31, f_32⟩, ⟨Nat.zero_le _, mL_nil _ _⟩, hT, ⟨Nat.zero_le _, mL_nil _ _⟩, ⟨Nat.zero_le _, fun i h => absurd h (Nat.not_lt_zero _), fun k h => absurd h List.not_mem_nil⟩, hml0, hmd⟩⟩, hfr.tr ((hf_11.tr hf_22).tr hf_33)⟩)

/-! the reference: value -/
set_option maxHeartbeats 400000 in
set_option maxRecDepth 100000 in
theorem m_value_in (l : Launch) (g : hp_G) (z0 N : Nat) (ad : Nat → Nat) (F : Nat → va_E) (hN : 96 ≤ N) (tape : List Int32) (kn : Nat → Bool) (rt : Nat → List Int32) (la mm : List Int32) (stk : List Nat) (ap : Nat → Int32) (tc fp me dp fa ou ki nu be : Int32) (hS : mS g ad F tape kn rt la mm stk ap tc fp me dp fa ou ki nu be) (m0 lim : Nat) (hm0 : m0 ≤ 1) (hlim : lim ≤ 100000) : hp_Mi l g z0 N ad y_M_value ws_M_value (rk 4) [.ref (ad 87), .int (nI m0), .int (nI lim)] F (fun v F' => v = (if (md_rv (txR kn rt) lim 27 [] 0 tape ([], 0, 0)).2.1 = 0 then nI (if m0 = 1 then md_sq (md_rv (txR kn rt) lim 27 [] 0 tape ([], 0, 0)).1.1 else (md_rv (txR kn rt) lim 27 [] 0 tape ([], 0, 0)).1.1).length else -nI (md_rv (txR kn rt) lim 27 [] 0 tape ([], 0, 0)).2.1) ∧ (∃ (ap2 : Nat → Int32) (fa2 ou2 ki2 nu2 be2 : Int32), mS g ad F' [] kn rt (if (md_rv (txR kn rt) lim 27 [] 0 tape ([], 0, 0)).2.1 = 0 then if m0 = 1 then md_sq (md_rv (txR kn rt) lim 27 [] 0 tape ([], 0, 0)).1.1 else (md_rv (txR kn rt) lim 27 [] 0 tape ([], 0, 0)).1.1 else []) mm [] ap2 0 (pf (md_rv (txR kn rt) lim 27 [] 0 tape ([], 0, 0)).2.1 (-1) (nI (md_rv (txR kn rt) lim 27 [] 0 tape ([], 0, 0)).2.2)) (nI (md_rv (txR kn rt) lim 27 [] 0 tape ([], 0, 0)).1.2.1) (nI (md_rv (txR kn rt) lim 27 [] 0 tape ([], 0, 0)).1.2.2) fa2 ou2 ki2 nu2 be2) ∧ mFr F F') := by
  obtain ⟨tp, hs, sz, tx, vl, ey, md, hR, ⟨htl, htp⟩, hT, ⟨hll, hvl⟩, hKs, hml0, hmd⟩ := id hS
  refine hp_enter (cc := cc_M_value) (maxL := 4) (ret := (some .int)) (by decide) rfl (Nat.le_of_ble_eq_true rfl) ?_
  intro p e s m below meth c S hr hlk hnm hK hW ls hl
  have hl : lv_has ls 4 [(0, .ref (ad 87)), (1, .int (nI m0)), (2, .int (nI lim))] := hl
  obtain ⟨hx, hb, hml, hown, hts⟩ := id S
  have in_kM : ∀ w ∈ u_ws R_M T_M 21, w ∈ ws_M_value := fun w h => List.mem_cons_of_mem _ (in0_M w h)
  refine lv_aload_n hx hb d_M_value_0 rfl (lv_at hl 0 rfl) ?_
  refine lv_iconst (v := 0) hx hb d_M_value_1 (by decide) ?_
  refine hp_put S hK hW (87) (by omega) rfl hR.1 rfl in_kM tyok_M nm_M 0 (by decide) (hts _ (List.mem_cons_of_mem _ tq_96)) rfl rfl rfl (Nat.le_of_ble_eq_true rfl) d_M_value_2 (fun H locs hW => ?_)
  obtain ⟨F_1, eF_1⟩ : ∃ z, z = va_up F (87) (.inr (kM, [.int 0, .ref (ad 88), .int (nI tape.length), .ref (ad 89), .ref (ad 90), .ref (ad 91), .ref (ad 92), .int (nI la.length), .int fp, .int me, .int dp, .int (nI stk.length), .ref (ad 93), .ref (ad 94), .int fa, .int ou, .int ki, .int nu, .int be, .ref (ad 95), .int (nI mm.length)])) := ⟨_, rfl⟩
  replace hW : hp_W g z0 N ad F_1 s.heap H locs := by rw [eF_1]; exact hW
  have f_2 : F_1 (87) = .inr (kM, [.int 0, .ref (ad 88), .int (nI tape.length), .ref (ad 89), .ref (ad 90), .ref (ad 91), .ref (ad 92), .int (nI la.length), .int fp, .int me, .int dp, .int (nI stk.length), .ref (ad 93), .ref (ad 94), .int fa, .int ou, .int ki, .int nu, .int be, .ref (ad 95), .int (nI mm.length)]) := by rw [eF_1, va_up_self]
  have f_3 : F_1 (88) = .inl (g.2 0, 200, .inl tp) := by rw [eF_1, va_up_ne _ _ (by omega)]; exact hR.2.1
  have f_4 : F_1 (89) = .inl (g.2 2, 26, .inl hs) := by rw [eF_1, va_up_ne _ _ (by omega)]; exact hR.2.2.1
  have f_5 : F_1 (90) = .inl (g.2 0, 26, .inl sz) := by rw [eF_1, va_up_ne _ _ (by omega)]; exact hR.2.2.2.1
  have f_6 : F_1 (91) = .inl (g.2 0, 2600, .inl tx) := by rw [eF_1, va_up_ne _ _ (by omega)]; exact hR.2.2.2.2.1
  have f_7 : F_1 (92) = .inl (g.2 0, 301, .inl vl) := by rw [eF_1, va_up_ne _ _ (by omega)]; exact hR.2.2.2.2.2.1
  have f_8 : F_1 (93) = .inl (g.2 0, 28, .inl ey) := by rw [eF_1, va_up_ne _ _ (by omega)]; exact hR.2.2.2.2.2.2.1
  have f_9 : F_1 (94) = .inl (g.2 0, 28, .inl ap) := by rw [eF_1, va_up_ne _ _ (by omega)]; exact hR.2.2.2.2.2.2.2.1
  have f_10 : F_1 (95) = .inl (g.2 0, 204, .inl md) := by rw [eF_1, va_up_ne _ _ (by omega)]; exact hR.2.2.2.2.2.2.2.2
  have hf_11 : mFr F F_1 := fun x hx => by rw [eF_1, va_up_ne _ _ (by omega)]
  refine lv_iload_n hx hb d_M_value_5 rfl (lv_at hl 1 rfl) ?_
  refine lv_if_lt (tgt := 24) hx hb d_M_value_6 (by decide) (fun c_6 => absurd c_6 (show ¬ (((nI m0) : Int32) < 0) from nI_pos (by omega))) (fun c_6 => ?_)
  refine lv_iload_n hx hb d_M_value_9 rfl (lv_at hl 1 rfl) ?_
  refine lv_iconst (v := 1) hx hb d_M_value_10 (by decide) ?_
  refine lv_icmp_gt (tgt := 24) hx hb d_M_value_11 (by decide) (fun c_11 => absurd c_11 (show ¬ (1 < ((nI m0) : Int32)) from nI_nlt (a := 1) hm0 (by omega))) (fun c_11 => ?_)
  refine lv_iload_n hx hb d_M_value_14 rfl (lv_at hl 2 rfl) ?_
  refine lv_if_lt (tgt := 24) hx hb d_M_value_15 (by decide) (fun c_15 => absurd c_15 (show ¬ (((nI lim) : Int32) < 0) from nI_pos (by omega))) (fun c_15 => ?_)
  refine lv_iload_n hx hb d_M_value_18 rfl (lv_at hl 2 rfl) ?_
  refine lv_ldc (v := 100000) hx hb hown (hts _ (List.mem_cons_of_mem _ tq_152)) d_M_value_19 ?_
  refine lv_icmp_le (tgt := 27) hx hb d_M_value_21 (by decide) (fun c_21 => ?_) (fun c_21 => absurd (show ((nI lim) : Int32) ≤ 100000 from nI_le (b := 100000) hlim (by omega)) c_21)
  refine lv_aload_n hx hb d_M_value_27 rfl (lv_at hl 0 rfl) ?_
  have hSb : mS g ad F_1 tape kn rt la mm stk ap 0 fp me dp fa ou ki nu be := ⟨tp, hs, sz, tx, vl, ey, md, ⟨f_2, f_3, f_4, f_5, f_6, f_7, f_8, f_9, f_10⟩, ⟨htl, htp⟩, hT, ⟨hll, hvl⟩, hKs, hml0, hmd⟩
  refine hp_gov hW (va_runV S (m_begin l g z0 N ad F_1 hN tape kn rt la mm stk ap 0 fp me dp fa ou ki nu be hSb) (cwV 0 hts (tb_V cd_M_begin tq_146 tq_147 tq_148 tq_118) rfl rfl rfl hd_M_begin (rk_ok (by omega) (by omega))) (hp_preV hK hW (by omega) rfl f_2 rfl) rfl rfl hl.1 rfl (lv_room (Nat.le_of_ble_eq_true rfl)) d_M_value_28 ⟨Nat.zero_le _, Nat.zero_le _⟩) (fun F_13 H locs hw hW => ?_)
  obtain ⟨hS1, hg1⟩ := hw
  obtain ⟨tp, hs, sz, tx, vl, ey, md, hR, ⟨htl, htp⟩, hT, ⟨hll, hvl⟩, hKs, hml0, hmd⟩ := id hS1
  refine lv_aload_n hx hb d_M_value_31 rfl (lv_at hl 0 rfl) ?_
  refine lv_iconst (v := 0) hx hb d_M_value_32 (by decide) ?_
  refine hp_put S hK hW (87) (by omega) rfl hR.1 rfl in_kM tyok_M nm_M 7 (by decide) (hts _ (List.mem_cons_of_mem _ tq_103)) rfl rfl rfl (Nat.le_of_ble_eq_true rfl) d_M_value_33 (fun H locs hW => ?_)
  obtain ⟨F_14, eF_14⟩ : ∃ z, z = va_up F_13 (87) (.inr (kM, [.int 0, .ref (ad 88), .int (nI tape.length), .ref (ad 89), .ref (ad 90), .ref (ad 91), .ref (ad 92), .int 0, .int ((-1)), .int me, .int dp, .int (nI (([] : List Nat)).length), .ref (ad 93), .ref (ad 94), .int 0, .int ou, .int ki, .int nu, .int be, .ref (ad 95), .int (nI mm.length)])) := ⟨_, rfl⟩
  replace hW : hp_W g z0 N ad F_14 s.heap H locs := by rw [eF_14]; exact hW
  have f_15 : F_14 (87) = .inr (kM, [.int 0, .ref (ad 88), .int (nI tape.length), .ref (ad 89), .ref (ad 90), .ref (ad 91), .ref (ad 92), .int 0, .int ((-1)), .int me, .int dp, .int (nI (([] : List Nat)).length), .ref (ad 93), .ref (ad 94), .int 0, .int ou, .int ki, .int nu, .int be, .ref (ad 95), .int (nI mm.length)]) := by rw [eF_14, va_up_self]
  have f_16 : F_14 (88) = .inl (g.2 0, 200, .inl tp) := by rw [eF_14, va_up_ne _ _ (by omega)]; exact hR.2.1
  have f_17 : F_14 (89) = .inl (g.2 2, 26, .inl hs) := by rw [eF_14, va_up_ne _ _ (by omega)]; exact hR.2.2.1
  have f_18 : F_14 (90) = .inl (g.2 0, 26, .inl sz) := by rw [eF_14, va_up_ne _ _ (by omega)]; exact hR.2.2.2.1
  have f_19 : F_14 (91) = .inl (g.2 0, 2600, .inl tx) := by rw [eF_14, va_up_ne _ _ (by omega)]; exact hR.2.2.2.2.1
  have f_20 : F_14 (92) = .inl (g.2 0, 301, .inl vl) := by rw [eF_14, va_up_ne _ _ (by omega)]; exact hR.2.2.2.2.2.1
  have f_21 : F_14 (93) = .inl (g.2 0, 28, .inl ey) := by rw [eF_14, va_up_ne _ _ (by omega)]; exact hR.2.2.2.2.2.2.1
  have f_22 : F_14 (94) = .inl (g.2 0, 28, .inl (upd ap 0 0)) := by rw [eF_14, va_up_ne _ _ (by omega)]; exact hR.2.2.2.2.2.2.2.1
  have f_23 : F_14 (95) = .inl (g.2 0, 204, .inl md) := by rw [eF_14, va_up_ne _ _ (by omega)]; exact hR.2.2.2.2.2.2.2.2
  have hf_24 : mFr F_13 F_14 := fun x hx => by rw [eF_14, va_up_ne _ _ (by omega)]
  refine lv_aload_n hx hb d_M_value_36 rfl (lv_at hl 0 rfl) ?_
  refine lv_iconst (v := 0) hx hb d_M_value_37 (by decide) ?_
  refine hp_put S hK hW (87) (by omega) rfl f_15 rfl in_kM tyok_M nm_M 9 (by decide) (hts _ (List.mem_cons_of_mem _ tq_105)) rfl rfl rfl (Nat.le_of_ble_eq_true rfl) d_M_value_38 (fun H locs hW => ?_)
  obtain ⟨F_25, eF_25⟩ : ∃ z, z = va_up F_14 (87) (.inr (kM, [.int 0, .ref (ad 88), .int (nI tape.length), .ref (ad 89), .ref (ad 90), .ref (ad 91), .ref (ad 92), .int 0, .int ((-1)), .int 0, .int dp, .int (nI (([] : List Nat)).length), .ref (ad 93), .ref (ad 94), .int 0, .int ou, .int ki, .int nu, .int be, .ref (ad 95), .int (nI mm.length)])) := ⟨_, rfl⟩
  replace hW : hp_W g z0 N ad F_25 s.heap H locs := by rw [eF_25]; exact hW
  have f_26 : F_25 (87) = .inr (kM, [.int 0, .ref (ad 88), .int (nI tape.length), .ref (ad 89), .ref (ad 90), .ref (ad 91), .ref (ad 92), .int 0, .int ((-1)), .int 0, .int dp, .int (nI (([] : List Nat)).length), .ref (ad 93), .ref (ad 94), .int 0, .int ou, .int ki, .int nu, .int be, .ref (ad 95), .int (nI mm.length)]) := by rw [eF_25, va_up_self]
  have f_27 : F_25 (88) = .inl (g.2 0, 200, .inl tp) := by rw [eF_25, va_up_ne _ _ (by omega)]; exact f_16
  have f_28 : F_25 (89) = .inl (g.2 2, 26, .inl hs) := by rw [eF_25, va_up_ne _ _ (by omega)]; exact f_17
  have f_29 : F_25 (90) = .inl (g.2 0, 26, .inl sz) := by rw [eF_25, va_up_ne _ _ (by omega)]; exact f_18
  have f_30 : F_25 (91) = .inl (g.2 0, 2600, .inl tx) := by rw [eF_25, va_up_ne _ _ (by omega)]; exact f_19
  have f_31 : F_25 (92) = .inl (g.2 0, 301, .inl vl) := by rw [eF_25, va_up_ne _ _ (by omega)]; exact f_20
  have f_32 : F_25 (93) = .inl (g.2 0, 28, .inl ey) := by rw [eF_25, va_up_ne _ _ (by omega)]; exact f_21
  have f_33 : F_25 (94) = .inl (g.2 0, 28, .inl (upd ap 0 0)) := by rw [eF_25, va_up_ne _ _ (by omega)]; exact f_22
  have f_34 : F_25 (95) = .inl (g.2 0, 204, .inl md) := by rw [eF_25, va_up_ne _ _ (by omega)]; exact f_23
  have hf_35 : mFr F_14 F_25 := fun x hx => by rw [eF_25, va_up_ne _ _ (by omega)]
  refine lv_aload_n hx hb d_M_value_41 rfl (lv_at hl 0 rfl) ?_
  refine lv_iconst (v := 0) hx hb d_M_value_42 (by decide) ?_
  refine hp_put S hK hW (87) (by omega) rfl f_26 rfl in_kM tyok_M nm_M 10 (by decide) (hts _ (List.mem_cons_of_mem _ tq_106)) rfl rfl rfl (Nat.le_of_ble_eq_true rfl) d_M_value_43 (fun H locs hW => ?_)
  obtain ⟨F_36, eF_36⟩ : ∃ z, z = va_up F_25 (87) (.inr (kM, [.int 0, .ref (ad 88), .int (nI tape.length), .ref (ad 89), .ref (ad 90), .ref (ad 91), .ref (ad 92), .int 0, .int ((-1)), .int 0, .int 0, .int (nI (([] : List Nat)).length), .ref (ad 93), .ref (ad 94), .int 0, .int ou, .int ki, .int nu, .int be, .ref (ad 95), .int (nI mm.length)])) := ⟨_, rfl⟩
  replace hW : hp_W g z0 N ad F_36 s.heap H locs := by rw [eF_36]; exact hW
  have f_37 : F_36 (87) = .inr (kM, [.int 0, .ref (ad 88), .int (nI tape.length), .ref (ad 89), .ref (ad 90), .ref (ad 91), .ref (ad 92), .int 0, .int ((-1)), .int 0, .int 0, .int (nI (([] : List Nat)).length), .ref (ad 93), .ref (ad 94), .int 0, .int ou, .int ki, .int nu, .int be, .ref (ad 95), .int (nI mm.length)]) := by rw [eF_36, va_up_self]
  have f_38 : F_36 (88) = .inl (g.2 0, 200, .inl tp) := by rw [eF_36, va_up_ne _ _ (by omega)]; exact f_27
  have f_39 : F_36 (89) = .inl (g.2 2, 26, .inl hs) := by rw [eF_36, va_up_ne _ _ (by omega)]; exact f_28
  have f_40 : F_36 (90) = .inl (g.2 0, 26, .inl sz) := by rw [eF_36, va_up_ne _ _ (by omega)]; exact f_29
  have f_41 : F_36 (91) = .inl (g.2 0, 2600, .inl tx) := by rw [eF_36, va_up_ne _ _ (by omega)]; exact f_30
  have f_42 : F_36 (92) = .inl (g.2 0, 301, .inl vl) := by rw [eF_36, va_up_ne _ _ (by omega)]; exact f_31
  have f_43 : F_36 (93) = .inl (g.2 0, 28, .inl ey) := by rw [eF_36, va_up_ne _ _ (by omega)]; exact f_32
  have f_44 : F_36 (94) = .inl (g.2 0, 28, .inl (upd ap 0 0)) := by rw [eF_36, va_up_ne _ _ (by omega)]; exact f_33
  have f_45 : F_36 (95) = .inl (g.2 0, 204, .inl md) := by rw [eF_36, va_up_ne _ _ (by omega)]; exact f_34
  have hf_46 : mFr F_25 F_36 := fun x hx => by rw [eF_36, va_up_ne _ _ (by omega)]
  refine lv_iconst (v := 1) hx hb d_M_value_46 (by decide) ?_
  refine lv_istore_n (lv' := [(3, .int 1), (0, .ref (ad 87)), (1, .int (nI m0)), (2, .int (nI lim))]) hx hb d_M_value_47 rfl hl (by decide) rfl (fun ls hl => ?_)
  have hS2 : mS g ad F_36 tape kn rt [] mm [] (upd ap 0 0) 0 (-1) (nI 0) (nI 0) 0 ou ki nu be := ⟨tp, hs, sz, tx, vl, ey, md, ⟨f_37, f_38, f_39, f_40, f_41, f_42, f_43, f_44, f_45⟩, ⟨htl, htp⟩, hT, ⟨Nat.zero_le _, mL_nil _ _⟩, hKs, hml0, hmd⟩
  refine vl_all l g z0 N ad hN tape kn rt mm lim hlim _ F S hK 26 tape.length 0 0 0 0 [] [] (upd ap 0 0) (-1) ou ki nu be F_36 rfl List.nodup_nil (by omega) (by show tape.length ≤ 0 + tape.length; omega) (fun z => absurd rfl z) rfl (by omega) (by omega) hS2 ((((hf_11.tr hg1).tr hf_24).tr hf_35).tr hf_46) ?_ ?_ _ _ ls hW (lv_sub hl [1, 2, 3, 0] rfl)
  · intro F' ap' ou' ki nu be H locs ls hou' h0 hS3 hf3 hi3 ha5 hW hl
    obtain ⟨i1, h1, h2, h3⟩ := hi3
    exact m_value_ok l g z0 N ad F hN tape kn rt mm m0 lim hm0 F' h0 ap' ou' ki nu be i1 h1 h2 h3 hS3 hf3 S hr hlk hK H locs ls hW hl
  · intro F' stk' ap' ou' ki nu be H locs ls h0 hS3 hf3 hW hl
    exact m_value_no l g z0 N ad F hN tape kn rt mm m0 lim hm0 F' h0 stk' ap' ou' ki nu be hS3 hf3 S hr hlk hK H locs ls hW hl
