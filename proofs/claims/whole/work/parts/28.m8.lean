/-! the reference: count -/
set_option maxHeartbeats 400000 in
set_option maxRecDepth 100000 in
theorem m_count (l : Launch) (g : hp_G) (z0 N : Nat) (ad : Nat → Nat) (F : Nat → va_E) (hN : 96 ≤ N) (tape : List Int32) (kn : Nat → Bool) (rt : Nat → List Int32) (la mm : List Int32) (stk : List Nat) (ap : Nat → Int32) (tc fp me dp fa ou ki nu be : Int32) (hS : mS g ad F tape kn rt la mm stk ap tc fp me dp fa ou ki nu be) (x : Int32) : hp_Mi l g z0 N ad y_M_count ws_M_count (rk 1) [.ref (ad 87), .int x] F (fun v F' => v = (if x = 0 then nI tape.length else if x = 1 then nI (md_kn kn 26) else if x = 2 then nI la.length else if x = 3 then me else if x = 4 then dp else -1) ∧ mS g ad F' tape kn rt la mm stk ap 0 fp me dp fa ou ki nu be ∧ mFr F F') := by
  obtain ⟨tp, hs, sz, tx, vl, ey, md, hR, ⟨htl, htp⟩, hT, ⟨hll, hvl⟩, hKs, hml0, hmd⟩ := id hS
  refine hp_enter (cc := cc_M_count) (maxL := 2) (ret := (some .int)) (by decide) rfl (Nat.le_of_ble_eq_true rfl) ?_
  intro p e s m below meth c S hr hlk hnm hK hW ls hl
  have hl : lv_has ls 2 [(0, .ref (ad 87)), (1, .int x)] := hl
  obtain ⟨hx, hb, hml, hown, hts⟩ := id S
  have in_kM : ∀ w ∈ u_ws R_M T_M 21, w ∈ ws_M_count := fun w h => List.mem_cons_of_mem _ (in0_M w h)
  refine lv_aload_n hx hb d_M_count_0 rfl (lv_at hl 0 rfl) ?_
  refine lv_iconst (v := 0) hx hb d_M_count_1 (by decide) ?_
  refine hp_put S hK hW (87) (by omega) rfl hR.1 rfl in_kM tyok_M nm_M 0 (by decide) (hts _ (List.mem_cons_of_mem _ tq_96)) rfl rfl rfl (Nat.le_of_ble_eq_true rfl) d_M_count_2 (fun H locs hW => ?_)
  obtain ⟨F_1, eF_1⟩ : ∃ z, z = va_up F (87) (.inr (kM, [.int 0, .ref (ad 88), .int (nI tape.length), .ref (ad 89), .ref (ad 90), .ref (ad 91), .ref (ad 92), .int (nI la.length), .int fp, .int me, .int dp, .int (nI stk.length), .ref (ad 93), .ref (ad 94), .int fa, .int ou, .int ki, .int nu, .int be, .ref (ad 95), .int (nI mm.length)])) := ⟨_, rfl⟩
  replace hW : hp_W g z0 N ad F_1 s.heap H locs := by rw [eF_1]; exact hW
  have f_2 : F_1 (87) = .inr (kM, [.int 0, .ref (ad 88), .int (nI tape.length), .ref (ad 89), .ref (ad 90), .ref (ad 91), .ref (ad 92), .int (nI la.length), .int fp, .int me, .int dp, .int (nI stk.length), .ref (ad 93), .ref (ad 94), .int fa, .int ou, .int ki, .int nu, .int be, .ref (ad 95), .int (nI mm.length)]) := by rw [eF_1, va_up_self]
  have f_3 : F_1 (88) = .inl (g.2 0, 200, .inl tp) := by rw [eF_1, va_up_ne _ _ (by omega)]; exact hR.2.1
  have f_4 : F_1 (89) = .inl (g.2 2, 26, .inl hs) := by rw [eF_1, va_up_ne _ _ (by omega)]; exact hR.2.2.1
  have f_5 : F_1 (90) = .inl (g.2 0, 26, .inl sz) := by rw [eF_1, va_up_ne _ _ (by omega)]; exact hR.2.2.2.1
  have f_6 : F_1 (91) = .inl (g.2 0, 2600, .inl tx) := by rw [eF_1, va_up_ne _ _ (by omega)]; exact hR.2.2.2.2.1
  have f_7 : F_1 (92) = .inl (g.2 0, 301, .inl vl) := by rw [eF_1, va_up_ne _ _ (by omega)]; exact hR.2.2.2.2.2.1
  have f_8 : F_1 (93) = .inl (g.2 0, 28, .inl ey) := by rw [eF_1, va_up_ne _ _ (by omega)]; exact hR.2.2.2.2.2.2.1
  have f_9 : F_1 (94) = .inl (g.2 0, 28, .inl ap) := by rw [eF_1, va_up_ne _ _ (by omega)]; exact hR.2.2.2.2.2.2.2.1
  have f_10 : F_1 (95) = .inl (g.2 0, 204, .inl md) := by rw [eF_1, va_up_ne _ _ (by omega)]; exact hR.2.2.2.2.2.2.2.2
  have hf_11 : mFr F F_1 := fun x hx => by rw [eF_1, va_up_ne _ _ (by omega)]
  refine lv_iload_n hx hb d_M_count_5 rfl (lv_at hl 1 rfl) ?_
  refine lv_if_ne (tgt := 16) hx hb d_M_count_6 (by decide) (fun c_6 => ?_) (fun c_6 => ?_)
  · have c_6i := c_6
    refine lv_iload_n hx hb d_M_count_16 rfl (lv_at hl 1 rfl) ?_
    refine lv_iconst (v := 1) hx hb d_M_count_17 (by decide) ?_
    refine lv_icmp_ne (tgt := 28) hx hb d_M_count_18 (by decide) (fun c_18 => ?_) (fun c_18 => ?_)
    · have c_18i := c_18
      refine lv_iload_n hx hb d_M_count_28 rfl (lv_at hl 1 rfl) ?_
      refine lv_iconst (v := 2) hx hb d_M_count_29 (by decide) ?_
      refine lv_icmp_ne (tgt := 40) hx hb d_M_count_30 (by decide) (fun c_30 => ?_) (fun c_30 => ?_)
      · have c_30i := c_30
        refine lv_iload_n hx hb d_M_count_40 rfl (lv_at hl 1 rfl) ?_
        refine lv_iconst (v := 3) hx hb d_M_count_41 (by decide) ?_
        refine lv_icmp_ne (tgt := 52) hx hb d_M_count_42 (by decide) (fun c_42 => ?_) (fun c_42 => ?_)
        · have c_42i := c_42
          refine lv_iload_n hx hb d_M_count_52 rfl (lv_at hl 1 rfl) ?_
          refine lv_iconst (v := 4) hx hb d_M_count_53 (by decide) ?_
          refine lv_icmp_ne (tgt := 64) hx hb d_M_count_54 (by decide) (fun c_54 => ?_) (fun c_54 => ?_)
          · have c_54i := c_54
            refine lv_iconst (v := (-1)) hx hb d_M_count_64 (by decide) ?_
            exact hp_reti S hK hW hr hlk d_M_count_65 (⟨by rw [if_neg c_6i, if_neg c_18i, if_neg c_30i, if_neg c_42i, if_neg c_54i], ⟨tp, hs, sz, tx, vl, ey, md, ⟨f_2, f_3, f_4, f_5, f_6, f_7, f_8, f_9, f_10⟩, ⟨htl, htp⟩, hT, ⟨hll, hvl⟩, hKs, hml0, hmd⟩, hf_11⟩)
          · have c_54i := c_54
            refine lv_aload_n hx hb d_M_count_57 rfl (lv_at hl 0 rfl) ?_
            refine hp_get S hK hW (87) (by omega) rfl f_2 rfl in_kM 10 (by decide) (hts _ (List.mem_cons_of_mem _ tq_106)) rfl d_M_count_58 ?_
            refine lv_goto (tgt := 65) hx hb d_M_count_61 (by decide) ?_
            exact hp_reti S hK hW hr hlk d_M_count_65 (⟨by rw [if_neg c_6i, if_neg c_18i, if_neg c_30i, if_neg c_42i, if_pos c_54i], ⟨tp, hs, sz, tx, vl, ey, md, ⟨f_2, f_3, f_4, f_5, f_6, f_7, f_8, f_9, f_10⟩, ⟨htl, htp⟩, hT, ⟨hll, hvl⟩, hKs, hml0, hmd⟩, hf_11⟩)
        · have c_42i := c_42
          refine lv_aload_n hx hb d_M_count_45 rfl (lv_at hl 0 rfl) ?_
          refine hp_get S hK hW (87) (by omega) rfl f_2 rfl in_kM 9 (by decide) (hts _ (List.mem_cons_of_mem _ tq_105)) rfl d_M_count_46 ?_
          refine lv_goto (tgt := 65) hx hb d_M_count_49 (by decide) ?_
          exact hp_reti S hK hW hr hlk d_M_count_65 (⟨by rw [if_neg c_6i, if_neg c_18i, if_neg c_30i, if_pos c_42i], ⟨tp, hs, sz, tx, vl, ey, md, ⟨f_2, f_3, f_4, f_5, f_6, f_7, f_8, f_9, f_10⟩, ⟨htl, htp⟩, hT, ⟨hll, hvl⟩, hKs, hml0, hmd⟩, hf_11⟩)
      · have c_30i := c_30
        refine lv_aload_n hx hb d_M_count_33 rfl (lv_at hl 0 rfl) ?_
        refine hp_get S hK hW (87) (by omega) rfl f_2 rfl in_kM 7 (by decide) (hts _ (List.mem_cons_of_mem _ tq_103)) rfl d_M_count_34 ?_
        refine lv_goto (tgt := 65) hx hb d_M_count_37 (by decide) ?_
        exact hp_reti S hK hW hr hlk d_M_count_65 (⟨by rw [if_neg c_6i, if_neg c_18i, if_pos c_30i], ⟨tp, hs, sz, tx, vl, ey, md, ⟨f_2, f_3, f_4, f_5, f_6, f_7, f_8, f_9, f_10⟩, ⟨htl, htp⟩, hT, ⟨hll, hvl⟩, hKs, hml0, hmd⟩, hf_11⟩)
    · have c_18i := c_18
      refine lv_aload_n hx hb d_M_count_21 rfl (lv_at hl 0 rfl) ?_
      have hSk : mS g ad F_1 tape kn rt la mm stk ap 0 fp me dp fa ou ki nu be := ⟨tp, hs, sz, tx, vl, ey, md, ⟨f_2, f_3, f_4, f_5, f_6, f_7, f_8, f_9, f_10⟩, ⟨htl, htp⟩, hT, ⟨hll, hvl⟩, hKs, hml0, hmd⟩
      refine hp_goi hW (va_runV S (m_known l g z0 N ad F_1 hN tape kn rt la mm stk ap 0 fp me dp fa ou ki nu be hSk) (cwV 0 hts (tb_V cd_M_known tq_162 tq_163 tq_164 tq_118) rfl rfl rfl hd_M_known (rk_ok (by omega) (by omega))) (hp_preV hK hW (by omega) rfl f_2 rfl) rfl rfl hl.1 rfl (lv_room (Nat.le_of_ble_eq_true rfl)) d_M_count_22 ⟨Nat.zero_le _, Nat.zero_le _⟩) (fun r_12 F_13 H locs hw hW => ?_)
      obtain ⟨hvq, hFq⟩ := hw
      rw [hFq] at hW
      rw [hvq]
      refine lv_goto (tgt := 65) hx hb d_M_count_25 (by decide) ?_
      exact hp_reti S hK hW hr hlk d_M_count_65 (⟨by rw [if_neg c_6i, if_pos c_18i], ⟨tp, hs, sz, tx, vl, ey, md, ⟨f_2, f_3, f_4, f_5, f_6, f_7, f_8, f_9, f_10⟩, ⟨htl, htp⟩, hT, ⟨hll, hvl⟩, hKs, hml0, hmd⟩, hf_11⟩)
  · have c_6i := c_6
    refine lv_aload_n hx hb d_M_count_9 rfl (lv_at hl 0 rfl) ?_
    refine hp_get S hK hW (87) (by omega) rfl f_2 rfl in_kM 2 (by decide) (hts _ (List.mem_cons_of_mem _ tq_98)) rfl d_M_count_10 ?_
    refine lv_goto (tgt := 65) hx hb d_M_count_13 (by decide) ?_
    exact hp_reti S hK hW hr hlk d_M_count_65 (⟨by rw [if_pos c_6i], ⟨tp, hs, sz, tx, vl, ey, md, ⟨f_2, f_3, f_4, f_5, f_6, f_7, f_8, f_9, f_10⟩, ⟨htl, htp⟩, hT, ⟨hll, hvl⟩, hKs, hml0, hmd⟩, hf_11⟩)

/-- the reference's loop: from a state where the row of the last open entity is read from place i on, it comes to where that row is read, or to a fault -/
def VL (l : Launch) (p : Program) (e : Env) (s : State) (m : MethodId) (args : Array Value) (below : List Frame) (meth : Method) (c : Code) (Q : State → Prop) (g : hp_G) (z0 N : Nat) (ad : Nat → Nat) (tape : List Int32) (kn : Nat → Bool) (rt : Nat → List Int32) (mm : List Int32) (lim : Nat) (x1 : Int32) (Fz : Nat → va_E) (d : Nat) : Prop :=
  ∀ (n i oN me0 dp0 : Nat) (la : List Int32) (stk : List Nat) (ap : Nat → Int32) (fp ou ki nu be : Int32) (F : Nat → va_E), d + 1 + stk.length = 27 → stk.Nodup → i ≤ 300 → (mC tape rt stk).length ≤ i + n → (stk.length ≠ 0 → ou = nI oN) → ap stk.length = nI i → me0 ≤ lim → dp0 ≤ 27 → mS g ad F tape kn rt la mm stk ap 0 fp (nI me0) (nI dp0) 0 ou ki nu be → mFr Fz F →
    (∀ (F' : Nat → va_E) (ap' : Nat → Int32) (ou ki nu be : Int32) (H : Heap) (locs : List Loc) (ls : Array Slot), (stk.length ≠ 0 → ou = nI oN) → (md_lp (txR kn rt) lim (subd (txR kn rt) lim d stk) stk oN (mC tape rt stk) n i (la, me0, dp0)).2.1 = 0 → mS g ad F' tape kn rt (md_lp (txR kn rt) lim (subd (txR kn rt) lim d stk) stk oN (mC tape rt stk) n i (la, me0, dp0)).1.1 mm stk ap' 0 fp (nI (md_lp (txR kn rt) lim (subd (txR kn rt) lim d stk) stk oN (mC tape rt stk) n i (la, me0, dp0)).1.2.1) (nI (md_lp (txR kn rt) lim (subd (txR kn rt) lim d stk) stk oN (mC tape rt stk) n i (la, me0, dp0)).1.2.2) 0 ou ki nu be → mFr Fz F' → (∃ i' : Nat, i' ≤ 300 ∧ ap' stk.length = nI i' ∧ (mC tape rt stk).length ≤ i') → (∀ j, j < stk.length → ap' j = ap j) → hp_W g z0 N ad F' s.heap H locs → lv_has ls 4 [(0, .ref (ad 87)), (1, .int x1), (2, .int (nI lim)), (3, .int 1)] → W p l e (rk 4) s m args below meth c H locs 0 0 Q (F0 m 48 ls [])) →
    (∀ (F' : Nat → va_E) (stk' : List Nat) (ap' : Nat → Int32) (ou ki nu be : Int32) (H : Heap) (locs : List Loc) (ls : Array Slot), ¬ (md_lp (txR kn rt) lim (subd (txR kn rt) lim d stk) stk oN (mC tape rt stk) n i (la, me0, dp0)).2.1 = 0 → mS g ad F' tape kn rt (md_lp (txR kn rt) lim (subd (txR kn rt) lim d stk) stk oN (mC tape rt stk) n i (la, me0, dp0)).1.1 mm stk' ap' 0 (nI (md_lp (txR kn rt) lim (subd (txR kn rt) lim d stk) stk oN (mC tape rt stk) n i (la, me0, dp0)).2.2) (nI (md_lp (txR kn rt) lim (subd (txR kn rt) lim d stk) stk oN (mC tape rt stk) n i (la, me0, dp0)).1.2.1) (nI (md_lp (txR kn rt) lim (subd (txR kn rt) lim d stk) stk oN (mC tape rt stk) n i (la, me0, dp0)).1.2.2) (nI (md_lp (txR kn rt) lim (subd (txR kn rt) lim d stk) stk oN (mC tape rt stk) n i (la, me0, dp0)).2.1) ou ki nu be → mFr Fz F' → hp_W g z0 N ad F' s.heap H locs → lv_has ls 4 [(0, .ref (ad 87)), (1, .int x1), (2, .int (nI lim)), (3, .int 1)] → W p l e (rk 4) s m args below meth c H locs 0 0 Q (F0 m 48 ls [])) →
    ∀ (H : Heap) (locs : List Loc) (ls : Array Slot), hp_W g z0 N ad F s.heap H locs → lv_has ls 4 [(0, .ref (ad 87)), (1, .int x1), (2, .int (nI lim)), (3, .int 1)] → W p l e (rk 4) s m args below meth c H locs 0 0 Q (F0 m 48 ls [])
