set_option maxHeartbeats 400000 in
set_option maxRecDepth 100000 in
theorem lp_m_put {p : Program} {e : Env} {s : State} {m : MethodId} {args : Array Value} {below : List Frame} {meth : Method} {c : Code} (l : Launch) (g : hp_G) (z0 N : Nat) (ad : Nat → Nat) (Fz : Nat → va_E) (hN : 96 ≤ N) (kn : Nat → Bool) (rt : Nat → List Int32) (la mm : List Int32) (stk : List Nat) (ap : Nat → Int32) (fp me dp fa ou ki nu be : Int32) (v : Int64) (x3 : Int32) (ys : List Int32) (S : CallFix p m c cc_M_put 5 s args ws_M_put R_M) (hr : meth.sig.returnType = (some .boolean)) (hlk : meth.locks = false) (hK : hp_K g s) : ∀ (t : Nat) (F : Nat → va_E) (zs : List Int32), zs.length + t ≤ 200 → mS g ad F zs kn rt la mm stk ap 0 fp me dp fa ou ki nu be → zs ++ md_bytes v t = ys → mFr Fz F → ∀ (H : Heap) (locs : List Loc) (ls : Array Slot), hp_W g z0 N ad F s.heap H locs → lv_has ls 5 [(0, .ref (ad 87)), (1, .long v), (3, .int x3), (4, .int (nI t + (-1)))] → W p l e (rk 0) s m args below meth c H locs 0 0 (MQ below (va_Qi (fun b F' => b = 1 ∧ mS g ad F' ys kn rt la mm stk ap 0 fp me dp fa ou ki nu be ∧ mFr Fz F') (hp_B g z0 N ad) (hp_A z0)) args s 0 0 (hp_A z0)) (F0 m 35 ls []) := by
  obtain ⟨hx, hb, hml, hown, hts⟩ := id S
  have in_kM : ∀ w ∈ u_ws R_M T_M 21, w ∈ ws_M_put := fun w h => List.mem_cons_of_mem _ (in0_M w h)
  intro t
  induction t with
  | zero =>
    intro F zs hz hS hcat hfr H locs ls hW hl
    have hcat : zs = ys := by rw [← hcat]; simp [md_bytes]
    subst hcat
    refine lv_iload hx hb d_M_put_35 (lv_at hl 3 rfl) ?_
    refine lv_if_lt (tgt := 77) hx hb d_M_put_37 (by decide) (fun c_37 => ?_) (fun c_37 => absurd (show ((nI 0 + (-1)) : Int32) < 0 from by decide) c_37)
    refine lv_iconst (v := 1) hx hb d_M_put_77 (by decide) ?_
    exact hp_retz S hK hW hr hlk rfl d_M_put_78 (⟨rfl, hS, hfr⟩)
  | succ t ih =>
    intro F zs hz hS hcat hfr H locs ls hW hl
    rw [pk_m1] at hl
    obtain ⟨tp, hs, sz, tx, vl, ey, md, hR, ⟨htl, htp⟩, hT, ⟨hll, hvl⟩, hKs, hml0, hmd⟩ := id hS
    refine lv_iload hx hb d_M_put_35 (lv_at hl 3 rfl) ?_
    refine lv_if_lt (tgt := 77) hx hb d_M_put_37 (by decide) (fun c_37 => absurd c_37 (show ¬ (((nI t) : Int32) < 0) from nI_pos (by omega))) (fun c_37 => ?_)
    refine lv_aload_n hx hb d_M_put_40 rfl (lv_at hl 0 rfl) ?_
    refine hp_get S hK hW (87) (by omega) rfl hR.1 rfl in_kM 1 (by decide) (hts _ (List.mem_cons_of_mem _ tq_97)) rfl d_M_put_41 ?_
    refine lv_aload_n hx hb d_M_put_44 rfl (lv_at hl 0 rfl) ?_
    refine hp_get S hK hW (87) (by omega) rfl hR.1 rfl in_kM 2 (by decide) (hts _ (List.mem_cons_of_mem _ tq_98)) rfl d_M_put_45 ?_
    refine lv_lload_n hx hb d_M_put_48 rfl (lv_at hl 1 rfl) ?_
    refine lv_bipush (v := 8) hx hb d_M_put_49 (by decide) ?_
    refine lv_iload hx hb d_M_put_51 (lv_at hl 3 rfl) ?_
    refine lv_imul hx hb d_M_put_53 ?_
    refine lv_lushr hx hb d_M_put_54 rfl ?_
    refine lv_l2i hx hb d_M_put_55 rfl ?_
    refine lv_sipush (v := 255) hx hb d_M_put_56 (by decide) ?_
    refine lv_iand hx hb d_M_put_59 ?_
    rw [show (((v.toUInt64 >>> ((8 * (nI t)).toInt64.toUInt64 &&& Int64.toUInt64 63)).toInt64).toInt32 &&& 255) = (md_byte v t) from rfl]
    refine hp_iast S hK hW (88) (by omega) rfl hR.2.1 (x := (md_byte v t)) (vp_in_nI (by omega) (by omega)) d_M_put_60 (fun H locs hW => ?_)
    obtain ⟨F_1, eF_1⟩ : ∃ z, z = va_up F (88) (.inl (g.2 0, 200, .inl (upd tp zs.length (md_byte v t)))) := ⟨_, rfl⟩
    rw [show (((nI zs.length) : Int32).toNatClampNeg) = zs.length from nI_clamp (by omega)] at hW
    replace hW : hp_W g z0 N ad F_1 s.heap H locs := by rw [eF_1]; exact hW
    have f_2 : F_1 (87) = .inr (kM, [.int 0, .ref (ad 88), .int (nI zs.length), .ref (ad 89), .ref (ad 90), .ref (ad 91), .ref (ad 92), .int (nI la.length), .int fp, .int me, .int dp, .int (nI stk.length), .ref (ad 93), .ref (ad 94), .int fa, .int ou, .int ki, .int nu, .int be, .ref (ad 95), .int (nI mm.length)]) := by rw [eF_1, va_up_ne _ _ (by omega)]; exact hR.1
    have f_3 : F_1 (88) = .inl (g.2 0, 200, .inl (upd tp zs.length (md_byte v t))) := by rw [eF_1, va_up_self]
    have f_4 : F_1 (89) = .inl (g.2 2, 26, .inl hs) := by rw [eF_1, va_up_ne _ _ (by omega)]; exact hR.2.2.1
    have f_5 : F_1 (90) = .inl (g.2 0, 26, .inl sz) := by rw [eF_1, va_up_ne _ _ (by omega)]; exact hR.2.2.2.1
    have f_6 : F_1 (91) = .inl (g.2 0, 2600, .inl tx) := by rw [eF_1, va_up_ne _ _ (by omega)]; exact hR.2.2.2.2.1
    have f_7 : F_1 (92) = .inl (g.2 0, 301, .inl vl) := by rw [eF_1, va_up_ne _ _ (by omega)]; exact hR.2.2.2.2.2.1
    have f_8 : F_1 (93) = .inl (g.2 0, 28, .inl ey) := by rw [eF_1, va_up_ne _ _ (by omega)]; exact hR.2.2.2.2.2.2.1
    have f_9 : F_1 (94) = .inl (g.2 0, 28, .inl ap) := by rw [eF_1, va_up_ne _ _ (by omega)]; exact hR.2.2.2.2.2.2.2.1
    have f_10 : F_1 (95) = .inl (g.2 0, 204, .inl md) := by rw [eF_1, va_up_ne _ _ (by omega)]; exact hR.2.2.2.2.2.2.2.2
    have hf_11 : mFr F F_1 := fun x hx => by rw [eF_1, va_up_ne _ _ (by omega)]
    refine lv_aload_n hx hb d_M_put_61 rfl (lv_at hl 0 rfl) ?_
    refine lv_dup hx hb d_M_put_62 rfl ?_
    refine hp_get S hK hW (87) (by omega) rfl f_2 rfl in_kM 2 (by decide) (hts _ (List.mem_cons_of_mem _ tq_98)) rfl d_M_put_63 ?_
    refine lv_iconst (v := 1) hx hb d_M_put_66 (by decide) ?_
    refine lv_iadd hx hb d_M_put_67 ?_
    refine hp_put S hK hW (87) (by omega) rfl f_2 rfl in_kM tyok_M nm_M 2 (by decide) (hts _ (List.mem_cons_of_mem _ tq_98)) rfl rfl rfl (Nat.le_of_ble_eq_true rfl) d_M_put_68 (fun H locs hW => ?_)
    obtain ⟨F_12, eF_12⟩ : ∃ z, z = va_up F_1 (87) (.inr (kM, [.int 0, .ref (ad 88), .int ((nI zs.length) + 1), .ref (ad 89), .ref (ad 90), .ref (ad 91), .ref (ad 92), .int (nI la.length), .int fp, .int me, .int dp, .int (nI stk.length), .ref (ad 93), .ref (ad 94), .int fa, .int ou, .int ki, .int nu, .int be, .ref (ad 95), .int (nI mm.length)])) := ⟨_, rfl⟩
    replace hW : hp_W g z0 N ad F_12 s.heap H locs := by rw [eF_12]; exact hW
    have f_13 : F_12 (87) = .inr (kM, [.int 0, .ref (ad 88), .int ((nI zs.length) + 1), .ref (ad 89), .ref (ad 90), .ref (ad 91), .ref (ad 92), .int (nI la.length), .int fp, .int me, .int dp, .int (nI stk.length), .ref (ad 93), .ref (ad 94), .int fa, .int ou, .int ki, .int nu, .int be, .ref (ad 95), .int (nI mm.length)]) := by rw [eF_12, va_up_self]
    have f_14 : F_12 (88) = .inl (g.2 0, 200, .inl (upd tp zs.length (md_byte v t))) := by rw [eF_12, va_up_ne _ _ (by omega)]; exact f_3
    have f_15 : F_12 (89) = .inl (g.2 2, 26, .inl hs) := by rw [eF_12, va_up_ne _ _ (by omega)]; exact f_4
    have f_16 : F_12 (90) = .inl (g.2 0, 26, .inl sz) := by rw [eF_12, va_up_ne _ _ (by omega)]; exact f_5
    have f_17 : F_12 (91) = .inl (g.2 0, 2600, .inl tx) := by rw [eF_12, va_up_ne _ _ (by omega)]; exact f_6
    have f_18 : F_12 (92) = .inl (g.2 0, 301, .inl vl) := by rw [eF_12, va_up_ne _ _ (by omega)]; exact f_7
    have f_19 : F_12 (93) = .inl (g.2 0, 28, .inl ey) := by rw [eF_12, va_up_ne _ _ (by omega)]; exact f_8
    have f_20 : F_12 (94) = .inl (g.2 0, 28, .inl ap) := by rw [eF_12, va_up_ne _ _ (by omega)]; exact f_9
    have f_21 : F_12 (95) = .inl (g.2 0, 204, .inl md) := by rw [eF_12, va_up_ne _ _ (by omega)]; exact f_10
    have hf_22 : mFr F_1 F_12 := fun x hx => by rw [eF_12, va_up_ne _ _ (by omega)]
    refine lv_iinc (v := ((nI t) + (-1))) (lv' := [(4, .int ((nI t) + (-1))), (0, .ref (ad 87)), (1, .long v), (3, .int x3)]) hx hb d_M_put_71 hl (k := 3) rfl (rfl) (by decide) rfl (fun ls hl => ?_)
    refine lv_goto (tgt := 35) hx hb d_M_put_74 (by decide) ?_
    have e87 := f_13
    exact ih F_12 (zs ++ [(md_byte v t)]) (by rw [List.length_append, List.length_singleton]; omega) ⟨((upd tp zs.length (md_byte v t))), hs, sz, tx, vl, ey, md, ⟨(by rw [e87, List.length_append, List.length_singleton, nI_succ] <;> rfl), f_14, f_15, f_16, f_17, f_18, f_19, f_20, f_21⟩, ⟨by rw [List.length_append, List.length_singleton]; omega, mL_push htp⟩, hT, ⟨hll, hvl⟩, hKs, hml0, hmd⟩ (by rw [← hcat, md_bytes_s]; simp) (hfr.tr (hf_11.tr hf_22)) H locs ls hW (lv_sub hl [1, 2, 3, 0] rfl)

/-! the reference: put(v, k), 0 < k < 9 -/
set_option maxHeartbeats 400000 in
set_option maxRecDepth 100000 in
theorem m_put_in (l : Launch) (g : hp_G) (z0 N : Nat) (ad : Nat → Nat) (F : Nat → va_E) (hN : 96 ≤ N) (tape : List Int32) (kn : Nat → Bool) (rt : Nat → List Int32) (la mm : List Int32) (stk : List Nat) (ap : Nat → Int32) (tc fp me dp fa ou ki nu be : Int32) (hS : mS g ad F tape kn rt la mm stk ap tc fp me dp fa ou ki nu be) (v : Int64) (k : Nat) (hk1 : 1 ≤ k) (hk8 : k ≤ 8) : hp_Mi l g z0 N ad y_M_put ws_M_put (rk 0) [.ref (ad 87), .long v, .int (nI k)] F (fun b F' => b = b2 (decide (1 ≤ k ∧ k ≤ 8 ∧ tape.length + k ≤ 200)) ∧ mS g ad F' (if 1 ≤ k ∧ k ≤ 8 ∧ tape.length + k ≤ 200 then tape ++ md_bytes v k else tape) kn rt la mm stk ap 0 fp me dp fa ou ki nu be ∧ mFr F F') := by
  obtain ⟨tp, hs, sz, tx, vl, ey, md, hR, ⟨htl, htp⟩, hT, ⟨hll, hvl⟩, hKs, hml0, hmd⟩ := id hS
  refine hp_enter (cc := cc_M_put) (maxL := 5) (ret := (some .boolean)) (by decide) rfl (Nat.le_of_ble_eq_true rfl) ?_
  intro p e s m below meth c S hr hlk hnm hK hW ls hl
  have hl : lv_has ls 5 [(0, .ref (ad 87)), (1, .long v), (3, .int (nI k))] := hl
  obtain ⟨hx, hb, hml, hown, hts⟩ := id S
  have in_kM : ∀ w ∈ u_ws R_M T_M 21, w ∈ ws_M_put := fun w h => List.mem_cons_of_mem _ (in0_M w h)
  refine lv_aload_n hx hb d_M_put_0 rfl (lv_at hl 0 rfl) ?_
  refine lv_iconst (v := 0) hx hb d_M_put_1 (by decide) ?_
  refine hp_put S hK hW (87) (by omega) rfl hR.1 rfl in_kM tyok_M nm_M 0 (by decide) (hts _ (List.mem_cons_of_mem _ tq_96)) rfl rfl rfl (Nat.le_of_ble_eq_true rfl) d_M_put_2 (fun H locs hW => ?_)
  obtain ⟨F_1, eF_1⟩ : ∃ z, z = va_up F (87) (.inr (kM, [.int 0, .ref (ad 88), .int (nI tape.length), .ref (ad 89), .ref (ad 90), .ref (ad 91), .ref (ad 92), .int (nI la.length), .int fp, .int me, .int dp, .int (nI stk.length), .ref (ad 93), .ref (ad 94), .int fa, .int ou, .int ki, .int nu, .int be, .ref (ad 95), .int (nI mm.length)])) := ⟨_, rfl⟩
  replace hW : hp_W g z0 N ad F_1 s.heap H locs := by rw [eF_1]; exact hW
  have f_2 : F_1 (87) = .inr (kM, [.int 0, .ref (ad 88), .int (nI tape.length), .ref (ad 89), .ref (ad 90), .ref (ad 91), .ref (ad 92), .int (nI la.length), .int fp, .int me, .int dp, .int (nI stk.length), .ref (ad 93), .ref (ad 94), .int fa, .int ou, .int ki, .int nu, .int be, .ref (ad 95), .int (nI mm.length)]) := by rw [eF_1, va_up_self]
  have f_3 : F_1 (88) = .inl (g.2 0, 200, .inl tp) := by rw [eF_1, va_up_ne _ _ (by omega)]; exact hR.2.1
  have f_4 : F_1 (89) = .inl (g.2 2, 26, .inl hs) := by rw [eF_1, va_up_ne _ _ (by omega)]; exact hR.2.2.1
  have f_5 : F_1 (90) = .inl (g.2 0, 26, .inl sz) := by rw [eF_1, va_up_ne _ _ (by omega)]; exact hR.2.2.2.1
  have f_6 : F_1 (91) = .inl (g.2 0, 2600, .inl tx) := by rw [eF_1, va_up_ne _ _ (by omega)]; exact hR.2.2.2.2.1
  have f_7 : F_1 (92) = .inl (g.2 0, 301, .inl vl) := by rw [eF_1, va_up_ne _ _ (by omega)]; exact hR.2.2.2.2.2.1
  have f_8 : F_1 (93) = .inl (g.2 0, 28, .inl ey) := by rw [eF_1, va_up_ne _ _ (by omega)]; exact hR.2.2.2.2.2.2.1
  have f_9 : F_1 (94) = .inl (g.2 0, 28, .inl ap) := by rw [eF_1, va_up_ne _ _ (by omega)]; exact hR.2.2.2.2.2.2.2.1
  have f_10 : F_1 (95) = .inl (g.2 0, 204, .inl md) := by rw [eF_1, va_up_ne _ _ (by omega)]; exact hR.2.2.2.2.2.2.2.2
  have hf_11 : mFr F F_1 := fun x hx => by rw [eF_1, va_up_ne _ _ (by omega)]
  refine lv_iload_n hx hb d_M_put_5 rfl (lv_at hl 2 rfl) ?_
  refine lv_iconst (v := 1) hx hb d_M_put_6 (by decide) ?_
  refine lv_icmp_lt (tgt := 28) hx hb d_M_put_7 (by decide) (fun c_7 => absurd c_7 (show ¬ (((nI k) : Int32) < 1) from nI_nlt (b := 1) hk1 (by omega))) (fun c_7 => ?_)
  refine lv_iload_n hx hb d_M_put_10 rfl (lv_at hl 2 rfl) ?_
  refine lv_bipush (v := 8) hx hb d_M_put_11 (by decide) ?_
  refine lv_icmp_gt (tgt := 28) hx hb d_M_put_13 (by decide) (fun c_13 => absurd c_13 (show ¬ (8 < ((nI k) : Int32)) from nI_nlt (a := 8) hk8 (by omega))) (fun c_13 => ?_)
  refine lv_aload_n hx hb d_M_put_16 rfl (lv_at hl 0 rfl) ?_
  refine hp_get S hK hW (87) (by omega) rfl f_2 rfl in_kM 2 (by decide) (hts _ (List.mem_cons_of_mem _ tq_98)) rfl d_M_put_17 ?_
  refine lv_iload_n hx hb d_M_put_20 rfl (lv_at hl 2 rfl) ?_
  refine lv_iadd hx hb d_M_put_21 ?_
  rw [show ((nI tape.length) + (nI k)) = (nI (tape.length + k)) from nI_add _ _]
  refine lv_sipush (v := 200) hx hb d_M_put_22 (by decide) ?_
  refine lv_icmp_le (tgt := 30) hx hb d_M_put_25 (by decide) (fun c_25 => ?_) (fun c_25 => ?_)
  · have c_25i := c_25
    replace c_25 : (tape.length + k) ≤ 200 := (nI_leI (a := (tape.length + k)) (b := 200) (by omega) (by omega)).mp c_25
    refine lv_iload_n hx hb d_M_put_30 rfl (lv_at hl 2 rfl) ?_
    refine lv_iconst (v := 1) hx hb d_M_put_31 (by decide) ?_
    refine lv_isub hx hb d_M_put_32 ?_
    refine lv_istore (lv' := [(4, .int ((nI k) - 1)), (0, .ref (ad 87)), (1, .long v), (3, .int (nI k))]) hx hb d_M_put_33 hl (by decide) rfl (fun ls hl => ?_)
    rw [show nI k - 1 = nI k + (-1) from Int32.sub_eq_add_neg _ _] at hl
    have hok : 1 ≤ k ∧ k ≤ 8 ∧ tape.length + k ≤ 200 := ⟨by omega, by omega, by omega⟩
    rw [if_pos hok, decide_eq_true hok]
    exact lp_m_put l g z0 N ad F hN kn rt la mm stk ap fp me dp fa ou ki nu be v _ _ S hr hlk hK k F_1 tape (by omega) ⟨tp, hs, sz, tx, vl, ey, md, ⟨f_2, f_3, f_4, f_5, f_6, f_7, f_8, f_9, f_10⟩, ⟨htl, htp⟩, hT, ⟨hll, hvl⟩, hKs, hml0, hmd⟩ rfl hf_11 _ _ ls hW (lv_sub hl [1, 2, 3, 0] rfl)
  · have c_25i := c_25
    replace c_25 : ¬ (tape.length + k) ≤ 200 := fun zz9 => c_25 ((nI_leI (a := (tape.length + k)) (b := 200) (by omega) (by omega)).mpr zz9)
    refine lv_iconst (v := 0) hx hb d_M_put_28 (by decide) ?_
    exact hp_retz S hK hW hr hlk rfl d_M_put_29 (by have hno : ¬ (1 ≤ k ∧ k ≤ 8 ∧ tape.length + k ≤ 200) := (by omega); rw [if_neg hno, decide_eq_false hno]; exact ⟨rfl, ⟨tp, hs, sz, tx, vl, ey, md, ⟨f_2, f_3, f_4, f_5, f_6, f_7, f_8, f_9, f_10⟩, ⟨htl, htp⟩, hT, ⟨hll, hvl⟩, hKs, hml0, hmd⟩, hf_11⟩)

/-! the reference: put(v, n), another n -/
set_option maxHeartbeats 400000 in
set_option maxRecDepth 100000 in
theorem m_put_out (l : Launch) (g : hp_G) (z0 N : Nat) (ad : Nat → Nat) (F : Nat → va_E) (hN : 96 ≤ N) (tape : List Int32) (kn : Nat → Bool) (rt : Nat → List Int32) (la mm : List Int32) (stk : List Nat) (ap : Nat → Int32) (tc fp me dp fa ou ki nu be : Int32) (hS : mS g ad F tape kn rt la mm stk ap tc fp me dp fa ou ki nu be) (v : Int64) (n : Int32) (hn : n < 1 ∨ 8 < n) : hp_Mi l g z0 N ad y_M_put ws_M_put (rk 0) [.ref (ad 87), .long v, .int n] F (fun b F' => b = 0 ∧ mS g ad F' tape kn rt la mm stk ap 0 fp me dp fa ou ki nu be ∧ mFr F F') := by
  obtain ⟨tp, hs, sz, tx, vl, ey, md, hR, ⟨htl, htp⟩, hT, ⟨hll, hvl⟩, hKs, hml0, hmd⟩ := id hS
  refine hp_enter (cc := cc_M_put) (maxL := 5) (ret := (some .boolean)) (by decide) rfl (Nat.le_of_ble_eq_true rfl) ?_
  intro p e s m below meth c S hr hlk hnm hK hW ls hl
  have hl : lv_has ls 5 [(0, .ref (ad 87)), (1, .long v), (3, .int n)] := hl
  obtain ⟨hx, hb, hml, hown, hts⟩ := id S
  have in_kM : ∀ w ∈ u_ws R_M T_M 21, w ∈ ws_M_put := fun w h => List.mem_cons_of_mem _ (in0_M w h)
  refine lv_aload_n hx hb d_M_put_0 rfl (lv_at hl 0 rfl) ?_
  refine lv_iconst (v := 0) hx hb d_M_put_1 (by decide) ?_
  refine hp_put S hK hW (87) (by omega) rfl hR.1 rfl in_kM tyok_M nm_M 0 (by decide) (hts _ (List.mem_cons_of_mem _ tq_96)) rfl rfl rfl (Nat.le_of_ble_eq_true rfl) d_M_put_2 (fun H locs hW => ?_)
  obtain ⟨F_1, eF_1⟩ : ∃ z, z = va_up F (87) (.inr (kM, [.int 0, .ref (ad 88), .int (nI tape.length), .ref (ad 89), .ref (ad 90), .ref (ad 91), .ref (ad 92), .int (nI la.length), .int fp, .int me, .int dp, .int (nI stk.length), .ref (ad 93), .ref (ad 94), .int fa, .int ou, .int ki, .int nu, .int be, .ref (ad 95), .int (nI mm.length)])) := ⟨_, rfl⟩
  replace hW : hp_W g z0 N ad F_1 s.heap H locs := by rw [eF_1]; exact hW
  have f_2 : F_1 (87) = .inr (kM, [.int 0, .ref (ad 88), .int (nI tape.length), .ref (ad 89), .ref (ad 90), .ref (ad 91), .ref (ad 92), .int (nI la.length), .int fp, .int me, .int dp, .int (nI stk.length), .ref (ad 93), .ref (ad 94), .int fa, .int ou, .int ki, .int nu, .int be, .ref (ad 95), .int (nI mm.length)]) := by rw [eF_1, va_up_self]
  have f_3 : F_1 (88) = .inl (g.2 0, 200, .inl tp) := by rw [eF_1, va_up_ne _ _ (by omega)]; exact hR.2.1
  have f_4 : F_1 (89) = .inl (g.2 2, 26, .inl hs) := by rw [eF_1, va_up_ne _ _ (by omega)]; exact hR.2.2.1
  have f_5 : F_1 (90) = .inl (g.2 0, 26, .inl sz) := by rw [eF_1, va_up_ne _ _ (by omega)]; exact hR.2.2.2.1
  have f_6 : F_1 (91) = .inl (g.2 0, 2600, .inl tx) := by rw [eF_1, va_up_ne _ _ (by omega)]; exact hR.2.2.2.2.1
  have f_7 : F_1 (92) = .inl (g.2 0, 301, .inl vl) := by rw [eF_1, va_up_ne _ _ (by omega)]; exact hR.2.2.2.2.2.1
  have f_8 : F_1 (93) = .inl (g.2 0, 28, .inl ey) := by rw [eF_1, va_up_ne _ _ (by omega)]; exact hR.2.2.2.2.2.2.1
  have f_9 : F_1 (94) = .inl (g.2 0, 28, .inl ap) := by rw [eF_1, va_up_ne _ _ (by omega)]; exact hR.2.2.2.2.2.2.2.1
  have f_10 : F_1 (95) = .inl (g.2 0, 204, .inl md) := by rw [eF_1, va_up_ne _ _ (by omega)]; exact hR.2.2.2.2.2.2.2.2
  have hf_11 : mFr F F_1 := fun x hx => by rw [eF_1, va_up_ne _ _ (by omega)]
  refine lv_iload_n hx hb d_M_put_5 rfl (lv_at hl 2 rfl) ?_
  refine lv_iconst (v := 1) hx hb d_M_put_6 (by decide) ?_
  refine lv_icmp_lt (tgt := 28) hx hb d_M_put_7 (by decide) (fun c_7 => ?_) (fun c_7 => ?_)
  · have c_7i := c_7
    have c_7j := Int32.not_le.mpr c_7
    refine lv_iconst (v := 0) hx hb d_M_put_28 (by decide) ?_
    exact hp_retz S hK hW hr hlk rfl d_M_put_29 (⟨rfl, ⟨tp, hs, sz, tx, vl, ey, md, ⟨f_2, f_3, f_4, f_5, f_6, f_7, f_8, f_9, f_10⟩, ⟨htl, htp⟩, hT, ⟨hll, hvl⟩, hKs, hml0, hmd⟩, hf_11⟩)
  · have c_7i := c_7
    have c_7j := Int32.not_lt.mp c_7
    refine lv_iload_n hx hb d_M_put_10 rfl (lv_at hl 2 rfl) ?_
    refine lv_bipush (v := 8) hx hb d_M_put_11 (by decide) ?_
    refine lv_icmp_gt (tgt := 28) hx hb d_M_put_13 (by decide) (fun c_13 => ?_) (fun c_13 => ?_)
    · have c_13i := c_13
      have c_13j := Int32.not_le.mpr c_13
      refine lv_iconst (v := 0) hx hb d_M_put_28 (by decide) ?_
      exact hp_retz S hK hW hr hlk rfl d_M_put_29 (⟨rfl, ⟨tp, hs, sz, tx, vl, ey, md, ⟨f_2, f_3, f_4, f_5, f_6, f_7, f_8, f_9, f_10⟩, ⟨htl, htp⟩, hT, ⟨hll, hvl⟩, hKs, hml0, hmd⟩, hf_11⟩)
    · have c_13i := c_13
      have c_13j := Int32.not_lt.mp c_13
      exact absurd hn (by rintro (h | h); exact c_7i h; exact c_13i h)

/-! the reference: known, its loop -/
set_option maxHeartbeats 400000 in
set_option maxRecDepth 100000 in
theorem lp_m_known {p : Program} {e : Env} {s : State} {m : MethodId} {args : Array Value} {below : List Frame} {meth : Method} {c : Code} (l : Launch) (g : hp_G) (z0 N : Nat) (ad : Nat → Nat)  (F : Nat → va_E) (hN : 96 ≤ N) (tape : List Int32) (kn : Nat → Bool) (rt : Nat → List Int32) (la mm : List Int32) (stk : List Nat) (ap : Nat → Int32) (tc fp me dp fa ou ki nu be : Int32) (hS : mS g ad F tape kn rt la mm stk ap tc fp me dp fa ou ki nu be) (tp hs sz tx vl ey md : Nat → Int32) (hR : mSt g ad F tc (nI tape.length) (nI la.length) fp me dp (nI stk.length) fa ou ki nu be (nI mm.length) tp hs sz tx vl ey ap md) (hT : mT kn rt hs sz tx) (S : CallFix p m c cc_M_known 3 s args ws_M_known R_M) (hr : meth.sig.returnType = (some .int)) (hlk : meth.locks = false) (hK : hp_K g s) : ∀ (j : Nat) (i : Nat), i ≤ 26 → 27 ≤ i + j → ∀ (H : Heap) (locs : List Loc) (ls : Array Slot), hp_W g z0 N ad F s.heap H locs → lv_has ls 3 [(0, .ref (ad 87)), (1, .int (nI (md_kn kn i))), (2, .int (nI i))] → W p l e (rk 0) s m args below meth c H locs 0 0 (MQ below (va_Qi (fun v F' => v = nI (md_kn kn 26) ∧ F' = F) (hp_B g z0 N ad) (hp_A z0)) args s 0 0 (hp_A z0)) (F0 m 4 ls []) := by
  obtain ⟨hx, hb, hml, hown, hts⟩ := id S
  have in_kM : ∀ w ∈ u_ws R_M T_M 21, w ∈ ws_M_known := fun w h => List.mem_cons_of_mem _ (in0_M w h)
  intro j
  induction j with
  | zero =>
    intro i hi hj H locs ls hW hl
    exact absurd hj (by omega)
  | succ j ih =>
    intro i hi hj H locs ls hW hl
    refine lv_iload_n hx hb d_M_known_4 rfl (lv_at hl 2 rfl) ?_
    refine lv_bipush (v := 26) hx hb d_M_known_5 (by decide) ?_
    refine lv_icmp_ge (tgt := 33) hx hb d_M_known_7 (by decide) (fun c_7 => ?_) (fun c_7 => ?_)
    · have c_7i := c_7
      replace c_7 : 26 ≤ i := (nI_leI (a := 26) (b := i) (by omega) (by omega)).mp c_7
      refine lv_iload_n hx hb d_M_known_33 rfl (lv_at hl 1 rfl) ?_
      exact hp_reti S hK hW hr hlk d_M_known_34 (⟨by rw [show i = 26 by omega], rfl⟩)
    · have c_7i := c_7
      replace c_7 : ¬ 26 ≤ i := fun zz9 => c_7 ((nI_leI (a := 26) (b := i) (by omega) (by omega)).mpr zz9)
      refine lv_iload_n hx hb d_M_known_10 rfl (lv_at hl 1 rfl) ?_
      refine lv_aload_n hx hb d_M_known_11 rfl (lv_at hl 0 rfl) ?_
      refine hp_get S hK hW (87) (by omega) rfl hR.1 rfl in_kM 3 (by decide) (hts _ (List.mem_cons_of_mem _ tq_99)) rfl d_M_known_12 ?_
      refine lv_iload_n hx hb d_M_known_15 rfl (lv_at hl 2 rfl) ?_
      refine hp_zald S hK hW (89) (by omega) rfl hR.2.2.1 (vp_in_nI (by omega) (by omega)) d_M_known_16 ?_
      rw [show (hs ((nI i) : Int32).toNatClampNeg) = (b2 (kn i)) from (by rw [nI_clamp (by omega)]; exact (hT i (by omega)).1)]
      refine lv_if_eq (tgt := 24) hx hb d_M_known_17 (by decide) (fun c_17 => ?_) (fun c_17 => ?_)
      · have c_17i := c_17
        refine lv_iconst (v := 0) hx hb d_M_known_24 (by decide) ?_
        refine lv_iadd hx hb d_M_known_25 ?_
        rw [show ((nI (md_kn kn i)) + 0) = (nI (md_kn kn i)) from Int32.add_zero _]
        refine lv_istore_n (lv' := [(1, .int (nI (md_kn kn i))), (0, .ref (ad 87)), (2, .int (nI i))]) hx hb d_M_known_26 rfl hl (by decide) rfl (fun ls hl => ?_)
        refine lv_iinc (v := (nI (i + 1))) (lv' := [(2, .int (nI (i + 1))), (1, .int (nI (md_kn kn i))), (0, .ref (ad 87))]) hx hb d_M_known_27 hl (k := 2) rfl ((nI_succ (i)).symm) (by decide) rfl (fun ls hl => ?_)
        refine lv_goto (tgt := 4) hx hb d_M_known_30 (by decide) ?_
        exact ih (i + 1) (by omega) (by omega) H locs ls hW (by rw [kn_t c_17i]; exact (lv_sub hl [2, 1, 0] rfl))
      · have c_17i := c_17
        refine lv_iconst (v := 1) hx hb d_M_known_20 (by decide) ?_
        refine lv_goto (tgt := 25) hx hb d_M_known_21 (by decide) ?_
        refine lv_iadd hx hb d_M_known_25 ?_
        rw [show ((nI (md_kn kn i)) + 1) = (nI (md_kn kn i + 1)) from (nI_succ _).symm]
        refine lv_istore_n (lv' := [(1, .int (nI (md_kn kn i + 1))), (0, .ref (ad 87)), (2, .int (nI i))]) hx hb d_M_known_26 rfl hl (by decide) rfl (fun ls hl => ?_)
        refine lv_iinc (v := (nI (i + 1))) (lv' := [(2, .int (nI (i + 1))), (1, .int (nI (md_kn kn i + 1))), (0, .ref (ad 87))]) hx hb d_M_known_27 hl (k := 2) rfl ((nI_succ (i)).symm) (by decide) rfl (fun ls hl => ?_)
        refine lv_goto (tgt := 4) hx hb d_M_known_30 (by decide) ?_
        exact ih (i + 1) (by omega) (by omega) H locs ls hW (by rw [kn_f c_17i]; exact (lv_sub hl [2, 1, 0] rfl))

/-! the reference: known -/
set_option maxHeartbeats 400000 in
set_option maxRecDepth 100000 in
theorem m_known (l : Launch) (g : hp_G) (z0 N : Nat) (ad : Nat → Nat) (F : Nat → va_E) (hN : 96 ≤ N) (tape : List Int32) (kn : Nat → Bool) (rt : Nat → List Int32) (la mm : List Int32) (stk : List Nat) (ap : Nat → Int32) (tc fp me dp fa ou ki nu be : Int32) (hS : mS g ad F tape kn rt la mm stk ap tc fp me dp fa ou ki nu be) : hp_Mi l g z0 N ad y_M_known ws_M_known (rk 0) [.ref (ad 87)] F (fun v F' => v = nI (md_kn kn 26) ∧ F' = F) := by
  obtain ⟨tp, hs, sz, tx, vl, ey, md, hR, ⟨htl, htp⟩, hT, ⟨hll, hvl⟩, hKs, hml0, hmd⟩ := id hS
  refine hp_enter (cc := cc_M_known) (maxL := 3) (ret := (some .int)) (by decide) rfl (Nat.le_of_ble_eq_true rfl) ?_
  intro p e s m below meth c S hr hlk hnm hK hW ls hl
  have hl : lv_has ls 3 [(0, .ref (ad 87))] := hl
  obtain ⟨hx, hb, hml, hown, hts⟩ := id S
  have in_kM : ∀ w ∈ u_ws R_M T_M 21, w ∈ ws_M_known := fun w h => List.mem_cons_of_mem _ (in0_M w h)
  refine lv_iconst (v := 0) hx hb d_M_known_0 (by decide) ?_
  refine lv_istore_n (lv' := [(1, .int 0), (0, .ref (ad 87))]) hx hb d_M_known_1 rfl hl (by decide) rfl (fun ls hl => ?_)
  refine lv_iconst (v := 0) hx hb d_M_known_2 (by decide) ?_
  refine lv_istore_n (lv' := [(2, .int 0), (1, .int 0), (0, .ref (ad 87))]) hx hb d_M_known_3 rfl hl (by decide) rfl (fun ls hl => ?_)
  exact lp_m_known l g z0 N ad F hN tape kn rt la mm stk ap tc fp me dp fa ou ki nu be hS tp hs sz tx vl ey md hR hT S hr hlk hK 27 0 (by omega) (by omega) _ _ ls hW (lv_sub hl [2, 1, 0] rfl)

theorem mT_clr {kn : Nat → Bool} {rt : Nat → List Int32} {hs sz tx : Nat → Int32} {i : Nat} (h : mT (clr kn i) rt hs sz tx) : mT (clr kn (i + 1)) rt (upd hs i 0) sz tx := by
  intro k hk
  rw [← clr_s]
  by_cases e : k = i
  · subst e
    rw [pk_us, va_up_self]
    exact ⟨rfl, fun z => by cases z⟩
  · rw [pk_un e, va_up_ne _ _ e]
    exact h k hk

/-! the reference: clear, its loop -/
set_option maxHeartbeats 400000 in
set_option maxRecDepth 100000 in
theorem lp_m_clear {p : Program} {e : Env} {s : State} {m : MethodId} {args : Array Value} {below : List Frame} {meth : Method} {c : Code} (l : Launch) (g : hp_G) (z0 N : Nat) (ad : Nat → Nat)  (Fz : Nat → va_E) (hN : 96 ≤ N) (tape : List Int32) (kn : Nat → Bool) (rt : Nat → List Int32) (la mm : List Int32) (ap : Nat → Int32) (fp me dp fa ou ki nu be : Int32) (x1 : Int32) (hx1 : x1 = nI (md_kn kn 26)) (S : CallFix p m c cc_M_clear 3 s args ws_M_clear R_M) (hr : meth.sig.returnType = (some .int)) (hlk : meth.locks = false) (hK : hp_K g s) : ∀ (j : Nat) (i : Nat) (F : Nat → va_E), i ≤ 26 → 27 ≤ i + j → mS g ad F tape (clr kn i) rt la mm [] ap 0 fp me dp fa ou ki nu be → mFr Fz F → ∀ (H : Heap) (locs : List Loc) (ls : Array Slot), hp_W g z0 N ad F s.heap H locs → lv_has ls 3 [(0, .ref (ad 87)), (1, .int x1), (2, .int (nI i))] → W p l e (rk 1) s m args below meth c H locs 0 0 (MQ below (va_Qi (fun v F' => v = nI (md_kn kn 26) ∧ mS g ad F' tape (clr kn 26) rt la mm [] ap 0 fp me dp fa ou ki nu be ∧ mFr Fz F') (hp_B g z0 N ad) (hp_A z0)) args s 0 0 (hp_A z0)) (F0 m 12 ls []) := by
  obtain ⟨hx, hb, hml, hown, hts⟩ := id S
  have in_kM : ∀ w ∈ u_ws R_M T_M 21, w ∈ ws_M_clear := fun w h => List.mem_cons_of_mem _ (in0_M w h)
  intro j
  induction j with
  | zero =>
    intro i F hi hj hS hfr H locs ls hW hl
    exact absurd hj (by omega)
  | succ j ih =>
    intro i F hi hj hS hfr H locs ls hW hl
    obtain ⟨tp, hs, sz, tx, vl, ey, md, hR, ⟨htl, htp⟩, hT, ⟨hll, hvl⟩, hKs, hml0, hmd⟩ := id hS
    refine lv_iload_n hx hb d_M_clear_12 rfl (lv_at hl 2 rfl) ?_
    refine lv_bipush (v := 26) hx hb d_M_clear_13 (by decide) ?_
    refine lv_icmp_ge (tgt := 31) hx hb d_M_clear_15 (by decide) (fun c_15 => ?_) (fun c_15 => ?_)
    · have c_15i := c_15
      replace c_15 : 26 ≤ i := (nI_leI (a := 26) (b := i) (by omega) (by omega)).mp c_15
      refine lv_iload_n hx hb d_M_clear_31 rfl (lv_at hl 1 rfl) ?_
      exact hp_reti S hK hW hr hlk d_M_clear_32 (⟨hx1, by rw [show (26 : Nat) = i by omega]; exact hS, hfr⟩)
    · have c_15i := c_15
      replace c_15 : ¬ 26 ≤ i := fun zz9 => c_15 ((nI_leI (a := 26) (b := i) (by omega) (by omega)).mpr zz9)
      refine lv_aload_n hx hb d_M_clear_18 rfl (lv_at hl 0 rfl) ?_
      refine hp_get S hK hW (87) (by omega) rfl hR.1 rfl in_kM 3 (by decide) (hts _ (List.mem_cons_of_mem _ tq_99)) rfl d_M_clear_19 ?_
      refine lv_iload_n hx hb d_M_clear_22 rfl (lv_at hl 2 rfl) ?_
      refine lv_iconst (v := 0) hx hb d_M_clear_23 (by decide) ?_
      refine hp_zast S hK hW (89) (by omega) rfl hR.2.2.1 (x := 0) (vp_in_nI (by omega) (by omega)) d_M_clear_24 (fun H locs hW => ?_)
      obtain ⟨F_1, eF_1⟩ : ∃ z, z = va_up F (89) (.inl (g.2 2, 26, .inl (upd hs i 0))) := ⟨_, rfl⟩
      rw [show (((nI i) : Int32).toNatClampNeg) = i from nI_clamp (by omega)] at hW
      replace hW : hp_W g z0 N ad F_1 s.heap H locs := by rw [eF_1]; exact hW
      have f_2 : F_1 (87) = .inr (kM, [.int 0, .ref (ad 88), .int (nI tape.length), .ref (ad 89), .ref (ad 90), .ref (ad 91), .ref (ad 92), .int (nI la.length), .int fp, .int me, .int dp, .int (nI (([] : List Nat)).length), .ref (ad 93), .ref (ad 94), .int fa, .int ou, .int ki, .int nu, .int be, .ref (ad 95), .int (nI mm.length)]) := by rw [eF_1, va_up_ne _ _ (by omega)]; exact hR.1
      have f_3 : F_1 (88) = .inl (g.2 0, 200, .inl tp) := by rw [eF_1, va_up_ne _ _ (by omega)]; exact hR.2.1
      have f_4 : F_1 (89) = .inl (g.2 2, 26, .inl (upd hs i 0)) := by rw [eF_1, va_up_self]
      have f_5 : F_1 (90) = .inl (g.2 0, 26, .inl sz) := by rw [eF_1, va_up_ne _ _ (by omega)]; exact hR.2.2.2.1
      have f_6 : F_1 (91) = .inl (g.2 0, 2600, .inl tx) := by rw [eF_1, va_up_ne _ _ (by omega)]; exact hR.2.2.2.2.1
      have f_7 : F_1 (92) = .inl (g.2 0, 301, .inl vl) := by rw [eF_1, va_up_ne _ _ (by omega)]; exact hR.2.2.2.2.2.1
      have f_8 : F_1 (93) = .inl (g.2 0, 28, .inl ey) := by rw [eF_1, va_up_ne _ _ (by omega)]; exact hR.2.2.2.2.2.2.1
      have f_9 : F_1 (94) = .inl (g.2 0, 28, .inl ap) := by rw [eF_1, va_up_ne _ _ (by omega)]; exact hR.2.2.2.2.2.2.2.1
      have f_10 : F_1 (95) = .inl (g.2 0, 204, .inl md) := by rw [eF_1, va_up_ne _ _ (by omega)]; exact hR.2.2.2.2.2.2.2.2
      have hf_11 : mFr F F_1 := fun x hx => by rw [eF_1, va_up_ne _ _ (by omega)]
      refine lv_iinc (v := (nI (i + 1))) (lv' := [(2, .int (nI (i + 1))), (0, .ref (ad 87)), (1, .int x1)]) hx hb d_M_clear_25 hl (k := 2) rfl ((nI_succ (i)).symm) (by decide) rfl (fun ls hl => ?_)
      refine lv_goto (tgt := 12) hx hb d_M_clear_28 (by decide) ?_
      exact ih (i + 1) F_1 (by omega) (by omega) ⟨tp, ((upd hs i 0)), sz, tx, vl, ey, md, ⟨f_2, f_3, f_4, f_5, f_6, f_7, f_8, f_9, f_10⟩, ⟨htl, htp⟩, mT_clr hT, ⟨hll, hvl⟩, ⟨Nat.zero_le _, fun i h => absurd h (Nat.not_lt_zero _), fun k h => absurd h List.not_mem_nil⟩, hml0, hmd⟩ (hfr.tr hf_11) H locs ls hW (lv_sub hl [1, 2, 0] rfl)

/-! the reference: clear -/
set_option maxHeartbeats 400000 in
set_option maxRecDepth 100000 in
theorem m_clear (l : Launch) (g : hp_G) (z0 N : Nat) (ad : Nat → Nat) (F : Nat → va_E) (hN : 96 ≤ N) (tape : List Int32) (kn : Nat → Bool) (rt : Nat → List Int32) (la mm : List Int32) (ap : Nat → Int32) (tc fp me dp fa ou ki nu be : Int32) (hS : mS g ad F tape kn rt la mm [] ap tc fp me dp fa ou ki nu be) : hp_Mi l g z0 N ad y_M_clear ws_M_clear (rk 1) [.ref (ad 87)] F (fun v F' => v = nI (md_kn kn 26) ∧ mS g ad F' tape (clr kn 26) rt la mm [] ap 0 fp me dp fa ou ki nu be ∧ mFr F F') := by
  obtain ⟨tp, hs, sz, tx, vl, ey, md, hR, ⟨htl, htp⟩, hT, ⟨hll, hvl⟩, hKs, hml0, hmd⟩ := id hS
  refine hp_enter (cc := cc_M_clear) (maxL := 3) (ret := (some .int)) (by decide) rfl (Nat.le_of_ble_eq_true rfl) ?_
  intro p e s m below meth c S hr hlk hnm hK hW ls hl
  have hl : lv_has ls 3 [(0, .ref (ad 87))] := hl
  obtain ⟨hx, hb, hml, hown, hts⟩ := id S
  have in_kM : ∀ w ∈ u_ws R_M T_M 21, w ∈ ws_M_clear := fun w h => List.mem_cons_of_mem _ (in0_M w h)
  refine lv_aload_n hx hb d_M_clear_0 rfl (lv_at hl 0 rfl) ?_
  refine lv_iconst (v := 0) hx hb d_M_clear_1 (by decide) ?_
  refine hp_put S hK hW (87) (by omega) rfl hR.1 rfl in_kM tyok_M nm_M 0 (by decide) (hts _ (List.mem_cons_of_mem _ tq_96)) rfl rfl rfl (Nat.le_of_ble_eq_true rfl) d_M_clear_2 (fun H locs hW => ?_)
  obtain ⟨F_1, eF_1⟩ : ∃ z, z = va_up F (87) (.inr (kM, [.int 0, .ref (ad 88), .int (nI tape.length), .ref (ad 89), .ref (ad 90), .ref (ad 91), .ref (ad 92), .int (nI la.length), .int fp, .int me, .int dp, .int (nI (([] : List Nat)).length), .ref (ad 93), .ref (ad 94), .int fa, .int ou, .int ki, .int nu, .int be, .ref (ad 95), .int (nI mm.length)])) := ⟨_, rfl⟩
  replace hW : hp_W g z0 N ad F_1 s.heap H locs := by rw [eF_1]; exact hW
  have f_2 : F_1 (87) = .inr (kM, [.int 0, .ref (ad 88), .int (nI tape.length), .ref (ad 89), .ref (ad 90), .ref (ad 91), .ref (ad 92), .int (nI la.length), .int fp, .int me, .int dp, .int (nI (([] : List Nat)).length), .ref (ad 93), .ref (ad 94), .int fa, .int ou, .int ki, .int nu, .int be, .ref (ad 95), .int (nI mm.length)]) := by rw [eF_1, va_up_self]
  have f_3 : F_1 (88) = .inl (g.2 0, 200, .inl tp) := by rw [eF_1, va_up_ne _ _ (by omega)]; exact hR.2.1
  have f_4 : F_1 (89) = .inl (g.2 2, 26, .inl hs) := by rw [eF_1, va_up_ne _ _ (by omega)]; exact hR.2.2.1
  have f_5 : F_1 (90) = .inl (g.2 0, 26, .inl sz) := by rw [eF_1, va_up_ne _ _ (by omega)]; exact hR.2.2.2.1
  have f_6 : F_1 (91) = .inl (g.2 0, 2600, .inl tx) := by rw [eF_1, va_up_ne _ _ (by omega)]; exact hR.2.2.2.2.1
  have f_7 : F_1 (92) = .inl (g.2 0, 301, .inl vl) := by rw [eF_1, va_up_ne _ _ (by omega)]; exact hR.2.2.2.2.2.1
  have f_8 : F_1 (93) = .inl (g.2 0, 28, .inl ey) := by rw [eF_1, va_up_ne _ _ (by omega)]; exact hR.2.2.2.2.2.2.1
  have f_9 : F_1 (94) = .inl (g.2 0, 28, .inl ap) := by rw [eF_1, va_up_ne _ _ (by omega)]; exact hR.2.2.2.2.2.2.2.1
  have f_10 : F_1 (95) = .inl (g.2 0, 204, .inl md) := by rw [eF_1, va_up_ne _ _ (by omega)]; exact hR.2.2.2.2.2.2.2.2
  have hf_11 : mFr F F_1 := fun x hx => by rw [eF_1, va_up_ne _ _ (by omega)]
  refine lv_aload_n hx hb d_M_clear_5 rfl (lv_at hl 0 rfl) ?_
  have hSk : mS g ad F_1 tape kn rt la mm [] ap 0 fp me dp fa ou ki nu be := ⟨tp, hs, sz, tx, vl, ey, md, ⟨f_2, f_3, f_4, f_5, f_6, f_7, f_8, f_9, f_10⟩, ⟨htl, htp⟩, hT, ⟨hll, hvl⟩, hKs, hml0, hmd⟩
  refine hp_goi hW (va_runV S (m_known l g z0 N ad F_1 hN tape kn rt la mm [] ap 0 fp me dp fa ou ki nu be hSk) (cwV 0 hts (tb_V cd_M_known tq_162 tq_163 tq_164 tq_118) rfl rfl rfl hd_M_known (rk_ok (by omega) (by omega))) (hp_preV hK hW (by omega) rfl f_2 rfl) rfl rfl hl.1 rfl (lv_room (Nat.le_of_ble_eq_true rfl)) d_M_clear_6 ⟨Nat.zero_le _, Nat.zero_le _⟩) (fun r_12 F_13 H locs hw hW => ?_)
  obtain ⟨hvq, hFq⟩ := hw
  rw [hFq] at hW
  rw [hvq]
  refine lv_istore_n (lv' := [(1, .int (nI (md_kn kn 26))), (0, .ref (ad 87))]) hx hb d_M_clear_9 rfl hl (by decide) rfl (fun ls hl => ?_)
  refine lv_iconst (v := 0) hx hb d_M_clear_10 (by decide) ?_
  refine lv_istore_n (lv' := [(2, .int 0), (1, .int (nI (md_kn kn 26))), (0, .ref (ad 87))]) hx hb d_M_clear_11 rfl hl (by decide) rfl (fun ls hl => ?_)
  exact lp_m_clear l g z0 N ad F hN tape kn rt la mm ap fp me dp fa ou ki nu be _ rfl S hr hlk hK 27 0 F_1 (by omega) (by omega) (by rw [clr_0]; exact hSk) hf_11 _ _ ls hW (lv_sub hl [2, 1, 0] rfl)
