/-! the reference: add -/
set_option maxHeartbeats 400000 in
set_option maxRecDepth 100000 in
theorem m_add (l : Launch) (g : hp_G) (z0 N : Nat) (ad : Nat → Nat) (F : Nat → va_E) (hN : 96 ≤ N) (tape : List Int32) (kn : Nat → Bool) (rt : Nat → List Int32) (la mm : List Int32) (stk : List Nat) (ap : Nat → Int32) (tc fp me dp fa ou ki nu be : Int32) (hS : mS g ad F tape kn rt la mm stk ap tc fp me dp fa ou ki nu be) (x a : Int32) : hp_Mv l g z0 N ad y_M_add ws_M_add (rk 1) [.ref (ad 87), .int x, .int a] F (fun F' => mS g ad F' tape kn rt (md_ad 300 la x).1 mm stk ap tc (pf (md_ad 300 la x).2 fp (if stk.length = 0 then a else ou)) me dp (pf (md_ad 300 la x).2 fa 8) ou ki nu be ∧ mFr F F') := by
  have hsl := (show stk.length ≤ 26 from by obtain ⟨tp, hs, sz, tx, vl, ey, md, hR, hA, hT, hB, hKs, hC⟩ := id hS; exact hKs.1)
  obtain ⟨tp, hs, sz, tx, vl, ey, md, hR, ⟨htl, htp⟩, hT, ⟨hll, hvl⟩, hKs, hml0, hmd⟩ := id hS
  refine hp_enter (cc := cc_M_add) (maxL := 3) (ret := none) (by decide) rfl (Nat.le_of_ble_eq_true rfl) ?_
  intro p e s m below meth c S hr hlk hnm hK hW ls hl
  have hl : lv_has ls 3 [(0, .ref (ad 87)), (1, .int x), (2, .int a)] := hl
  obtain ⟨hx, hb, hml, hown, hts⟩ := id S
  have in_kM : ∀ w ∈ u_ws R_M T_M 21, w ∈ ws_M_add := fun w h => List.mem_cons_of_mem _ (in0_M w h)
  refine lv_aload_n hx hb d_M_add_0 rfl (lv_at hl 0 rfl) ?_
  refine hp_get S hK hW (87) (by omega) rfl hR.1 rfl in_kM 7 (by decide) (hts _ (List.mem_cons_of_mem _ tq_103)) rfl d_M_add_1 ?_
  refine lv_sipush (v := 300) hx hb d_M_add_4 (by decide) ?_
  refine lv_icmp_ne (tgt := 18) hx hb d_M_add_7 (by decide) (fun c_7 => ?_) (fun c_7 => ?_)
  · have c_7i := c_7
    replace c_7 : ¬ la.length = 300 := fun zz9 => c_7 ((nI_eq (a := la.length) (b := 300) (by omega) (by omega)).mpr zz9)
    refine lv_aload_n hx hb d_M_add_18 rfl (lv_at hl 0 rfl) ?_
    refine hp_get S hK hW (87) (by omega) rfl hR.1 rfl in_kM 6 (by decide) (hts _ (List.mem_cons_of_mem _ tq_102)) rfl d_M_add_19 ?_
    refine lv_aload_n hx hb d_M_add_22 rfl (lv_at hl 0 rfl) ?_
    refine hp_get S hK hW (87) (by omega) rfl hR.1 rfl in_kM 7 (by decide) (hts _ (List.mem_cons_of_mem _ tq_103)) rfl d_M_add_23 ?_
    refine lv_iload_n hx hb d_M_add_26 rfl (lv_at hl 1 rfl) ?_
    refine hp_iast S hK hW (92) (by omega) rfl hR.2.2.2.2.2.1 (x := x) (vp_in_nI (by omega) (by omega)) d_M_add_27 (fun H locs hW => ?_)
    obtain ⟨F_1, eF_1⟩ : ∃ z, z = va_up F (92) (.inl (g.2 0, 301, .inl (upd vl la.length x))) := ⟨_, rfl⟩
    rw [show (((nI la.length) : Int32).toNatClampNeg) = la.length from nI_clamp (by omega)] at hW
    replace hW : hp_W g z0 N ad F_1 s.heap H locs := by rw [eF_1]; exact hW
    have f_2 : F_1 (87) = .inr (kM, [.int tc, .ref (ad 88), .int (nI tape.length), .ref (ad 89), .ref (ad 90), .ref (ad 91), .ref (ad 92), .int (nI la.length), .int fp, .int me, .int dp, .int (nI stk.length), .ref (ad 93), .ref (ad 94), .int fa, .int ou, .int ki, .int nu, .int be, .ref (ad 95), .int (nI mm.length)]) := by rw [eF_1, va_up_ne _ _ (by omega)]; exact hR.1
    have f_3 : F_1 (88) = .inl (g.2 0, 200, .inl tp) := by rw [eF_1, va_up_ne _ _ (by omega)]; exact hR.2.1
    have f_4 : F_1 (89) = .inl (g.2 2, 26, .inl hs) := by rw [eF_1, va_up_ne _ _ (by omega)]; exact hR.2.2.1
    have f_5 : F_1 (90) = .inl (g.2 0, 26, .inl sz) := by rw [eF_1, va_up_ne _ _ (by omega)]; exact hR.2.2.2.1
    have f_6 : F_1 (91) = .inl (g.2 0, 2600, .inl tx) := by rw [eF_1, va_up_ne _ _ (by omega)]; exact hR.2.2.2.2.1
    have f_7 : F_1 (92) = .inl (g.2 0, 301, .inl (upd vl la.length x)) := by rw [eF_1, va_up_self]
    have f_8 : F_1 (93) = .inl (g.2 0, 28, .inl ey) := by rw [eF_1, va_up_ne _ _ (by omega)]; exact hR.2.2.2.2.2.2.1
    have f_9 : F_1 (94) = .inl (g.2 0, 28, .inl ap) := by rw [eF_1, va_up_ne _ _ (by omega)]; exact hR.2.2.2.2.2.2.2.1
    have f_10 : F_1 (95) = .inl (g.2 0, 204, .inl md) := by rw [eF_1, va_up_ne _ _ (by omega)]; exact hR.2.2.2.2.2.2.2.2
    have hf_11 : mFr F F_1 := fun x hx => by rw [eF_1, va_up_ne _ _ (by omega)]
    refine lv_aload_n hx hb d_M_add_28 rfl (lv_at hl 0 rfl) ?_
    refine lv_dup hx hb d_M_add_29 rfl ?_
    refine hp_get S hK hW (87) (by omega) rfl f_2 rfl in_kM 7 (by decide) (hts _ (List.mem_cons_of_mem _ tq_103)) rfl d_M_add_30 ?_
    refine lv_iconst (v := 1) hx hb d_M_add_33 (by decide) ?_
    refine lv_iadd hx hb d_M_add_34 ?_
    refine hp_put S hK hW (87) (by omega) rfl f_2 rfl in_kM tyok_M nm_M 7 (by decide) (hts _ (List.mem_cons_of_mem _ tq_103)) rfl rfl rfl (Nat.le_of_ble_eq_true rfl) d_M_add_35 (fun H locs hW => ?_)
    obtain ⟨F_12, eF_12⟩ : ∃ z, z = va_up F_1 (87) (.inr (kM, [.int tc, .ref (ad 88), .int (nI tape.length), .ref (ad 89), .ref (ad 90), .ref (ad 91), .ref (ad 92), .int ((nI la.length) + 1), .int fp, .int me, .int dp, .int (nI stk.length), .ref (ad 93), .ref (ad 94), .int fa, .int ou, .int ki, .int nu, .int be, .ref (ad 95), .int (nI mm.length)])) := ⟨_, rfl⟩
    replace hW : hp_W g z0 N ad F_12 s.heap H locs := by rw [eF_12]; exact hW
    have f_13 : F_12 (87) = .inr (kM, [.int tc, .ref (ad 88), .int (nI tape.length), .ref (ad 89), .ref (ad 90), .ref (ad 91), .ref (ad 92), .int ((nI la.length) + 1), .int fp, .int me, .int dp, .int (nI stk.length), .ref (ad 93), .ref (ad 94), .int fa, .int ou, .int ki, .int nu, .int be, .ref (ad 95), .int (nI mm.length)]) := by rw [eF_12, va_up_self]
    have f_14 : F_12 (88) = .inl (g.2 0, 200, .inl tp) := by rw [eF_12, va_up_ne _ _ (by omega)]; exact f_3
    have f_15 : F_12 (89) = .inl (g.2 2, 26, .inl hs) := by rw [eF_12, va_up_ne _ _ (by omega)]; exact f_4
    have f_16 : F_12 (90) = .inl (g.2 0, 26, .inl sz) := by rw [eF_12, va_up_ne _ _ (by omega)]; exact f_5
    have f_17 : F_12 (91) = .inl (g.2 0, 2600, .inl tx) := by rw [eF_12, va_up_ne _ _ (by omega)]; exact f_6
    have f_18 : F_12 (92) = .inl (g.2 0, 301, .inl (upd vl la.length x)) := by rw [eF_12, va_up_ne _ _ (by omega)]; exact f_7
    have f_19 : F_12 (93) = .inl (g.2 0, 28, .inl ey) := by rw [eF_12, va_up_ne _ _ (by omega)]; exact f_8
    have f_20 : F_12 (94) = .inl (g.2 0, 28, .inl ap) := by rw [eF_12, va_up_ne _ _ (by omega)]; exact f_9
    have f_21 : F_12 (95) = .inl (g.2 0, 204, .inl md) := by rw [eF_12, va_up_ne _ _ (by omega)]; exact f_10
    have hf_22 : mFr F_1 F_12 := fun x hx => by rw [eF_12, va_up_ne _ _ (by omega)]
    have hX : (md_ad 300 la x) = (la ++ [x], 0) := if_pos (by omega)
    have e87 := f_13
    exact hp_retv S hK hW hr hlk d_M_add_38 (by rw [hX]; exact ⟨⟨tp, hs, sz, tx, ((upd vl la.length x)), ey, md, ⟨(by rw [e87, List.length_append, List.length_singleton, nI_succ] <;> rfl), f_14, f_15, f_16, f_17, f_18, f_19, f_20, f_21⟩, ⟨htl, htp⟩, hT, ⟨by rw [List.length_append, List.length_singleton]; omega, mL_push hvl⟩, hKs, hml0, hmd⟩, (hf_11.tr hf_22)⟩)
  · have c_7i := c_7
    replace c_7 : la.length = 300 := (nI_eq (a := la.length) (b := 300) (by omega) (by omega)).mp c_7
    refine lv_aload_n hx hb d_M_add_10 rfl (lv_at hl 0 rfl) ?_
    refine lv_bipush (v := 8) hx hb d_M_add_11 (by decide) ?_
    refine lv_iload_n hx hb d_M_add_13 rfl (lv_at hl 2 rfl) ?_
    refine hp_gov hW (va_runV S (m_fails l g z0 N ad F hN tape kn rt la mm stk ap tc fp me dp fa ou ki nu be hS 8 a) (cwV 2 hts (tb_V cd_M_fails tq_121 tq_122 tq_123 tq_118) rfl rfl rfl hd_M_fails (rk_ok (by omega) (by omega))) (hp_preV hK hW (by omega) rfl hR.1 rfl) rfl rfl hl.1 rfl (lv_room (Nat.le_of_ble_eq_true rfl)) d_M_add_14 ⟨Nat.zero_le _, Nat.zero_le _⟩) (fun F_24 H locs hw hW => ?_)
    obtain ⟨hS1, hg1⟩ := hw
    obtain ⟨tp, hs, sz, tx, vl, ey, md, hR, ⟨htl, htp⟩, hT, ⟨hll, hvl⟩, hKs, hml0, hmd⟩ := id hS1
    have hX : (md_ad 300 la x) = (la, 8) := if_neg (by omega)
    exact hp_retv S hK hW hr hlk d_M_add_17 (by rw [hX]; exact ⟨hS1, hg1⟩)

theorem gd0 {l : List Nat} {i : Nat} (h : i < l.length) : l.getD i 0 = l[i] := by simp [h]
theorem if8 {α : Type} {f : Int32} {x y : α} {mm : List Int32} (h : f = 0) : (if ¬ ((mm, 8) : List Int32 × Nat).2 = 0 ∧ f = 0 then x else y) = x := if_pos ⟨(fun z => by cases z), h⟩
theorem if8n {α : Type} {f : Int32} {x y : α} {mm : List Int32} (h : ¬ f = 0) : (if ¬ ((mm, 8) : List Int32 × Nat).2 = 0 ∧ f = 0 then x else y) = y := if_neg (fun z => h z.2)
theorem if80 {α : Type} {f : Int32} {x y : α} {mm : List Int32} : (if ¬ ((mm, 0) : List Int32 × Nat).2 = 0 ∧ f = 0 then x else y) = y := if_neg (fun z => z.1 rfl)
theorem open_yes {kn : Nat → Bool} {ey : Nat → Int32} {stk : List Nat} {k d : Nat} (h : mK kn ey stk) (hk : k < 26) (h1 : 1 ≤ d) (h2 : d ≤ stk.length) (e : ey d = nI k) : k ∈ stk := by
  have h3 := h.2.1 (stk.length - d) (by omega)
  rw [show stk.length - (stk.length - d) = d by omega, e] at h3
  have hm : stk.getD (stk.length - d) 0 ∈ stk := by
    rw [gd0 (by omega)]
    exact List.getElem_mem _
  have h4 := (h.2.2 _ hm).1
  rw [nI_eq (by omega) (by omega)] at h3
  rw [h3]
  exact hm
theorem open_no {kn : Nat → Bool} {ey : Nat → Int32} {stk : List Nat} {k : Nat} (h : mK kn ey stk) (hn : ∀ d, 1 ≤ d → d < stk.length + 1 → ¬ ey d = nI k) : k ∉ stk := by
  intro hm
  obtain ⟨i, hi, e⟩ := List.getElem_of_mem hm
  have h3 := h.2.1 i hi
  rw [gd0 hi, e] at h3
  exact hn (stk.length - i) (by omega) (by omega) h3

/-! the reference: isOpen, its loop -/
set_option maxHeartbeats 400000 in
set_option maxRecDepth 100000 in
theorem lp_m_isOpen {p : Program} {e : Env} {s : State} {m : MethodId} {args : Array Value} {below : List Frame} {meth : Method} {c : Code} (l : Launch) (g : hp_G) (z0 N : Nat) (ad : Nat → Nat)  (F : Nat → va_E) (hN : 96 ≤ N) (tape : List Int32) (kn : Nat → Bool) (rt : Nat → List Int32) (la mm : List Int32) (stk : List Nat) (ap : Nat → Int32) (tc fp me dp fa ou ki nu be : Int32) (hS : mS g ad F tape kn rt la mm stk ap tc fp me dp fa ou ki nu be) (tp hs sz tx vl ey md : Nat → Int32) (hR : mSt g ad F tc (nI tape.length) (nI la.length) fp me dp (nI stk.length) fa ou ki nu be (nI mm.length) tp hs sz tx vl ey ap md) (hKs : mK kn ey stk) (k : Nat) (hk : k < 26) (S : CallFix p m c cc_M_isOpen 3 s args ws_M_isOpen R_M) (hr : meth.sig.returnType = (some .boolean)) (hlk : meth.locks = false) (hK : hp_K g s) : ∀ (j : Nat) (d : Nat), d ≤ stk.length + 1 → stk.length + 2 ≤ d + j → 1 ≤ d → (∀ z, 1 ≤ z → z < d → ¬ ey z = nI k) → ∀ (H : Heap) (locs : List Loc) (ls : Array Slot), hp_W g z0 N ad F s.heap H locs → lv_has ls 3 [(0, .ref (ad 87)), (1, .int (nI k)), (2, .int (nI d))] → W p l e (rk 0) s m args below meth c H locs 0 0 (MQ below (va_Qi (fun v F' => v = b2 (decide (k ∈ stk)) ∧ F' = F) (hp_B g z0 N ad) (hp_A z0)) args s 0 0 (hp_A z0)) (F0 m 2 ls []) := by
  obtain ⟨hx, hb, hml, hown, hts⟩ := id S
  have in_kM : ∀ w ∈ u_ws R_M T_M 21, w ∈ ws_M_isOpen := fun w h => List.mem_cons_of_mem _ (in0_M w h)
  intro j
  induction j with
  | zero =>
    intro d hd1 hj hd0 hno H locs ls hW hl
    exact absurd hj (by omega)
  | succ j ih =>
    intro d hd1 hj hd0 hno H locs ls hW hl
    have hsl := hKs.1
    refine lv_iload_n hx hb d_M_isOpen_2 rfl (lv_at hl 2 rfl) ?_
    refine lv_aload_n hx hb d_M_isOpen_3 rfl (lv_at hl 0 rfl) ?_
    refine hp_get S hK hW (87) (by omega) rfl hR.1 rfl in_kM 11 (by decide) (hts _ (List.mem_cons_of_mem _ tq_107)) rfl d_M_isOpen_4 ?_
    refine lv_icmp_gt (tgt := 28) hx hb d_M_isOpen_7 (by decide) (fun c_7 => ?_) (fun c_7 => ?_)
    · have c_7i := c_7
      replace c_7 : stk.length < d := (nI_ltI (a := stk.length) (b := d) (by omega) (by omega)).mp c_7
      refine lv_iconst (v := 0) hx hb d_M_isOpen_28 (by decide) ?_
      exact hp_retz S hK hW hr hlk rfl d_M_isOpen_29 (⟨by rw [decide_eq_false (open_no hKs (fun z h1 h2 => hno z h1 (by omega)))]; rfl, rfl⟩)
    · have c_7i := c_7
      replace c_7 : ¬ stk.length < d := fun zz9 => c_7 ((nI_ltI (a := stk.length) (b := d) (by omega) (by omega)).mpr zz9)
      refine lv_aload_n hx hb d_M_isOpen_10 rfl (lv_at hl 0 rfl) ?_
      refine hp_get S hK hW (87) (by omega) rfl hR.1 rfl in_kM 12 (by decide) (hts _ (List.mem_cons_of_mem _ tq_108)) rfl d_M_isOpen_11 ?_
      refine lv_iload_n hx hb d_M_isOpen_14 rfl (lv_at hl 2 rfl) ?_
      refine hp_iald S hK hW (93) (by omega) rfl hR.2.2.2.2.2.2.1 (vp_in_nI (by omega) (by omega)) d_M_isOpen_15 ?_
      rw [show (ey ((nI d) : Int32).toNatClampNeg) = (ey d) from (by rw [nI_clamp (by omega)])]
      refine lv_iload_n hx hb d_M_isOpen_16 rfl (lv_at hl 1 rfl) ?_
      refine lv_icmp_ne (tgt := 22) hx hb d_M_isOpen_17 (by decide) (fun c_17 => ?_) (fun c_17 => ?_)
      · have c_17i := c_17
        refine lv_iinc (v := (nI (d + 1))) (lv' := [(2, .int (nI (d + 1))), (0, .ref (ad 87)), (1, .int (nI k))]) hx hb d_M_isOpen_22 hl (k := 2) rfl ((nI_succ (d)).symm) (by decide) rfl (fun ls hl => ?_)
        refine lv_goto (tgt := 2) hx hb d_M_isOpen_25 (by decide) ?_
        exact ih (d + 1) (by omega) (by omega) (by omega) (fun z h1 h2 => by rcases Nat.lt_or_ge z d with q | q; exact hno z h1 q; rw [show z = d by omega]; exact c_17i) H locs ls hW (lv_sub hl [1, 2, 0] rfl)
      · have c_17i := c_17
        refine lv_iconst (v := 1) hx hb d_M_isOpen_20 (by decide) ?_
        exact hp_retz S hK hW hr hlk rfl d_M_isOpen_21 (⟨by rw [decide_eq_true (open_yes hKs hk hd0 (by omega) c_17i)]; rfl, rfl⟩)

/-! the reference: isOpen -/
set_option maxHeartbeats 400000 in
set_option maxRecDepth 100000 in
theorem m_isOpen (l : Launch) (g : hp_G) (z0 N : Nat) (ad : Nat → Nat) (F : Nat → va_E) (hN : 96 ≤ N) (tape : List Int32) (kn : Nat → Bool) (rt : Nat → List Int32) (la mm : List Int32) (stk : List Nat) (ap : Nat → Int32) (tc fp me dp fa ou ki nu be : Int32) (hS : mS g ad F tape kn rt la mm stk ap tc fp me dp fa ou ki nu be) (k : Nat) (hk : k < 26) : hp_Mi l g z0 N ad y_M_isOpen ws_M_isOpen (rk 0) [.ref (ad 87), .int (nI k)] F (fun v F' => v = b2 (decide (k ∈ stk)) ∧ F' = F) := by
  obtain ⟨tp, hs, sz, tx, vl, ey, md, hR, ⟨htl, htp⟩, hT, ⟨hll, hvl⟩, hKs, hml0, hmd⟩ := id hS
  refine hp_enter (cc := cc_M_isOpen) (maxL := 3) (ret := (some .boolean)) (by decide) rfl (Nat.le_of_ble_eq_true rfl) ?_
  intro p e s m below meth c S hr hlk hnm hK hW ls hl
  have hl : lv_has ls 3 [(0, .ref (ad 87)), (1, .int (nI k))] := hl
  obtain ⟨hx, hb, hml, hown, hts⟩ := id S
  have in_kM : ∀ w ∈ u_ws R_M T_M 21, w ∈ ws_M_isOpen := fun w h => List.mem_cons_of_mem _ (in0_M w h)
  refine lv_iconst (v := 1) hx hb d_M_isOpen_0 (by decide) ?_
  refine lv_istore_n (lv' := [(2, .int 1), (0, .ref (ad 87)), (1, .int (nI k))]) hx hb d_M_isOpen_1 rfl hl (by decide) rfl (fun ls hl => ?_)
  exact lp_m_isOpen l g z0 N ad F hN tape kn rt la mm stk ap tc fp me dp fa ou ki nu be hS tp hs sz tx vl ey md hR hKs k hk S hr hlk hK (stk.length + 2) 1 (by omega) (by omega) (by omega) (fun z h1 h2 => by omega) _ _ ls hW (lv_sub hl [1, 2, 0] rfl)

/-! the reference: begin -/
set_option maxHeartbeats 400000 in
set_option maxRecDepth 100000 in
theorem m_begin (l : Launch) (g : hp_G) (z0 N : Nat) (ad : Nat → Nat) (F : Nat → va_E) (hN : 96 ≤ N) (tape : List Int32) (kn : Nat → Bool) (rt : Nat → List Int32) (la mm : List Int32) (stk : List Nat) (ap : Nat → Int32) (tc fp me dp fa ou ki nu be : Int32) (hS : mS g ad F tape kn rt la mm stk ap tc fp me dp fa ou ki nu be) : hp_Mv l g z0 N ad y_M_begin ws_M_begin (rk 0) [.ref (ad 87)] F (fun F' => mS g ad F' tape kn rt la mm [] (upd ap 0 0) tc (-1) me dp 0 ou ki nu be ∧ mFr F F') := by
  obtain ⟨tp, hs, sz, tx, vl, ey, md, hR, ⟨htl, htp⟩, hT, ⟨hll, hvl⟩, hKs, hml0, hmd⟩ := id hS
  refine hp_enter (cc := cc_M_begin) (maxL := 1) (ret := none) (by decide) rfl (Nat.le_of_ble_eq_true rfl) ?_
  intro p e s m below meth c S hr hlk hnm hK hW ls hl
  have hl : lv_has ls 1 [(0, .ref (ad 87))] := hl
  obtain ⟨hx, hb, hml, hown, hts⟩ := id S
  have in_kM : ∀ w ∈ u_ws R_M T_M 21, w ∈ ws_M_begin := fun w h => List.mem_cons_of_mem _ (in0_M w h)
  refine lv_aload_n hx hb d_M_begin_0 rfl (lv_at hl 0 rfl) ?_
  refine lv_iconst (v := 0) hx hb d_M_begin_1 (by decide) ?_
  refine hp_put S hK hW (87) (by omega) rfl hR.1 rfl in_kM tyok_M nm_M 14 (by decide) (hts _ (List.mem_cons_of_mem _ tq_110)) rfl rfl rfl (Nat.le_of_ble_eq_true rfl) d_M_begin_2 (fun H locs hW => ?_)
  obtain ⟨F_1, eF_1⟩ : ∃ z, z = va_up F (87) (.inr (kM, [.int tc, .ref (ad 88), .int (nI tape.length), .ref (ad 89), .ref (ad 90), .ref (ad 91), .ref (ad 92), .int (nI la.length), .int fp, .int me, .int dp, .int (nI stk.length), .ref (ad 93), .ref (ad 94), .int 0, .int ou, .int ki, .int nu, .int be, .ref (ad 95), .int (nI mm.length)])) := ⟨_, rfl⟩
  replace hW : hp_W g z0 N ad F_1 s.heap H locs := by rw [eF_1]; exact hW
  have f_2 : F_1 (87) = .inr (kM, [.int tc, .ref (ad 88), .int (nI tape.length), .ref (ad 89), .ref (ad 90), .ref (ad 91), .ref (ad 92), .int (nI la.length), .int fp, .int me, .int dp, .int (nI stk.length), .ref (ad 93), .ref (ad 94), .int 0, .int ou, .int ki, .int nu, .int be, .ref (ad 95), .int (nI mm.length)]) := by rw [eF_1, va_up_self]
  have f_3 : F_1 (88) = .inl (g.2 0, 200, .inl tp) := by rw [eF_1, va_up_ne _ _ (by omega)]; exact hR.2.1
  have f_4 : F_1 (89) = .inl (g.2 2, 26, .inl hs) := by rw [eF_1, va_up_ne _ _ (by omega)]; exact hR.2.2.1
  have f_5 : F_1 (90) = .inl (g.2 0, 26, .inl sz) := by rw [eF_1, va_up_ne _ _ (by omega)]; exact hR.2.2.2.1
  have f_6 : F_1 (91) = .inl (g.2 0, 2600, .inl tx) := by rw [eF_1, va_up_ne _ _ (by omega)]; exact hR.2.2.2.2.1
  have f_7 : F_1 (92) = .inl (g.2 0, 301, .inl vl) := by rw [eF_1, va_up_ne _ _ (by omega)]; exact hR.2.2.2.2.2.1
  have f_8 : F_1 (93) = .inl (g.2 0, 28, .inl ey) := by rw [eF_1, va_up_ne _ _ (by omega)]; exact hR.2.2.2.2.2.2.1
  have f_9 : F_1 (94) = .inl (g.2 0, 28, .inl ap) := by rw [eF_1, va_up_ne _ _ (by omega)]; exact hR.2.2.2.2.2.2.2.1
  have f_10 : F_1 (95) = .inl (g.2 0, 204, .inl md) := by rw [eF_1, va_up_ne _ _ (by omega)]; exact hR.2.2.2.2.2.2.2.2
  have hf_11 : mFr F F_1 := fun x hx => by rw [eF_1, va_up_ne _ _ (by omega)]
  refine lv_aload_n hx hb d_M_begin_5 rfl (lv_at hl 0 rfl) ?_
  refine lv_iconst (v := (-1)) hx hb d_M_begin_6 (by decide) ?_
  refine hp_put S hK hW (87) (by omega) rfl f_2 rfl in_kM tyok_M nm_M 8 (by decide) (hts _ (List.mem_cons_of_mem _ tq_104)) rfl rfl rfl (Nat.le_of_ble_eq_true rfl) d_M_begin_7 (fun H locs hW => ?_)
  obtain ⟨F_12, eF_12⟩ : ∃ z, z = va_up F_1 (87) (.inr (kM, [.int tc, .ref (ad 88), .int (nI tape.length), .ref (ad 89), .ref (ad 90), .ref (ad 91), .ref (ad 92), .int (nI la.length), .int (-1), .int me, .int dp, .int (nI stk.length), .ref (ad 93), .ref (ad 94), .int 0, .int ou, .int ki, .int nu, .int be, .ref (ad 95), .int (nI mm.length)])) := ⟨_, rfl⟩
  replace hW : hp_W g z0 N ad F_12 s.heap H locs := by rw [eF_12]; exact hW
  have f_13 : F_12 (87) = .inr (kM, [.int tc, .ref (ad 88), .int (nI tape.length), .ref (ad 89), .ref (ad 90), .ref (ad 91), .ref (ad 92), .int (nI la.length), .int (-1), .int me, .int dp, .int (nI stk.length), .ref (ad 93), .ref (ad 94), .int 0, .int ou, .int ki, .int nu, .int be, .ref (ad 95), .int (nI mm.length)]) := by rw [eF_12, va_up_self]
  have f_14 : F_12 (88) = .inl (g.2 0, 200, .inl tp) := by rw [eF_12, va_up_ne _ _ (by omega)]; exact f_3
  have f_15 : F_12 (89) = .inl (g.2 2, 26, .inl hs) := by rw [eF_12, va_up_ne _ _ (by omega)]; exact f_4
  have f_16 : F_12 (90) = .inl (g.2 0, 26, .inl sz) := by rw [eF_12, va_up_ne _ _ (by omega)]; exact f_5
  have f_17 : F_12 (91) = .inl (g.2 0, 2600, .inl tx) := by rw [eF_12, va_up_ne _ _ (by omega)]; exact f_6
  have f_18 : F_12 (92) = .inl (g.2 0, 301, .inl vl) := by rw [eF_12, va_up_ne _ _ (by omega)]; exact f_7
  have f_19 : F_12 (93) = .inl (g.2 0, 28, .inl ey) := by rw [eF_12, va_up_ne _ _ (by omega)]; exact f_8
  have f_20 : F_12 (94) = .inl (g.2 0, 28, .inl ap) := by rw [eF_12, va_up_ne _ _ (by omega)]; exact f_9
  have f_21 : F_12 (95) = .inl (g.2 0, 204, .inl md) := by rw [eF_12, va_up_ne _ _ (by omega)]; exact f_10
  have hf_22 : mFr F_1 F_12 := fun x hx => by rw [eF_12, va_up_ne _ _ (by omega)]
  refine lv_aload_n hx hb d_M_begin_10 rfl (lv_at hl 0 rfl) ?_
  refine lv_iconst (v := 0) hx hb d_M_begin_11 (by decide) ?_
  refine hp_put S hK hW (87) (by omega) rfl f_13 rfl in_kM tyok_M nm_M 11 (by decide) (hts _ (List.mem_cons_of_mem _ tq_107)) rfl rfl rfl (Nat.le_of_ble_eq_true rfl) d_M_begin_12 (fun H locs hW => ?_)
  obtain ⟨F_23, eF_23⟩ : ∃ z, z = va_up F_12 (87) (.inr (kM, [.int tc, .ref (ad 88), .int (nI tape.length), .ref (ad 89), .ref (ad 90), .ref (ad 91), .ref (ad 92), .int (nI la.length), .int (-1), .int me, .int dp, .int 0, .ref (ad 93), .ref (ad 94), .int 0, .int ou, .int ki, .int nu, .int be, .ref (ad 95), .int (nI mm.length)])) := ⟨_, rfl⟩
  replace hW : hp_W g z0 N ad F_23 s.heap H locs := by rw [eF_23]; exact hW
  have f_24 : F_23 (87) = .inr (kM, [.int tc, .ref (ad 88), .int (nI tape.length), .ref (ad 89), .ref (ad 90), .ref (ad 91), .ref (ad 92), .int (nI la.length), .int (-1), .int me, .int dp, .int 0, .ref (ad 93), .ref (ad 94), .int 0, .int ou, .int ki, .int nu, .int be, .ref (ad 95), .int (nI mm.length)]) := by rw [eF_23, va_up_self]
  have f_25 : F_23 (88) = .inl (g.2 0, 200, .inl tp) := by rw [eF_23, va_up_ne _ _ (by omega)]; exact f_14
  have f_26 : F_23 (89) = .inl (g.2 2, 26, .inl hs) := by rw [eF_23, va_up_ne _ _ (by omega)]; exact f_15
  have f_27 : F_23 (90) = .inl (g.2 0, 26, .inl sz) := by rw [eF_23, va_up_ne _ _ (by omega)]; exact f_16
  have f_28 : F_23 (91) = .inl (g.2 0, 2600, .inl tx) := by rw [eF_23, va_up_ne _ _ (by omega)]; exact f_17
  have f_29 : F_23 (92) = .inl (g.2 0, 301, .inl vl) := by rw [eF_23, va_up_ne _ _ (by omega)]; exact f_18
  have f_30 : F_23 (93) = .inl (g.2 0, 28, .inl ey) := by rw [eF_23, va_up_ne _ _ (by omega)]; exact f_19
  have f_31 : F_23 (94) = .inl (g.2 0, 28, .inl ap) := by rw [eF_23, va_up_ne _ _ (by omega)]; exact f_20
  have f_32 : F_23 (95) = .inl (g.2 0, 204, .inl md) := by rw [eF_23, va_up_ne _ _ (by omega)]; exact f_21
  have hf_33 : mFr F_12 F_23 := fun x hx => by rw [eF_23, va_up_ne _ _ (by omega)]
  refine lv_aload_n hx hb d_M_begin_15 rfl (lv_at hl 0 rfl) ?_
  refine hp_get S hK hW (87) (by omega) rfl f_24 rfl in_kM 13 (by decide) (hts _ (List.mem_cons_of_mem _ tq_109)) rfl d_M_begin_16 ?_
  refine lv_iconst (v := 0) hx hb d_M_begin_19 (by decide) ?_
  refine lv_iconst (v := 0) hx hb d_M_begin_20 (by decide) ?_
  refine hp_iast S hK hW (94) (by omega) rfl f_31 (x := 0) (vp_in_nI (n := 0) (by omega) (by omega)) d_M_begin_21 (fun H locs hW => ?_)
  obtain ⟨F_34, eF_34⟩ : ∃ z, z = va_up F_23 (94) (.inl (g.2 0, 28, .inl (upd ap 0 0))) := ⟨_, rfl⟩
  rw [show ((0 : Int32).toNatClampNeg) = 0 from rfl] at hW
  replace hW : hp_W g z0 N ad F_34 s.heap H locs := by rw [eF_34]; exact hW
  have f_35 : F_34 (87) = .inr (kM, [.int tc, .ref (ad 88), .int (nI tape.length), .ref (ad 89), .ref (ad 90), .ref (ad 91), .ref (ad 92), .int (nI la.length), .int (-1), .int me, .int dp, .int 0, .ref (ad 93), .ref (ad 94), .int 0, .int ou, .int ki, .int nu, .int be, .ref (ad 95), .int (nI mm.length)]) := by rw [eF_34, va_up_ne _ _ (by omega)]; exact f_24
  have f_36 : F_34 (88) = .inl (g.2 0, 200, .inl tp) := by rw [eF_34, va_up_ne _ _ (by omega)]; exact f_25
  have f_37 : F_34 (89) = .inl (g.2 2, 26, .inl hs) := by rw [eF_34, va_up_ne _ _ (by omega)]; exact f_26
  have f_38 : F_34 (90) = .inl (g.2 0, 26, .inl sz) := by rw [eF_34, va_up_ne _ _ (by omega)]; exact f_27
  have f_39 : F_34 (91) = .inl (g.2 0, 2600, .inl tx) := by rw [eF_34, va_up_ne _ _ (by omega)]; exact f_28
  have f_40 : F_34 (92) = .inl (g.2 0, 301, .inl vl) := by rw [eF_34, va_up_ne _ _ (by omega)]; exact f_29
  have f_41 : F_34 (93) = .inl (g.2 0, 28, .inl ey) := by rw [eF_34, va_up_ne _ _ (by omega)]; exact f_30
  have f_42 : F_34 (94) = .inl (g.2 0, 28, .inl (upd ap 0 0)) := by rw [eF_34, va_up_self]
  have f_43 : F_34 (95) = .inl (g.2 0, 204, .inl md) := by rw [eF_34, va_up_ne _ _ (by omega)]; exact f_32
  have hf_44 : mFr F_23 F_34 := fun x hx => by rw [eF_34, va_up_ne _ _ (by omega)]
  exact hp_retv S hK hW hr hlk d_M_begin_22 (⟨⟨tp, hs, sz, tx, vl, ey, md, ⟨f_35, f_36, f_37, f_38, f_39, f_40, f_41, f_42, f_43⟩, ⟨htl, htp⟩, hT, ⟨hll, hvl⟩, ⟨Nat.zero_le _, fun i h => absurd h (Nat.not_lt_zero _), fun k h => absurd h List.not_mem_nil⟩, hml0, hmd⟩, (((hf_11.tr hf_22).tr hf_33).tr hf_44)⟩)

/-! the reference: defining -/
set_option maxHeartbeats 400000 in
set_option maxRecDepth 100000 in
theorem m_defining (l : Launch) (g : hp_G) (z0 N : Nat) (ad : Nat → Nat) (F : Nat → va_E) (hN : 96 ≤ N) (tape : List Int32) (kn : Nat → Bool) (rt : Nat → List Int32) (la mm : List Int32) (stk : List Nat) (ap : Nat → Int32) (tc fp me dp fa ou ki nu be : Int32) (hS : mS g ad F tape kn rt la mm stk ap tc fp me dp fa ou ki nu be) (x a : Int32) : hp_Mv l g z0 N ad y_M_defining ws_M_defining (rk 1) [.ref (ad 87), .int x, .int a] F (fun F' => mS g ad F' tape kn rt la (md_ad 100 mm x).1 stk ap tc (if ¬ (md_ad 100 mm x).2 = 0 ∧ fa = 0 then (if stk.length = 0 then a else ou) else fp) me dp (if ¬ (md_ad 100 mm x).2 = 0 ∧ fa = 0 then 8 else fa) ou ki nu be ∧ mFr F F') := by
  have hsl := (show stk.length ≤ 26 from by obtain ⟨tp, hs, sz, tx, vl, ey, md, hR, hA, hT, hB, hKs, hC⟩ := id hS; exact hKs.1)
  obtain ⟨tp, hs, sz, tx, vl, ey, md, hR, ⟨htl, htp⟩, hT, ⟨hll, hvl⟩, hKs, hml0, hmd⟩ := id hS
  refine hp_enter (cc := cc_M_defining) (maxL := 3) (ret := none) (by decide) rfl (Nat.le_of_ble_eq_true rfl) ?_
  intro p e s m below meth c S hr hlk hnm hK hW ls hl
  have hl : lv_has ls 3 [(0, .ref (ad 87)), (1, .int x), (2, .int a)] := hl
  obtain ⟨hx, hb, hml, hown, hts⟩ := id S
  have in_kM : ∀ w ∈ u_ws R_M T_M 21, w ∈ ws_M_defining := fun w h => List.mem_cons_of_mem _ (in0_M w h)
  refine lv_aload_n hx hb d_M_defining_0 rfl (lv_at hl 0 rfl) ?_
  refine hp_get S hK hW (87) (by omega) rfl hR.1 rfl in_kM 20 (by decide) (hts _ (List.mem_cons_of_mem _ tq_116)) rfl d_M_defining_1 ?_
  refine lv_bipush (v := 100) hx hb d_M_defining_4 (by decide) ?_
  refine lv_icmp_lt (tgt := 24) hx hb d_M_defining_6 (by decide) (fun c_6 => ?_) (fun c_6 => ?_)
  · have c_6i := c_6
    replace c_6 : mm.length < 100 := (nI_ltI (a := mm.length) (b := 100) (by omega) (by omega)).mp c_6
    refine lv_aload_n hx hb d_M_defining_24 rfl (lv_at hl 0 rfl) ?_
    refine hp_get S hK hW (87) (by omega) rfl hR.1 rfl in_kM 19 (by decide) (hts _ (List.mem_cons_of_mem _ tq_115)) rfl d_M_defining_25 ?_
    refine lv_aload_n hx hb d_M_defining_28 rfl (lv_at hl 0 rfl) ?_
    refine hp_get S hK hW (87) (by omega) rfl hR.1 rfl in_kM 20 (by decide) (hts _ (List.mem_cons_of_mem _ tq_116)) rfl d_M_defining_29 ?_
    refine lv_iload_n hx hb d_M_defining_32 rfl (lv_at hl 1 rfl) ?_
    refine hp_iast S hK hW (95) (by omega) rfl hR.2.2.2.2.2.2.2.2 (x := x) (vp_in_nI (by omega) (by omega)) d_M_defining_33 (fun H locs hW => ?_)
    obtain ⟨F_1, eF_1⟩ : ∃ z, z = va_up F (95) (.inl (g.2 0, 204, .inl (upd md mm.length x))) := ⟨_, rfl⟩
    rw [show (((nI mm.length) : Int32).toNatClampNeg) = mm.length from nI_clamp (by omega)] at hW
    replace hW : hp_W g z0 N ad F_1 s.heap H locs := by rw [eF_1]; exact hW
    have f_2 : F_1 (87) = .inr (kM, [.int tc, .ref (ad 88), .int (nI tape.length), .ref (ad 89), .ref (ad 90), .ref (ad 91), .ref (ad 92), .int (nI la.length), .int fp, .int me, .int dp, .int (nI stk.length), .ref (ad 93), .ref (ad 94), .int fa, .int ou, .int ki, .int nu, .int be, .ref (ad 95), .int (nI mm.length)]) := by rw [eF_1, va_up_ne _ _ (by omega)]; exact hR.1
    have f_3 : F_1 (88) = .inl (g.2 0, 200, .inl tp) := by rw [eF_1, va_up_ne _ _ (by omega)]; exact hR.2.1
    have f_4 : F_1 (89) = .inl (g.2 2, 26, .inl hs) := by rw [eF_1, va_up_ne _ _ (by omega)]; exact hR.2.2.1
    have f_5 : F_1 (90) = .inl (g.2 0, 26, .inl sz) := by rw [eF_1, va_up_ne _ _ (by omega)]; exact hR.2.2.2.1
    have f_6 : F_1 (91) = .inl (g.2 0, 2600, .inl tx) := by rw [eF_1, va_up_ne _ _ (by omega)]; exact hR.2.2.2.2.1
    have f_7 : F_1 (92) = .inl (g.2 0, 301, .inl vl) := by rw [eF_1, va_up_ne _ _ (by omega)]; exact hR.2.2.2.2.2.1
    have f_8 : F_1 (93) = .inl (g.2 0, 28, .inl ey) := by rw [eF_1, va_up_ne _ _ (by omega)]; exact hR.2.2.2.2.2.2.1
    have f_9 : F_1 (94) = .inl (g.2 0, 28, .inl ap) := by rw [eF_1, va_up_ne _ _ (by omega)]; exact hR.2.2.2.2.2.2.2.1
    have f_10 : F_1 (95) = .inl (g.2 0, 204, .inl (upd md mm.length x)) := by rw [eF_1, va_up_self]
    have hf_11 : mFr F F_1 := fun x hx => by rw [eF_1, va_up_ne _ _ (by omega)]
    refine lv_aload_n hx hb d_M_defining_34 rfl (lv_at hl 0 rfl) ?_
    refine lv_dup hx hb d_M_defining_35 rfl ?_
    refine hp_get S hK hW (87) (by omega) rfl f_2 rfl in_kM 20 (by decide) (hts _ (List.mem_cons_of_mem _ tq_116)) rfl d_M_defining_36 ?_
    refine lv_iconst (v := 1) hx hb d_M_defining_39 (by decide) ?_
    refine lv_iadd hx hb d_M_defining_40 ?_
    refine hp_put S hK hW (87) (by omega) rfl f_2 rfl in_kM tyok_M nm_M 20 (by decide) (hts _ (List.mem_cons_of_mem _ tq_116)) rfl rfl rfl (Nat.le_of_ble_eq_true rfl) d_M_defining_41 (fun H locs hW => ?_)
    obtain ⟨F_12, eF_12⟩ : ∃ z, z = va_up F_1 (87) (.inr (kM, [.int tc, .ref (ad 88), .int (nI tape.length), .ref (ad 89), .ref (ad 90), .ref (ad 91), .ref (ad 92), .int (nI la.length), .int fp, .int me, .int dp, .int (nI stk.length), .ref (ad 93), .ref (ad 94), .int fa, .int ou, .int ki, .int nu, .int be, .ref (ad 95), .int ((nI mm.length) + 1)])) := ⟨_, rfl⟩
    replace hW : hp_W g z0 N ad F_12 s.heap H locs := by rw [eF_12]; exact hW
    have f_13 : F_12 (87) = .inr (kM, [.int tc, .ref (ad 88), .int (nI tape.length), .ref (ad 89), .ref (ad 90), .ref (ad 91), .ref (ad 92), .int (nI la.length), .int fp, .int me, .int dp, .int (nI stk.length), .ref (ad 93), .ref (ad 94), .int fa, .int ou, .int ki, .int nu, .int be, .ref (ad 95), .int ((nI mm.length) + 1)]) := by rw [eF_12, va_up_self]
    have f_14 : F_12 (88) = .inl (g.2 0, 200, .inl tp) := by rw [eF_12, va_up_ne _ _ (by omega)]; exact f_3
    have f_15 : F_12 (89) = .inl (g.2 2, 26, .inl hs) := by rw [eF_12, va_up_ne _ _ (by omega)]; exact f_4
    have f_16 : F_12 (90) = .inl (g.2 0, 26, .inl sz) := by rw [eF_12, va_up_ne _ _ (by omega)]; exact f_5
    have f_17 : F_12 (91) = .inl (g.2 0, 2600, .inl tx) := by rw [eF_12, va_up_ne _ _ (by omega)]; exact f_6
    have f_18 : F_12 (92) = .inl (g.2 0, 301, .inl vl) := by rw [eF_12, va_up_ne _ _ (by omega)]; exact f_7
    have f_19 : F_12 (93) = .inl (g.2 0, 28, .inl ey) := by rw [eF_12, va_up_ne _ _ (by omega)]; exact f_8
    have f_20 : F_12 (94) = .inl (g.2 0, 28, .inl ap) := by rw [eF_12, va_up_ne _ _ (by omega)]; exact f_9
    have f_21 : F_12 (95) = .inl (g.2 0, 204, .inl (upd md mm.length x)) := by rw [eF_12, va_up_ne _ _ (by omega)]; exact f_10
    have hf_22 : mFr F_1 F_12 := fun x hx => by rw [eF_12, va_up_ne _ _ (by omega)]
    have hX : (md_ad 100 mm x) = (mm ++ [x], 0) := if_pos (by omega)
    have e87 := f_13
    exact hp_retv S hK hW hr hlk d_M_defining_44 (by rw [hX]; exact ⟨by rw [if80, if80]; exact ⟨tp, hs, sz, tx, vl, ey, ((upd md mm.length x)), ⟨(by rw [e87, List.length_append, List.length_singleton, nI_succ] <;> rfl), f_14, f_15, f_16, f_17, f_18, f_19, f_20, f_21⟩, ⟨htl, htp⟩, hT, ⟨hll, hvl⟩, hKs, (by rw [List.length_append, List.length_singleton]; omega), mL_push hmd⟩, (hf_11.tr hf_22)⟩)
  · have c_6i := c_6
    replace c_6 : ¬ mm.length < 100 := fun zz9 => c_6 ((nI_ltI (a := mm.length) (b := 100) (by omega) (by omega)).mpr zz9)
    refine lv_aload_n hx hb d_M_defining_9 rfl (lv_at hl 0 rfl) ?_
    refine hp_get S hK hW (87) (by omega) rfl hR.1 rfl in_kM 14 (by decide) (hts _ (List.mem_cons_of_mem _ tq_110)) rfl d_M_defining_10 ?_
    refine lv_if_ne (tgt := 23) hx hb d_M_defining_13 (by decide) (fun c_13 => ?_) (fun c_13 => ?_)
    · have c_13i := c_13
      have hX : (md_ad 100 mm x) = (mm, 8) := if_neg (by omega)
      exact hp_retv S hK hW hr hlk d_M_defining_23 (by rw [hX]; exact ⟨by rw [if8n c_13i, if8n c_13i]; exact hS, mFr.rf⟩)
    · have c_13i := c_13
      refine lv_aload_n hx hb d_M_defining_16 rfl (lv_at hl 0 rfl) ?_
      refine lv_bipush (v := 8) hx hb d_M_defining_17 (by decide) ?_
      refine lv_iload_n hx hb d_M_defining_19 rfl (lv_at hl 2 rfl) ?_
      refine hp_gov hW (va_runV S (m_fails l g z0 N ad F hN tape kn rt la mm stk ap tc fp me dp fa ou ki nu be hS 8 a) (cwV 2 hts (tb_V cd_M_fails tq_121 tq_122 tq_123 tq_118) rfl rfl rfl hd_M_fails (rk_ok (by omega) (by omega))) (hp_preV hK hW (by omega) rfl hR.1 rfl) rfl rfl hl.1 rfl (lv_room (Nat.le_of_ble_eq_true rfl)) d_M_defining_20 ⟨Nat.zero_le _, Nat.zero_le _⟩) (fun F_24 H locs hw hW => ?_)
      obtain ⟨hS1, hg1⟩ := hw
      obtain ⟨tp, hs, sz, tx, vl, ey, md, hR, ⟨htl, htp⟩, hT, ⟨hll, hvl⟩, hKs, hml0, hmd⟩ := id hS1
      have hX : (md_ad 100 mm x) = (mm, 8) := if_neg (by omega)
      exact hp_retv S hK hW hr hlk d_M_defining_23 (by rw [hX]; exact ⟨by rw [if8 c_13i, if8 c_13i]; exact hS1, hg1⟩)
