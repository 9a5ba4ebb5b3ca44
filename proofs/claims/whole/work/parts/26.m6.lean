theorem le25 {x : Int32} (h : x ≤ 25) : x < 26 := by
  rw [Int32.le_iff_toInt_le] at h
  rw [Int32.lt_iff_toInt_lt]
  have e1 : (25 : Int32).toInt = 25 := rfl
  have e2 : (26 : Int32).toInt = 26 := rfl
  omega

/-! the reference: trim, its loop -/
set_option maxHeartbeats 400000 in
set_option maxRecDepth 100000 in
theorem lp_trim {p : Program} {e : Env} {s : State} {m : MethodId} {args : Array Value} {below : List Frame} {meth : Method} {c : Code} (l : Launch) (g : hp_G) (z0 N : Nat) (ad : Nat → Nat)  (hN : 96 ≤ N) (tape : List Int32) (kn : Nat → Bool) (rt : Nat → List Int32) (la mm : List Int32) (stk : List Nat) (ap : Nat → Int32) (tc fp me dp fa ou ki nu be : Int32) (tp hs sz tx ey md : Nat → Int32) (htl : tape.length ≤ 200) (htp : mL tp 0 tape) (hT : mT kn rt hs sz tx) (hll : la.length ≤ 300) (hKs : mK kn ey stk) (hml0 : mm.length ≤ 100) (hmd : mL md 0 mm) (Fz : Nat → va_E) (S : CallFix p m c cc_M_trim 4 s args ws_M_trim R_M) (hr : meth.sig.returnType = none) (hlk : meth.locks = false) (hK : hp_K g s) : ∀ (j : Nat) (i : Nat) (F : Nat → va_E) (vl : Nat → Int32), i ≤ la.length → la.length + 1 ≤ i + j → mSt g ad F tc (nI tape.length) (nI la.length) fp me dp (nI stk.length) fa ou ki nu be (nI mm.length) tp hs sz tx vl ey ap md → sqI vl la i → mFr Fz F → ∀ (H : Heap) (locs : List Loc) (ls : Array Slot), hp_W g z0 N ad F s.heap H locs → lv_has ls 4 [(0, .ref (ad 87)), (1, .int (nI (md_sqs la i).length)), (2, .int (nI i))] → W p l e (rk 0) s m args below meth c H locs 0 0 (MQ below (va_Qv (fun F' => mS g ad F' tape kn rt (md_sq la) mm stk ap tc fp me dp fa ou ki nu be ∧ mFr Fz F') (hp_B g z0 N ad) (hp_A z0)) args s 0 0 (hp_A z0)) (F0 m 4 ls []) := by
  obtain ⟨hx, hb, hml, hown, hts⟩ := id S
  have in_kM : ∀ w ∈ u_ws R_M T_M 21, w ∈ ws_M_trim := fun w h => List.mem_cons_of_mem _ (in0_M w h)
  intro j
  induction j with
  | zero =>
    intro i F vl hi hj hR hI hfr H locs ls hW hl
    exact absurd hj (by omega)
  | succ j ih =>
    intro i F vl hi hj hR hI hfr H locs ls hW hl
    refine lv_iload_n hx hb d_M_trim_4 rfl (lv_at hl 2 rfl) ?_
    refine lv_aload_n hx hb d_M_trim_5 rfl (lv_at hl 0 rfl) ?_
    refine hp_get S hK hW (87) (by omega) rfl hR.1 rfl in_kM 7 (by decide) (hts _ (List.mem_cons_of_mem _ tq_103)) rfl d_M_trim_6 ?_
    refine lv_icmp_ge (tgt := 71) hx hb d_M_trim_9 (by decide) (fun c_9 => ?_) (fun c_9 => ?_)
    · have c_9i := c_9
      replace c_9 : la.length ≤ i := (nI_leI (a := la.length) (b := i) (by omega) (by omega)).mp c_9
      have hlen := md_sqs_len la i
      refine lv_iload_n hx hb d_M_trim_71 rfl (lv_at hl 1 rfl) ?_
      refine lv_if_le (tgt := 91) hx hb d_M_trim_72 (by decide) (fun c_72 => ?_) (fun c_72 => ?_)
      · have c_72i := c_72
        replace c_72 : (md_sqs la i).length ≤ 0 := (nI_leI (a := (md_sqs la i).length) (b := 0) (by omega) (by omega)).mp c_72
        refine lv_aload_n hx hb d_M_trim_91 rfl (lv_at hl 0 rfl) ?_
        refine lv_iload_n hx hb d_M_trim_92 rfl (lv_at hl 1 rfl) ?_
        refine hp_put S hK hW (87) (by omega) rfl hR.1 rfl in_kM tyok_M nm_M 7 (by decide) (hts _ (List.mem_cons_of_mem _ tq_103)) rfl rfl rfl (Nat.le_of_ble_eq_true rfl) d_M_trim_93 (fun H locs hW => ?_)
        obtain ⟨F_1, eF_1⟩ : ∃ z, z = va_up F (87) (.inr (kM, [.int tc, .ref (ad 88), .int (nI tape.length), .ref (ad 89), .ref (ad 90), .ref (ad 91), .ref (ad 92), .int (nI (md_sqs la i).length), .int fp, .int me, .int dp, .int (nI stk.length), .ref (ad 93), .ref (ad 94), .int fa, .int ou, .int ki, .int nu, .int be, .ref (ad 95), .int (nI mm.length)])) := ⟨_, rfl⟩
        replace hW : hp_W g z0 N ad F_1 s.heap H locs := by rw [eF_1]; exact hW
        have f_2 : F_1 (87) = .inr (kM, [.int tc, .ref (ad 88), .int (nI tape.length), .ref (ad 89), .ref (ad 90), .ref (ad 91), .ref (ad 92), .int (nI (md_sqs la i).length), .int fp, .int me, .int dp, .int (nI stk.length), .ref (ad 93), .ref (ad 94), .int fa, .int ou, .int ki, .int nu, .int be, .ref (ad 95), .int (nI mm.length)]) := by rw [eF_1, va_up_self]
        have f_3 : F_1 (88) = .inl (g.2 0, 200, .inl tp) := by rw [eF_1, va_up_ne _ _ (by omega)]; exact hR.2.1
        have f_4 : F_1 (89) = .inl (g.2 2, 26, .inl hs) := by rw [eF_1, va_up_ne _ _ (by omega)]; exact hR.2.2.1
        have f_5 : F_1 (90) = .inl (g.2 0, 26, .inl sz) := by rw [eF_1, va_up_ne _ _ (by omega)]; exact hR.2.2.2.1
        have f_6 : F_1 (91) = .inl (g.2 0, 2600, .inl tx) := by rw [eF_1, va_up_ne _ _ (by omega)]; exact hR.2.2.2.2.1
        have f_7 : F_1 (92) = .inl (g.2 0, 301, .inl vl) := by rw [eF_1, va_up_ne _ _ (by omega)]; exact hR.2.2.2.2.2.1
        have f_8 : F_1 (93) = .inl (g.2 0, 28, .inl ey) := by rw [eF_1, va_up_ne _ _ (by omega)]; exact hR.2.2.2.2.2.2.1
        have f_9 : F_1 (94) = .inl (g.2 0, 28, .inl ap) := by rw [eF_1, va_up_ne _ _ (by omega)]; exact hR.2.2.2.2.2.2.2.1
        have f_10 : F_1 (95) = .inl (g.2 0, 204, .inl md) := by rw [eF_1, va_up_ne _ _ (by omega)]; exact hR.2.2.2.2.2.2.2.2
        have hf_11 : mFr F F_1 := fun x hx => by rw [eF_1, va_up_ne _ _ (by omega)]
        have ei : i = la.length := by omega
        subst ei
        have e87 := f_2
        have hcut := cut_f (a := md_sqs la la.length) (fun q => by omega)
        exact hp_retv S hK hW hr hlk d_M_trim_96 (⟨⟨tp, hs, sz, tx, vl, ey, md, ⟨(by rw [e87]; unfold md_sq; rw [hcut]), f_3, f_4, f_5, f_6, f_7, f_8, f_9, f_10⟩, ⟨htl, htp⟩, hT, ⟨by unfold md_sq; rw [hcut]; omega, fun j hj => by unfold md_sq at hj ⊢; rw [hcut] at hj ⊢; rw [Nat.zero_add]; exact hI.1 j hj⟩, hKs, hml0, hmd⟩, hfr.tr hf_11⟩)
      · have c_72i := c_72
        replace c_72 : ¬ (md_sqs la i).length ≤ 0 := fun zz9 => c_72 ((nI_leI (a := (md_sqs la i).length) (b := 0) (by omega) (by omega)).mpr zz9)
        refine lv_aload_n hx hb d_M_trim_75 rfl (lv_at hl 0 rfl) ?_
        refine hp_get S hK hW (87) (by omega) rfl hR.1 rfl in_kM 6 (by decide) (hts _ (List.mem_cons_of_mem _ tq_102)) rfl d_M_trim_76 ?_
        refine lv_iload_n hx hb d_M_trim_79 rfl (lv_at hl 1 rfl) ?_
        refine lv_iconst (v := 1) hx hb d_M_trim_80 (by decide) ?_
        refine lv_isub hx hb d_M_trim_81 ?_
        rw [show ((nI (md_sqs la i).length) - 1) = (nI ((md_sqs la i).length - 1)) from (pk_sub (b := 1) (by omega))]
        refine hp_iald S hK hW (92) (by omega) rfl hR.2.2.2.2.2.1 (vp_in_nI (by omega) (by omega)) d_M_trim_82 ?_
        rw [show (vl ((nI ((md_sqs la i).length - 1)) : Int32).toNatClampNeg) = (md_at (md_sqs la i) ((md_sqs la i).length - 1)) from (by rw [nI_clamp (by omega)]; exact hI.1 _ (by omega))]
        refine lv_bipush (v := 32) hx hb d_M_trim_83 (by decide) ?_
        refine lv_icmp_ne (tgt := 91) hx hb d_M_trim_85 (by decide) (fun c_85 => ?_) (fun c_85 => ?_)
        · have c_85i := c_85
          refine lv_aload_n hx hb d_M_trim_91 rfl (lv_at hl 0 rfl) ?_
          refine lv_iload_n hx hb d_M_trim_92 rfl (lv_at hl 1 rfl) ?_
          refine hp_put S hK hW (87) (by omega) rfl hR.1 rfl in_kM tyok_M nm_M 7 (by decide) (hts _ (List.mem_cons_of_mem _ tq_103)) rfl rfl rfl (Nat.le_of_ble_eq_true rfl) d_M_trim_93 (fun H locs hW => ?_)
          obtain ⟨F_12, eF_12⟩ : ∃ z, z = va_up F (87) (.inr (kM, [.int tc, .ref (ad 88), .int (nI tape.length), .ref (ad 89), .ref (ad 90), .ref (ad 91), .ref (ad 92), .int (nI (md_sqs la i).length), .int fp, .int me, .int dp, .int (nI stk.length), .ref (ad 93), .ref (ad 94), .int fa, .int ou, .int ki, .int nu, .int be, .ref (ad 95), .int (nI mm.length)])) := ⟨_, rfl⟩
          replace hW : hp_W g z0 N ad F_12 s.heap H locs := by rw [eF_12]; exact hW
          have f_13 : F_12 (87) = .inr (kM, [.int tc, .ref (ad 88), .int (nI tape.length), .ref (ad 89), .ref (ad 90), .ref (ad 91), .ref (ad 92), .int (nI (md_sqs la i).length), .int fp, .int me, .int dp, .int (nI stk.length), .ref (ad 93), .ref (ad 94), .int fa, .int ou, .int ki, .int nu, .int be, .ref (ad 95), .int (nI mm.length)]) := by rw [eF_12, va_up_self]
          have f_14 : F_12 (88) = .inl (g.2 0, 200, .inl tp) := by rw [eF_12, va_up_ne _ _ (by omega)]; exact hR.2.1
          have f_15 : F_12 (89) = .inl (g.2 2, 26, .inl hs) := by rw [eF_12, va_up_ne _ _ (by omega)]; exact hR.2.2.1
          have f_16 : F_12 (90) = .inl (g.2 0, 26, .inl sz) := by rw [eF_12, va_up_ne _ _ (by omega)]; exact hR.2.2.2.1
          have f_17 : F_12 (91) = .inl (g.2 0, 2600, .inl tx) := by rw [eF_12, va_up_ne _ _ (by omega)]; exact hR.2.2.2.2.1
          have f_18 : F_12 (92) = .inl (g.2 0, 301, .inl vl) := by rw [eF_12, va_up_ne _ _ (by omega)]; exact hR.2.2.2.2.2.1
          have f_19 : F_12 (93) = .inl (g.2 0, 28, .inl ey) := by rw [eF_12, va_up_ne _ _ (by omega)]; exact hR.2.2.2.2.2.2.1
          have f_20 : F_12 (94) = .inl (g.2 0, 28, .inl ap) := by rw [eF_12, va_up_ne _ _ (by omega)]; exact hR.2.2.2.2.2.2.2.1
          have f_21 : F_12 (95) = .inl (g.2 0, 204, .inl md) := by rw [eF_12, va_up_ne _ _ (by omega)]; exact hR.2.2.2.2.2.2.2.2
          have hf_22 : mFr F F_12 := fun x hx => by rw [eF_12, va_up_ne _ _ (by omega)]
          have ei : i = la.length := by omega
          subst ei
          have e87 := f_13
          have hcut := cut_f (a := md_sqs la la.length) (fun q => c_85i q.2)
          exact hp_retv S hK hW hr hlk d_M_trim_96 (⟨⟨tp, hs, sz, tx, vl, ey, md, ⟨(by rw [e87]; unfold md_sq; rw [hcut]), f_14, f_15, f_16, f_17, f_18, f_19, f_20, f_21⟩, ⟨htl, htp⟩, hT, ⟨by unfold md_sq; rw [hcut]; omega, fun j hj => by unfold md_sq at hj ⊢; rw [hcut] at hj ⊢; rw [Nat.zero_add]; exact hI.1 j hj⟩, hKs, hml0, hmd⟩, hfr.tr hf_22⟩)
        · have c_85i := c_85
          refine lv_iinc (v := (nI ((md_sqs la i).length - 1))) (lv' := [(1, .int (nI ((md_sqs la i).length - 1))), (0, .ref (ad 87)), (2, .int (nI i))]) hx hb d_M_trim_88 hl (k := 1) rfl ((by rw [show (md_sqs la i).length = ((md_sqs la i).length - 1) + 1 by omega]; exact pk_m1 _)) (by decide) rfl (fun ls hl => ?_)
          refine lv_aload_n hx hb d_M_trim_91 rfl (lv_at hl 1 rfl) ?_
          refine lv_iload_n hx hb d_M_trim_92 rfl (lv_at hl 0 rfl) ?_
          refine hp_put S hK hW (87) (by omega) rfl hR.1 rfl in_kM tyok_M nm_M 7 (by decide) (hts _ (List.mem_cons_of_mem _ tq_103)) rfl rfl rfl (Nat.le_of_ble_eq_true rfl) d_M_trim_93 (fun H locs hW => ?_)
          obtain ⟨F_23, eF_23⟩ : ∃ z, z = va_up F (87) (.inr (kM, [.int tc, .ref (ad 88), .int (nI tape.length), .ref (ad 89), .ref (ad 90), .ref (ad 91), .ref (ad 92), .int (nI ((md_sqs la i).length - 1)), .int fp, .int me, .int dp, .int (nI stk.length), .ref (ad 93), .ref (ad 94), .int fa, .int ou, .int ki, .int nu, .int be, .ref (ad 95), .int (nI mm.length)])) := ⟨_, rfl⟩
          replace hW : hp_W g z0 N ad F_23 s.heap H locs := by rw [eF_23]; exact hW
          have f_24 : F_23 (87) = .inr (kM, [.int tc, .ref (ad 88), .int (nI tape.length), .ref (ad 89), .ref (ad 90), .ref (ad 91), .ref (ad 92), .int (nI ((md_sqs la i).length - 1)), .int fp, .int me, .int dp, .int (nI stk.length), .ref (ad 93), .ref (ad 94), .int fa, .int ou, .int ki, .int nu, .int be, .ref (ad 95), .int (nI mm.length)]) := by rw [eF_23, va_up_self]
          have f_25 : F_23 (88) = .inl (g.2 0, 200, .inl tp) := by rw [eF_23, va_up_ne _ _ (by omega)]; exact hR.2.1
          have f_26 : F_23 (89) = .inl (g.2 2, 26, .inl hs) := by rw [eF_23, va_up_ne _ _ (by omega)]; exact hR.2.2.1
          have f_27 : F_23 (90) = .inl (g.2 0, 26, .inl sz) := by rw [eF_23, va_up_ne _ _ (by omega)]; exact hR.2.2.2.1
          have f_28 : F_23 (91) = .inl (g.2 0, 2600, .inl tx) := by rw [eF_23, va_up_ne _ _ (by omega)]; exact hR.2.2.2.2.1
          have f_29 : F_23 (92) = .inl (g.2 0, 301, .inl vl) := by rw [eF_23, va_up_ne _ _ (by omega)]; exact hR.2.2.2.2.2.1
          have f_30 : F_23 (93) = .inl (g.2 0, 28, .inl ey) := by rw [eF_23, va_up_ne _ _ (by omega)]; exact hR.2.2.2.2.2.2.1
          have f_31 : F_23 (94) = .inl (g.2 0, 28, .inl ap) := by rw [eF_23, va_up_ne _ _ (by omega)]; exact hR.2.2.2.2.2.2.2.1
          have f_32 : F_23 (95) = .inl (g.2 0, 204, .inl md) := by rw [eF_23, va_up_ne _ _ (by omega)]; exact hR.2.2.2.2.2.2.2.2
          have hf_33 : mFr F F_23 := fun x hx => by rw [eF_23, va_up_ne _ _ (by omega)]
          have ei : i = la.length := by omega
          subst ei
          have e87 := f_24
          have hcut := cut_len_t (a := md_sqs la la.length) ⟨by omega, c_85i⟩
          exact hp_retv S hK hW hr hlk d_M_trim_96 (⟨⟨tp, hs, sz, tx, vl, ey, md, ⟨(by rw [e87]; unfold md_sq; rw [hcut]), f_25, f_26, f_27, f_28, f_29, f_30, f_31, f_32⟩, ⟨htl, htp⟩, hT, ⟨by unfold md_sq; rw [hcut]; omega, fun j hj => by unfold md_sq at hj ⊢; rw [cut_at hj, Nat.zero_add]; exact hI.1 j (by rw [hcut] at hj; omega)⟩, hKs, hml0, hmd⟩, hfr.tr hf_33⟩)
    · have c_9i := c_9
      replace c_9 : ¬ la.length ≤ i := fun zz9 => c_9 ((nI_leI (a := la.length) (b := i) (by omega) (by omega)).mpr zz9)
      have hlen := md_sqs_len la i
      refine lv_aload_n hx hb d_M_trim_12 rfl (lv_at hl 0 rfl) ?_
      refine hp_get S hK hW (87) (by omega) rfl hR.1 rfl in_kM 6 (by decide) (hts _ (List.mem_cons_of_mem _ tq_102)) rfl d_M_trim_13 ?_
      refine lv_iload_n hx hb d_M_trim_16 rfl (lv_at hl 2 rfl) ?_
      refine hp_iald S hK hW (92) (by omega) rfl hR.2.2.2.2.2.1 (vp_in_nI (by omega) (by omega)) d_M_trim_17 ?_
      rw [show (vl ((nI i) : Int32).toNatClampNeg) = (md_at la i) from (by rw [nI_clamp (by omega)]; exact hI.2 i (Nat.le_refl _) (by omega))]
      refine lv_bipush (v := 32) hx hb d_M_trim_18 (by decide) ?_
      refine lv_icmp_ne (tgt := 27) hx hb d_M_trim_20 (by decide) (fun c_20 => ?_) (fun c_20 => ?_)
      · have c_20i := c_20
        have hadd := sqs_add (xs := la) (i := i) (Or.inl c_20i)
        refine lv_iconst (v := 0) hx hb d_M_trim_27 (by decide) ?_
        refine lv_istore_n (lv' := [(3, .int 0), (0, .ref (ad 87)), (1, .int (nI (md_sqs la i).length)), (2, .int (nI i))]) hx hb d_M_trim_28 rfl hl (by decide) rfl (fun ls hl => ?_)
        refine lv_iload_n hx hb d_M_trim_29 rfl (lv_at hl 0 rfl) ?_
        refine lv_if_eq (tgt := 50) hx hb d_M_trim_30 (by decide) (fun c_30 => ?_) (fun c_30 => absurd (show (0 : Int32) = 0 from by decide) c_30)
        refine lv_aload_n hx hb d_M_trim_50 rfl (lv_at hl 1 rfl) ?_
        refine hp_get S hK hW (87) (by omega) rfl hR.1 rfl in_kM 6 (by decide) (hts _ (List.mem_cons_of_mem _ tq_102)) rfl d_M_trim_51 ?_
        refine lv_iload_n hx hb d_M_trim_54 rfl (lv_at hl 2 rfl) ?_
        refine lv_aload_n hx hb d_M_trim_55 rfl (lv_at hl 1 rfl) ?_
        refine hp_get S hK hW (87) (by omega) rfl hR.1 rfl in_kM 6 (by decide) (hts _ (List.mem_cons_of_mem _ tq_102)) rfl d_M_trim_56 ?_
        refine lv_iload_n hx hb d_M_trim_59 rfl (lv_at hl 3 rfl) ?_
        refine hp_iald S hK hW (92) (by omega) rfl hR.2.2.2.2.2.1 (vp_in_nI (by omega) (by omega)) d_M_trim_60 ?_
        rw [show (vl ((nI i) : Int32).toNatClampNeg) = (md_at la i) from (by rw [nI_clamp (by omega)]; exact hI.2 i (Nat.le_refl _) (by omega))]
        refine hp_iast S hK hW (92) (by omega) rfl hR.2.2.2.2.2.1 (x := (md_at la i)) (vp_in_nI (by omega) (by omega)) d_M_trim_61 (fun H locs hW => ?_)
        obtain ⟨F_34, eF_34⟩ : ∃ z, z = va_up F (92) (.inl (g.2 0, 301, .inl (upd vl (md_sqs la i).length (md_at la i)))) := ⟨_, rfl⟩
        rw [show (((nI (md_sqs la i).length) : Int32).toNatClampNeg) = (md_sqs la i).length from nI_clamp (by omega)] at hW
        replace hW : hp_W g z0 N ad F_34 s.heap H locs := by rw [eF_34]; exact hW
        have f_35 : F_34 (87) = .inr (kM, [.int tc, .ref (ad 88), .int (nI tape.length), .ref (ad 89), .ref (ad 90), .ref (ad 91), .ref (ad 92), .int (nI la.length), .int fp, .int me, .int dp, .int (nI stk.length), .ref (ad 93), .ref (ad 94), .int fa, .int ou, .int ki, .int nu, .int be, .ref (ad 95), .int (nI mm.length)]) := by rw [eF_34, va_up_ne _ _ (by omega)]; exact hR.1
        have f_36 : F_34 (88) = .inl (g.2 0, 200, .inl tp) := by rw [eF_34, va_up_ne _ _ (by omega)]; exact hR.2.1
        have f_37 : F_34 (89) = .inl (g.2 2, 26, .inl hs) := by rw [eF_34, va_up_ne _ _ (by omega)]; exact hR.2.2.1
        have f_38 : F_34 (90) = .inl (g.2 0, 26, .inl sz) := by rw [eF_34, va_up_ne _ _ (by omega)]; exact hR.2.2.2.1
        have f_39 : F_34 (91) = .inl (g.2 0, 2600, .inl tx) := by rw [eF_34, va_up_ne _ _ (by omega)]; exact hR.2.2.2.2.1
        have f_40 : F_34 (92) = .inl (g.2 0, 301, .inl (upd vl (md_sqs la i).length (md_at la i))) := by rw [eF_34, va_up_self]
        have f_41 : F_34 (93) = .inl (g.2 0, 28, .inl ey) := by rw [eF_34, va_up_ne _ _ (by omega)]; exact hR.2.2.2.2.2.2.1
        have f_42 : F_34 (94) = .inl (g.2 0, 28, .inl ap) := by rw [eF_34, va_up_ne _ _ (by omega)]; exact hR.2.2.2.2.2.2.2.1
        have f_43 : F_34 (95) = .inl (g.2 0, 204, .inl md) := by rw [eF_34, va_up_ne _ _ (by omega)]; exact hR.2.2.2.2.2.2.2.2
        have hf_44 : mFr F F_34 := fun x hx => by rw [eF_34, va_up_ne _ _ (by omega)]
        refine lv_iinc (v := (nI ((md_sqs la i).length + 1))) (lv' := [(1, .int (nI ((md_sqs la i).length + 1))), (3, .int 0), (0, .ref (ad 87)), (2, .int (nI i))]) hx hb d_M_trim_62 hl (k := 2) rfl ((nI_succ ((md_sqs la i).length)).symm) (by decide) rfl (fun ls hl => ?_)
        refine lv_iinc (v := (nI (i + 1))) (lv' := [(2, .int (nI (i + 1))), (1, .int (nI ((md_sqs la i).length + 1))), (3, .int 0), (0, .ref (ad 87))]) hx hb d_M_trim_65 hl (k := 3) rfl ((nI_succ (i)).symm) (by decide) rfl (fun ls hl => ?_)
        refine lv_goto (tgt := 4) hx hb d_M_trim_68 (by decide) ?_
        exact ih (i + 1) F_34 ((upd vl (md_sqs la i).length (md_at la i))) (by omega) (by omega) ⟨f_35, f_36, f_37, f_38, f_39, f_40, f_41, f_42, f_43⟩ (hI.add hadd) (hfr.tr hf_44) H locs ls hW (by rw [hadd, List.length_append, List.length_singleton]; exact (lv_sub hl [3, 1, 0] rfl))
      · have c_20i := c_20
        refine lv_iconst (v := 1) hx hb d_M_trim_23 (by decide) ?_
        refine lv_goto (tgt := 28) hx hb d_M_trim_24 (by decide) ?_
        refine lv_istore_n (lv' := [(3, .int 1), (0, .ref (ad 87)), (1, .int (nI (md_sqs la i).length)), (2, .int (nI i))]) hx hb d_M_trim_28 rfl hl (by decide) rfl (fun ls hl => ?_)
        refine lv_iload_n hx hb d_M_trim_29 rfl (lv_at hl 0 rfl) ?_
        refine lv_if_eq (tgt := 50) hx hb d_M_trim_30 (by decide) (fun c_30 => absurd c_30 (show ¬ ((1 : Int32) = 0) from by decide)) (fun c_30 => ?_)
        refine lv_iload_n hx hb d_M_trim_33 rfl (lv_at hl 2 rfl) ?_
        refine lv_if_le (tgt := 65) hx hb d_M_trim_34 (by decide) (fun c_34 => ?_) (fun c_34 => ?_)
        · have c_34i := c_34
          replace c_34 : (md_sqs la i).length ≤ 0 := (nI_leI (a := (md_sqs la i).length) (b := 0) (by omega) (by omega)).mp c_34
          have hskip := sqs_skip (xs := la) (i := i) (fun h => by rcases h with h | h <;> first | exact h c_20i | omega)
          refine lv_iinc (v := (nI (i + 1))) (lv' := [(2, .int (nI (i + 1))), (3, .int 1), (0, .ref (ad 87)), (1, .int (nI (md_sqs la i).length))]) hx hb d_M_trim_65 hl (k := 3) rfl ((nI_succ (i)).symm) (by decide) rfl (fun ls hl => ?_)
          refine lv_goto (tgt := 4) hx hb d_M_trim_68 (by decide) ?_
          exact ih (i + 1) F vl (by omega) (by omega) ⟨hR.1, hR.2.1, hR.2.2.1, hR.2.2.2.1, hR.2.2.2.2.1, hR.2.2.2.2.2.1, hR.2.2.2.2.2.2.1, hR.2.2.2.2.2.2.2.1, hR.2.2.2.2.2.2.2.2⟩ (hI.skip hskip) (hfr.tr mFr.rf) H locs ls hW (by rw [hskip]; exact (lv_sub hl [2, 3, 0] rfl))
        · have c_34i := c_34
          replace c_34 : ¬ (md_sqs la i).length ≤ 0 := fun zz9 => c_34 ((nI_leI (a := (md_sqs la i).length) (b := 0) (by omega) (by omega)).mpr zz9)
          refine lv_aload_n hx hb d_M_trim_37 rfl (lv_at hl 1 rfl) ?_
          refine hp_get S hK hW (87) (by omega) rfl hR.1 rfl in_kM 6 (by decide) (hts _ (List.mem_cons_of_mem _ tq_102)) rfl d_M_trim_38 ?_
          refine lv_iload_n hx hb d_M_trim_41 rfl (lv_at hl 2 rfl) ?_
          refine lv_iconst (v := 1) hx hb d_M_trim_42 (by decide) ?_
          refine lv_isub hx hb d_M_trim_43 ?_
          rw [show ((nI (md_sqs la i).length) - 1) = (nI ((md_sqs la i).length - 1)) from (pk_sub (b := 1) (by omega))]
          refine hp_iald S hK hW (92) (by omega) rfl hR.2.2.2.2.2.1 (vp_in_nI (by omega) (by omega)) d_M_trim_44 ?_
          rw [show (vl ((nI ((md_sqs la i).length - 1)) : Int32).toNatClampNeg) = (md_at (md_sqs la i) ((md_sqs la i).length - 1)) from (by rw [nI_clamp (by omega)]; exact hI.1 _ (by omega))]
          refine lv_bipush (v := 32) hx hb d_M_trim_45 (by decide) ?_
          refine lv_icmp_eq (tgt := 65) hx hb d_M_trim_47 (by decide) (fun c_47 => ?_) (fun c_47 => ?_)
          · have c_47i := c_47
            have hskip := sqs_skip (xs := la) (i := i) (fun h => by rcases h with h | h <;> first | exact h c_20i | exact h.2 c_47i)
            refine lv_iinc (v := (nI (i + 1))) (lv' := [(2, .int (nI (i + 1))), (3, .int 1), (0, .ref (ad 87)), (1, .int (nI (md_sqs la i).length))]) hx hb d_M_trim_65 hl (k := 3) rfl ((nI_succ (i)).symm) (by decide) rfl (fun ls hl => ?_)
            refine lv_goto (tgt := 4) hx hb d_M_trim_68 (by decide) ?_
            exact ih (i + 1) F vl (by omega) (by omega) ⟨hR.1, hR.2.1, hR.2.2.1, hR.2.2.2.1, hR.2.2.2.2.1, hR.2.2.2.2.2.1, hR.2.2.2.2.2.2.1, hR.2.2.2.2.2.2.2.1, hR.2.2.2.2.2.2.2.2⟩ (hI.skip hskip) (hfr.tr mFr.rf) H locs ls hW (by rw [hskip]; exact (lv_sub hl [2, 3, 0] rfl))
          · have c_47i := c_47
            have hadd := sqs_add (xs := la) (i := i) (Or.inr ⟨by omega, c_47i⟩)
            refine lv_aload_n hx hb d_M_trim_50 rfl (lv_at hl 1 rfl) ?_
            refine hp_get S hK hW (87) (by omega) rfl hR.1 rfl in_kM 6 (by decide) (hts _ (List.mem_cons_of_mem _ tq_102)) rfl d_M_trim_51 ?_
            refine lv_iload_n hx hb d_M_trim_54 rfl (lv_at hl 2 rfl) ?_
            refine lv_aload_n hx hb d_M_trim_55 rfl (lv_at hl 1 rfl) ?_
            refine hp_get S hK hW (87) (by omega) rfl hR.1 rfl in_kM 6 (by decide) (hts _ (List.mem_cons_of_mem _ tq_102)) rfl d_M_trim_56 ?_
            refine lv_iload_n hx hb d_M_trim_59 rfl (lv_at hl 3 rfl) ?_
            refine hp_iald S hK hW (92) (by omega) rfl hR.2.2.2.2.2.1 (vp_in_nI (by omega) (by omega)) d_M_trim_60 ?_
            rw [show (vl ((nI i) : Int32).toNatClampNeg) = (md_at la i) from (by rw [nI_clamp (by omega)]; exact hI.2 i (Nat.le_refl _) (by omega))]
            refine hp_iast S hK hW (92) (by omega) rfl hR.2.2.2.2.2.1 (x := (md_at la i)) (vp_in_nI (by omega) (by omega)) d_M_trim_61 (fun H locs hW => ?_)
            obtain ⟨F_45, eF_45⟩ : ∃ z, z = va_up F (92) (.inl (g.2 0, 301, .inl (upd vl (md_sqs la i).length (md_at la i)))) := ⟨_, rfl⟩
            rw [show (((nI (md_sqs la i).length) : Int32).toNatClampNeg) = (md_sqs la i).length from nI_clamp (by omega)] at hW
            replace hW : hp_W g z0 N ad F_45 s.heap H locs := by rw [eF_45]; exact hW
            have f_46 : F_45 (87) = .inr (kM, [.int tc, .ref (ad 88), .int (nI tape.length), .ref (ad 89), .ref (ad 90), .ref (ad 91), .ref (ad 92), .int (nI la.length), .int fp, .int me, .int dp, .int (nI stk.length), .ref (ad 93), .ref (ad 94), .int fa, .int ou, .int ki, .int nu, .int be, .ref (ad 95), .int (nI mm.length)]) := by rw [eF_45, va_up_ne _ _ (by omega)]; exact hR.1
            have f_47 : F_45 (88) = .inl (g.2 0, 200, .inl tp) := by rw [eF_45, va_up_ne _ _ (by omega)]; exact hR.2.1
            have f_48 : F_45 (89) = .inl (g.2 2, 26, .inl hs) := by rw [eF_45, va_up_ne _ _ (by omega)]; exact hR.2.2.1
            have f_49 : F_45 (90) = .inl (g.2 0, 26, .inl sz) := by rw [eF_45, va_up_ne _ _ (by omega)]; exact hR.2.2.2.1
            have f_50 : F_45 (91) = .inl (g.2 0, 2600, .inl tx) := by rw [eF_45, va_up_ne _ _ (by omega)]; exact hR.2.2.2.2.1
            have f_51 : F_45 (92) = .inl (g.2 0, 301, .inl (upd vl (md_sqs la i).length (md_at la i))) := by rw [eF_45, va_up_self]
            have f_52 : F_45 (93) = .inl (g.2 0, 28, .inl ey) := by rw [eF_45, va_up_ne _ _ (by omega)]; exact hR.2.2.2.2.2.2.1
            have f_53 : F_45 (94) = .inl (g.2 0, 28, .inl ap) := by rw [eF_45, va_up_ne _ _ (by omega)]; exact hR.2.2.2.2.2.2.2.1
            have f_54 : F_45 (95) = .inl (g.2 0, 204, .inl md) := by rw [eF_45, va_up_ne _ _ (by omega)]; exact hR.2.2.2.2.2.2.2.2
            have hf_55 : mFr F F_45 := fun x hx => by rw [eF_45, va_up_ne _ _ (by omega)]
            refine lv_iinc (v := (nI ((md_sqs la i).length + 1))) (lv' := [(1, .int (nI ((md_sqs la i).length + 1))), (3, .int 1), (0, .ref (ad 87)), (2, .int (nI i))]) hx hb d_M_trim_62 hl (k := 2) rfl ((nI_succ ((md_sqs la i).length)).symm) (by decide) rfl (fun ls hl => ?_)
            refine lv_iinc (v := (nI (i + 1))) (lv' := [(2, .int (nI (i + 1))), (1, .int (nI ((md_sqs la i).length + 1))), (3, .int 1), (0, .ref (ad 87))]) hx hb d_M_trim_65 hl (k := 3) rfl ((nI_succ (i)).symm) (by decide) rfl (fun ls hl => ?_)
            refine lv_goto (tgt := 4) hx hb d_M_trim_68 (by decide) ?_
            exact ih (i + 1) F_45 ((upd vl (md_sqs la i).length (md_at la i))) (by omega) (by omega) ⟨f_46, f_47, f_48, f_49, f_50, f_51, f_52, f_53, f_54⟩ (hI.add hadd) (hfr.tr hf_55) H locs ls hW (by rw [hadd, List.length_append, List.length_singleton]; exact (lv_sub hl [3, 1, 0] rfl))

/-! the reference: trim -/
set_option maxHeartbeats 400000 in
set_option maxRecDepth 100000 in
theorem m_trim (l : Launch) (g : hp_G) (z0 N : Nat) (ad : Nat → Nat) (F : Nat → va_E) (hN : 96 ≤ N) (tape : List Int32) (kn : Nat → Bool) (rt : Nat → List Int32) (la mm : List Int32) (stk : List Nat) (ap : Nat → Int32) (tc fp me dp fa ou ki nu be : Int32) (hS : mS g ad F tape kn rt la mm stk ap tc fp me dp fa ou ki nu be) : hp_Mv l g z0 N ad y_M_trim ws_M_trim (rk 0) [.ref (ad 87)] F (fun F' => mS g ad F' tape kn rt (md_sq la) mm stk ap tc fp me dp fa ou ki nu be ∧ mFr F F') := by
  obtain ⟨tp, hs, sz, tx, vl, ey, md, hR, ⟨htl, htp⟩, hT, ⟨hll, hvl⟩, hKs, hml0, hmd⟩ := id hS
  refine hp_enter (cc := cc_M_trim) (maxL := 4) (ret := none) (by decide) rfl (Nat.le_of_ble_eq_true rfl) ?_
  intro p e s m below meth c S hr hlk hnm hK hW ls hl
  have hl : lv_has ls 4 [(0, .ref (ad 87))] := hl
  obtain ⟨hx, hb, hml, hown, hts⟩ := id S
  have in_kM : ∀ w ∈ u_ws R_M T_M 21, w ∈ ws_M_trim := fun w h => List.mem_cons_of_mem _ (in0_M w h)
  refine lv_iconst (v := 0) hx hb d_M_trim_0 (by decide) ?_
  refine lv_istore_n (lv' := [(1, .int 0), (0, .ref (ad 87))]) hx hb d_M_trim_1 rfl hl (by decide) rfl (fun ls hl => ?_)
  refine lv_iconst (v := 0) hx hb d_M_trim_2 (by decide) ?_
  refine lv_istore_n (lv' := [(2, .int 0), (1, .int 0), (0, .ref (ad 87))]) hx hb d_M_trim_3 rfl hl (by decide) rfl (fun ls hl => ?_)
  exact lp_trim l g z0 N ad hN tape kn rt la mm stk ap tc fp me dp fa ou ki nu be tp hs sz tx ey md htl htp hT hll hKs hml0 hmd F S hr hlk hK (la.length + 1) 0 F vl (Nat.zero_le _) (by omega) hR ⟨fun j hj => absurd hj (Nat.not_lt_zero _), fun j _ hj => by have := hvl j hj; rwa [Nat.zero_add] at this⟩ mFr.rf _ _ ls hW (lv_sub hl [2, 1, 0] rfl)

/-! the reference: eight, its loop -/
set_option maxHeartbeats 400000 in
set_option maxRecDepth 100000 in
theorem lp_eight {p : Program} {e : Env} {s : State} {m : MethodId} {args : Array Value} {below : List Frame} {meth : Method} {c : Code} (l : Launch) (g : hp_G) (z0 N : Nat) (ad : Nat → Nat)  (F : Nat → va_E) (P c0 fr : Nat) (hP : P < N) (xs : List Int32) (f : Nat → Int32) (h2 : F P = .inl (g.2 0, c0, .inl f)) (hc0 : fr + xs.length ≤ c0) (hcc : c0 < 1000000) (h4 : mL f fr xs) (k : Int32) (hk : ¬ k < 0) (S : CallFix p m c cc_M_eight 7 s args ws_M_eight R_M) (hr : meth.sig.returnType = (some .long)) (hlk : meth.locks = false) (hK : hp_K g s) : ∀ (j : Nat) (i : Nat), i ≤ 8 → 9 ≤ i + j → ∀ (H : Heap) (locs : List Loc) (ls : Array Slot), hp_W g z0 N ad F s.heap H locs → lv_has ls 7 [(0, .ref (ad P)), (1, .int (nI fr)), (2, .int (nI xs.length)), (3, .int k), (4, .long (md_w (fun i => xs.getD (k.toNatClampNeg + i) 0) i)), (6, .int (nI i))] → W p l e (rk 0) s m args below meth c H locs 0 0 (MQ below (va_Ql (fun v F' => v = md_w (fun i => xs.getD (k.toNatClampNeg + i) 0) 8 ∧ F' = F) (hp_B g z0 N ad) (hp_A z0)) args s 0 0 (hp_A z0)) (F0 m 6 ls []) := by
  obtain ⟨hx, hb, hml, hown, hts⟩ := id S
  intro j
  induction j with
  | zero =>
    intro i hi hj H locs ls hW hl
    exact absurd hj (by omega)
  | succ j ih =>
    intro i hi hj H locs ls hW hl
    refine lv_iload hx hb d_M_eight_6 (lv_at hl 5 rfl) ?_
    refine lv_bipush (v := 8) hx hb d_M_eight_8 (by decide) ?_
    refine lv_icmp_ge (tgt := 48) hx hb d_M_eight_10 (by decide) (fun c_10 => ?_) (fun c_10 => ?_)
    · have c_10i := c_10
      replace c_10 : 8 ≤ i := (nI_leI (a := 8) (b := i) (by omega) (by omega)).mp c_10
      refine lv_lload hx hb d_M_eight_48 (lv_at hl 4 rfl) ?_
      exact hp_retl S hK hW hr hlk d_M_eight_50 (⟨by rw [show i = 8 by omega], rfl⟩)
    · have c_10i := c_10
      replace c_10 : ¬ 8 ≤ i := fun zz9 => c_10 ((nI_leI (a := 8) (b := i) (by omega) (by omega)).mpr zz9)
      refine lv_lload hx hb d_M_eight_13 (lv_at hl 4 rfl) ?_
      refine lv_bipush (v := 8) hx hb d_M_eight_15 (by decide) ?_
      refine lv_lshl hx hb d_M_eight_17 rfl ?_
      refine lv_iload_n hx hb d_M_eight_18 rfl (lv_at hl 3 rfl) ?_
      refine lv_iload_n hx hb d_M_eight_19 rfl (lv_at hl 2 rfl) ?_
      refine lv_iload hx hb d_M_eight_20 (lv_at hl 5 rfl) ?_
      refine lv_isub hx hb d_M_eight_22 ?_
      refine lv_icmp_ge (tgt := 37) hx hb d_M_eight_23 (by decide) (fun c_23 => ?_) (fun c_23 => ?_)
      · have c_23i := c_23
        have c_23j := Int32.not_lt.mpr c_23
        obtain ⟨kk, hkk, ekk⟩ := nI_of hk
        have ecl : k.toNatClampNeg = kk := by rw [ekk]; exact nI_clamp hkk
        have hge : xs.length ≤ kk + i := wd_ge (by omega) (by omega) hkk (by rw [← ekk]; exact c_23)
        have hval : (0 : Int32) = xs.getD (k.toNatClampNeg + i) 0 := by rw [ecl, wd_out hge]
        refine lv_iconst (v := 0) hx hb d_M_eight_37 (by decide) ?_
        refine lv_i2l hx hb d_M_eight_38 rfl ?_
        refine lv_lor hx hb d_M_eight_39 ?_
        rw [show (((md_w (fun i => xs.getD (k.toNatClampNeg + i) 0) i) <<< ((8 : Int32).toInt64 &&& 63)) ||| (0 : Int32).toInt64) = md_w (fun i => xs.getD (k.toNatClampNeg + i) 0) (i + 1) from (by show _ = md_w (fun i => xs.getD (k.toNatClampNeg + i) 0) i <<< _ ||| (xs.getD (k.toNatClampNeg + i) 0).toInt64; rw [← hval])]
        refine lv_lstore (lv' := [(4, .long (md_w (fun i => xs.getD (k.toNatClampNeg + i) 0) (i + 1))), (0, .ref (ad P)), (1, .int (nI fr)), (2, .int (nI xs.length)), (3, .int k), (6, .int (nI i))]) hx hb d_M_eight_40 hl (by decide) rfl (fun ls hl => ?_)
        refine lv_iinc (v := (nI (i + 1))) (lv' := [(6, .int (nI (i + 1))), (4, .long (md_w (fun i => xs.getD (k.toNatClampNeg + i) 0) (i + 1))), (0, .ref (ad P)), (1, .int (nI fr)), (2, .int (nI xs.length)), (3, .int k)]) hx hb d_M_eight_42 hl (k := 5) rfl ((nI_succ (i)).symm) (by decide) rfl (fun ls hl => ?_)
        refine lv_goto (tgt := 6) hx hb d_M_eight_45 (by decide) ?_
        exact ih (i + 1) (by omega) (by omega) H locs ls hW (lv_sub hl [2, 3, 4, 5, 1, 0] rfl)
      · have c_23i := c_23
        have c_23j := Int32.not_le.mp c_23
        obtain ⟨kk, hkk, ekk⟩ := nI_of hk
        have ecl : k.toNatClampNeg = kk := by rw [ekk]; exact nI_clamp hkk
        have hlt : kk + i < xs.length := wd_lt (by omega) (by omega) hkk (by rw [← ekk]; exact c_23)
        have eki : nI fr + k + nI i = nI (fr + (kk + i)) := by rw [ekk, nI_add, nI_add, Nat.add_assoc]
        refine lv_aload_n hx hb d_M_eight_26 rfl (lv_at hl 0 rfl) ?_
        refine lv_iload_n hx hb d_M_eight_27 rfl (lv_at hl 1 rfl) ?_
        refine lv_iload_n hx hb d_M_eight_28 rfl (lv_at hl 3 rfl) ?_
        refine lv_iadd hx hb d_M_eight_29 ?_
        refine lv_iload hx hb d_M_eight_30 (lv_at hl 5 rfl) ?_
        refine lv_iadd hx hb d_M_eight_32 ?_
        refine hp_iald S hK hW (P) (by omega) rfl h2 (by rw [eki]; exact vp_in_nI (by omega) (by omega)) d_M_eight_33 ?_
        rw [show (f ((((nI fr) + k) + (nI i)) : Int32).toNatClampNeg) = (xs.getD (k.toNatClampNeg + i) 0) from (by rw [eki, nI_clamp (by omega), h4 _ hlt, ecl, wd_in hlt])]
        refine lv_goto (tgt := 38) hx hb d_M_eight_34 (by decide) ?_
        refine lv_i2l hx hb d_M_eight_38 rfl ?_
        refine lv_lor hx hb d_M_eight_39 ?_
        rw [show (((md_w (fun i => xs.getD (k.toNatClampNeg + i) 0) i) <<< ((8 : Int32).toInt64 &&& 63)) ||| ((xs.getD (k.toNatClampNeg + i) 0) : Int32).toInt64) = md_w (fun i => xs.getD (k.toNatClampNeg + i) 0) (i + 1) from rfl]
        refine lv_lstore (lv' := [(4, .long (md_w (fun i => xs.getD (k.toNatClampNeg + i) 0) (i + 1))), (0, .ref (ad P)), (1, .int (nI fr)), (2, .int (nI xs.length)), (3, .int k), (6, .int (nI i))]) hx hb d_M_eight_40 hl (by decide) rfl (fun ls hl => ?_)
        refine lv_iinc (v := (nI (i + 1))) (lv' := [(6, .int (nI (i + 1))), (4, .long (md_w (fun i => xs.getD (k.toNatClampNeg + i) 0) (i + 1))), (0, .ref (ad P)), (1, .int (nI fr)), (2, .int (nI xs.length)), (3, .int k)]) hx hb d_M_eight_42 hl (k := 5) rfl ((nI_succ (i)).symm) (by decide) rfl (fun ls hl => ?_)
        refine lv_goto (tgt := 6) hx hb d_M_eight_45 (by decide) ?_
        exact ih (i + 1) (by omega) (by omega) H locs ls hW (lv_sub hl [2, 3, 4, 5, 1, 0] rfl)

/-! the reference: eight -/
set_option maxHeartbeats 400000 in
set_option maxRecDepth 100000 in
theorem m_eight (l : Launch) (g : hp_G) (z0 N : Nat) (ad : Nat → Nat) (F : Nat → va_E) (P c0 fr : Nat) (hP : P < N) (xs : List Int32) (f : Nat → Int32) (h2 : F P = .inl (g.2 0, c0, .inl f)) (hc0 : fr + xs.length ≤ c0) (hcc : c0 < 1000000) (h4 : mL f fr xs) (k : Int32) (hk : ¬ k < 0) : hp_Ml l g z0 N ad y_M_eight ws_M_eight (rk 0) [.ref (ad P), .int (nI fr), .int (nI xs.length), .int k] F (fun v F' => v = md_w (fun i => xs.getD (k.toNatClampNeg + i) 0) 8 ∧ F' = F) := by
  refine hp_enter (cc := cc_M_eight) (maxL := 7) (ret := (some .long)) (by decide) rfl (Nat.le_of_ble_eq_true rfl) ?_
  intro p e s m below meth c S hr hlk hnm hK hW ls hl
  have hl : lv_has ls 7 [(0, .ref (ad P)), (1, .int (nI fr)), (2, .int (nI xs.length)), (3, .int k)] := hl
  obtain ⟨hx, hb, hml, hown, hts⟩ := id S
  refine lv_lconst (v := 0) hx hb d_M_eight_0 (by decide) ?_
  refine lv_lstore (lv' := [(4, .long 0), (0, .ref (ad P)), (1, .int (nI fr)), (2, .int (nI xs.length)), (3, .int k)]) hx hb d_M_eight_1 hl (by decide) rfl (fun ls hl => ?_)
  refine lv_iconst (v := 0) hx hb d_M_eight_3 (by decide) ?_
  refine lv_istore (lv' := [(6, .int 0), (4, .long 0), (0, .ref (ad P)), (1, .int (nI fr)), (2, .int (nI xs.length)), (3, .int k)]) hx hb d_M_eight_4 hl (by decide) rfl (fun ls hl => ?_)
  exact lp_eight l g z0 N ad F P c0 fr hP xs f h2 hc0 hcc h4 k hk S hr hlk hK 9 0 (by omega) (by omega) _ _ ls hW (lv_sub hl [2, 3, 4, 5, 1, 0] rfl)

/-! the reference: place -/
set_option maxHeartbeats 400000 in
set_option maxRecDepth 100000 in
theorem m_place (l : Launch) (g : hp_G) (z0 N : Nat) (ad : Nat → Nat) (F : Nat → va_E) (hN : 96 ≤ N) (tape : List Int32) (kn : Nat → Bool) (rt : Nat → List Int32) (la mm : List Int32) (stk : List Nat) (ap : Nat → Int32) (tc fp me dp fa ou ki nu be : Int32) (hS : mS g ad F tape kn rt la mm stk ap tc fp me dp fa ou ki nu be) : hp_Mi l g z0 N ad y_M_place ws_M_place (rk 0) [.ref (ad 87)] F (fun v F' => v = fp ∧ mS g ad F' tape kn rt la mm stk ap 0 fp me dp fa ou ki nu be ∧ mFr F F') := by
  obtain ⟨tp, hs, sz, tx, vl, ey, md, hR, ⟨htl, htp⟩, hT, ⟨hll, hvl⟩, hKs, hml0, hmd⟩ := id hS
  refine hp_enter (cc := cc_M_place) (maxL := 1) (ret := (some .int)) (by decide) rfl (Nat.le_of_ble_eq_true rfl) ?_
  intro p e s m below meth c S hr hlk hnm hK hW ls hl
  have hl : lv_has ls 1 [(0, .ref (ad 87))] := hl
  obtain ⟨hx, hb, hml, hown, hts⟩ := id S
  have in_kM : ∀ w ∈ u_ws R_M T_M 21, w ∈ ws_M_place := fun w h => List.mem_cons_of_mem _ (in0_M w h)
  refine lv_aload_n hx hb d_M_place_0 rfl (lv_at hl 0 rfl) ?_
  refine lv_iconst (v := 0) hx hb d_M_place_1 (by decide) ?_
  refine hp_put S hK hW (87) (by omega) rfl hR.1 rfl in_kM tyok_M nm_M 0 (by decide) (hts _ (List.mem_cons_of_mem _ tq_96)) rfl rfl rfl (Nat.le_of_ble_eq_true rfl) d_M_place_2 (fun H locs hW => ?_)
  obtain ⟨F_1, eF_1⟩ : ∃ z, z = va_up F (87) (.inr (kM, [.int 0, .ref (ad 88), .int (nI tape.length), .ref (ad 89), .ref (ad 90), .ref (ad 91), .ref (ad 92), .int (nI la.length), .int fp, .int me, .int dp, .int (nI stk.length), .ref (ad 93), .ref (ad 94), .int fa, .int ou, .int ki, .int nu, .int be, .ref (ad 95), .int (nI mm.length)])) := ⟨_, rfl⟩
  replace hW : hp_W g z0 N ad F_1 s.heap H locs := by rw [eF_1]; exact hW
  have f_2 : F_1 (87) = .inr (kM, [.int 0, .ref (ad 88), .int (nI tape.length), .ref (ad 89), .ref (ad 90), .ref (ad 91), .ref (ad 92), .int (nI la.length), .int fp, .int me, .int dp, .int (nI stk.length), .ref (ad 93), .ref (ad 94), .int fa, .int ou, .int ki, .int nu, .int be, .ref (ad 95), .int (nI mm.length)]) := by rw [eF_1, va_up_self]
  have f_3 : F_1 (88) = .inl (g.2 0, 200, .inl tp) := by rw [eF_1, va_up_ne _ _ (by omega)]; exact hR.2.1
  have f_4 : F_1 (89) = .inl (g.2 2, 26, .inl hs) := by rw [eF_1, va_up_ne _ _ (by omega)]; exact hR.2.2.1
  have f_5 : F_1 (90) = .inl (g.2 0, 26, .inl sz) := by rw [eF_1, va_up_ne _ _ (by omega)]; exact hR.2.2.2.1
  have f_6 : F_1 (91) = .inl (g.2 0, 2600, .inl tx) := by rw [eF_1, va_up_ne _ _ (by omega)]; exact hR.2.2.2.2.1
  have f_7 : F_1 (92) = .inl (g.2 0, 301, .inl vl) := by rw [eF_1, va_up_ne _ _ (by omega)]; exact hR.2.2.2.2.2.1
  have f_8 : F_1 (93) = .inl (g.2 0, 28, .inl ey) := by rw [eF_1, va_up_ne _ _ (by omega)]; exact hR.2.2.2.2.2.2.1
  have f_9 : F_1 (94) = .inl (g.2 0, 28, .inl ap) := by rw [eF_1, va_up_ne _ _ (by omega)]; exact hR.2.2.2.2.2.2.2.1
  have f_10 : F_1 (95) = .inl (g.2 0, 204, .inl md) := by rw [eF_1, va_up_ne _ _ (by omega)]; exact hR.2.2.2.2.2.2.2.2
  have hf_11 : mFr F F_1 := fun x hx => by rw [eF_1, va_up_ne _ _ (by omega)]
  refine lv_aload_n hx hb d_M_place_5 rfl (lv_at hl 0 rfl) ?_
  refine hp_get S hK hW (87) (by omega) rfl f_2 rfl in_kM 8 (by decide) (hts _ (List.mem_cons_of_mem _ tq_104)) rfl d_M_place_6 ?_
  exact hp_reti S hK hW hr hlk d_M_place_9 (⟨rfl, ⟨tp, hs, sz, tx, vl, ey, md, ⟨f_2, f_3, f_4, f_5, f_6, f_7, f_8, f_9, f_10⟩, ⟨htl, htp⟩, hT, ⟨hll, hvl⟩, hKs, hml0, hmd⟩, hf_11⟩)

/-! the reference: characters -/
set_option maxHeartbeats 400000 in
set_option maxRecDepth 100000 in
theorem m_characters (l : Launch) (g : hp_G) (z0 N : Nat) (ad : Nat → Nat) (F : Nat → va_E) (hN : 96 ≤ N) (tape : List Int32) (kn : Nat → Bool) (rt : Nat → List Int32) (la mm : List Int32) (stk : List Nat) (ap : Nat → Int32) (tc fp me dp fa ou ki nu be : Int32) (hS : mS g ad F tape kn rt la mm stk ap tc fp me dp fa ou ki nu be) (k : Int32) : hp_Ml l g z0 N ad y_M_characters ws_M_characters (rk 1) [.ref (ad 87), .int k] F (fun v F' => v = md_word la k ∧ mS g ad F' tape kn rt la mm stk ap 0 fp me dp fa ou ki nu be ∧ mFr F F') := by
  obtain ⟨tp, hs, sz, tx, vl, ey, md, hR, ⟨htl, htp⟩, hT, ⟨hll, hvl⟩, hKs, hml0, hmd⟩ := id hS
  refine hp_enter (cc := cc_M_characters) (maxL := 2) (ret := (some .long)) (by decide) rfl (Nat.le_of_ble_eq_true rfl) ?_
  intro p e s m below meth c S hr hlk hnm hK hW ls hl
  have hl : lv_has ls 2 [(0, .ref (ad 87)), (1, .int k)] := hl
  obtain ⟨hx, hb, hml, hown, hts⟩ := id S
  have in_kM : ∀ w ∈ u_ws R_M T_M 21, w ∈ ws_M_characters := fun w h => List.mem_cons_of_mem _ (in0_M w h)
  refine lv_aload_n hx hb d_M_characters_0 rfl (lv_at hl 0 rfl) ?_
  refine lv_iconst (v := 0) hx hb d_M_characters_1 (by decide) ?_
  refine hp_put S hK hW (87) (by omega) rfl hR.1 rfl in_kM tyok_M nm_M 0 (by decide) (hts _ (List.mem_cons_of_mem _ tq_96)) rfl rfl rfl (Nat.le_of_ble_eq_true rfl) d_M_characters_2 (fun H locs hW => ?_)
  obtain ⟨F_1, eF_1⟩ : ∃ z, z = va_up F (87) (.inr (kM, [.int 0, .ref (ad 88), .int (nI tape.length), .ref (ad 89), .ref (ad 90), .ref (ad 91), .ref (ad 92), .int (nI la.length), .int fp, .int me, .int dp, .int (nI stk.length), .ref (ad 93), .ref (ad 94), .int fa, .int ou, .int ki, .int nu, .int be, .ref (ad 95), .int (nI mm.length)])) := ⟨_, rfl⟩
  replace hW : hp_W g z0 N ad F_1 s.heap H locs := by rw [eF_1]; exact hW
  have f_2 : F_1 (87) = .inr (kM, [.int 0, .ref (ad 88), .int (nI tape.length), .ref (ad 89), .ref (ad 90), .ref (ad 91), .ref (ad 92), .int (nI la.length), .int fp, .int me, .int dp, .int (nI stk.length), .ref (ad 93), .ref (ad 94), .int fa, .int ou, .int ki, .int nu, .int be, .ref (ad 95), .int (nI mm.length)]) := by rw [eF_1, va_up_self]
  have f_3 : F_1 (88) = .inl (g.2 0, 200, .inl tp) := by rw [eF_1, va_up_ne _ _ (by omega)]; exact hR.2.1
  have f_4 : F_1 (89) = .inl (g.2 2, 26, .inl hs) := by rw [eF_1, va_up_ne _ _ (by omega)]; exact hR.2.2.1
  have f_5 : F_1 (90) = .inl (g.2 0, 26, .inl sz) := by rw [eF_1, va_up_ne _ _ (by omega)]; exact hR.2.2.2.1
  have f_6 : F_1 (91) = .inl (g.2 0, 2600, .inl tx) := by rw [eF_1, va_up_ne _ _ (by omega)]; exact hR.2.2.2.2.1
  have f_7 : F_1 (92) = .inl (g.2 0, 301, .inl vl) := by rw [eF_1, va_up_ne _ _ (by omega)]; exact hR.2.2.2.2.2.1
  have f_8 : F_1 (93) = .inl (g.2 0, 28, .inl ey) := by rw [eF_1, va_up_ne _ _ (by omega)]; exact hR.2.2.2.2.2.2.1
  have f_9 : F_1 (94) = .inl (g.2 0, 28, .inl ap) := by rw [eF_1, va_up_ne _ _ (by omega)]; exact hR.2.2.2.2.2.2.2.1
  have f_10 : F_1 (95) = .inl (g.2 0, 204, .inl md) := by rw [eF_1, va_up_ne _ _ (by omega)]; exact hR.2.2.2.2.2.2.2.2
  have hf_11 : mFr F F_1 := fun x hx => by rw [eF_1, va_up_ne _ _ (by omega)]
  refine lv_iload_n hx hb d_M_characters_5 rfl (lv_at hl 1 rfl) ?_
  refine lv_if_ge (tgt := 15) hx hb d_M_characters_6 (by decide) (fun c_6 => ?_) (fun c_6 => ?_)
  · have c_6i := c_6
    have c_6j := Int32.not_lt.mpr c_6
    have hk0 : ¬ k < 0 := Int32.not_lt.mpr c_6
    refine lv_aload_n hx hb d_M_characters_15 rfl (lv_at hl 0 rfl) ?_
    refine hp_get S hK hW (87) (by omega) rfl f_2 rfl in_kM 6 (by decide) (hts _ (List.mem_cons_of_mem _ tq_102)) rfl d_M_characters_16 ?_
    refine lv_iconst (v := 0) hx hb d_M_characters_19 (by decide) ?_
    refine lv_aload_n hx hb d_M_characters_20 rfl (lv_at hl 0 rfl) ?_
    refine hp_get S hK hW (87) (by omega) rfl f_2 rfl in_kM 7 (by decide) (hts _ (List.mem_cons_of_mem _ tq_103)) rfl d_M_characters_21 ?_
    refine lv_iload_n hx hb d_M_characters_24 rfl (lv_at hl 1 rfl) ?_
    have f92 := f_7
    refine hp_gol hW (va_runS S (m_eight l g z0 N ad F_1 92 301 0 (by omega) la vl f92 (by omega) (by omega) hvl k hk0) (va_cwS 4 hts (tb_S cd_M_eight tq_160 tq_161 tq_118) rfl rfl rfl hd_M_eight.2 (rk_ok (by omega) (by omega))) (hp_preS hK hW) rfl rfl hl.1 rfl (lv_room (Nat.le_of_ble_eq_true rfl)) d_M_characters_25 ⟨Nat.zero_le _, Nat.zero_le _⟩) (fun r_12 F_13 H locs hw hW => ?_)
    obtain ⟨hvq, hFq⟩ := hw
    rw [hFq] at hW
    rw [hvq]
    exact hp_retl S hK hW hr hlk d_M_characters_28 (⟨by rw [md_word, if_neg hk0], ⟨tp, hs, sz, tx, vl, ey, md, ⟨f_2, f_3, f_4, f_5, f_6, f_7, f_8, f_9, f_10⟩, ⟨htl, htp⟩, hT, ⟨hll, hvl⟩, hKs, hml0, hmd⟩, hf_11⟩)
  · have c_6i := c_6
    have c_6j := Int32.not_le.mp c_6
    have hk0 : k < 0 := Int32.not_le.mp c_6
    refine lv_ldc2 (v := (-1)) hx hb hown (hts _ (List.mem_cons_of_mem _ tq_159)) d_M_characters_9 ?_
    refine lv_goto (tgt := 28) hx hb d_M_characters_12 (by decide) ?_
    exact hp_retl S hK hW hr hlk d_M_characters_28 (⟨by rw [md_word, if_pos hk0], ⟨tp, hs, sz, tx, vl, ey, md, ⟨f_2, f_3, f_4, f_5, f_6, f_7, f_8, f_9, f_10⟩, ⟨htl, htp⟩, hT, ⟨hll, hvl⟩, hKs, hml0, hmd⟩, hf_11⟩)

/-! the reference: text, no such entity -/
set_option maxHeartbeats 400000 in
set_option maxRecDepth 100000 in
theorem m_text_out (l : Launch) (g : hp_G) (z0 N : Nat) (ad : Nat → Nat) (F : Nat → va_E) (hN : 96 ≤ N) (tape : List Int32) (kn : Nat → Bool) (rt : Nat → List Int32) (la mm : List Int32) (stk : List Nat) (ap : Nat → Int32) (tc fp me dp fa ou ki nu be : Int32) (hS : mS g ad F tape kn rt la mm stk ap tc fp me dp fa ou ki nu be) (e0 k : Int32) (hno : ¬ (0 ≤ e0 ∧ e0 < 26)) : hp_Ml l g z0 N ad y_M_text ws_M_text (rk 1) [.ref (ad 87), .int e0, .int k] F (fun v F' => v = -1 ∧ mS g ad F' tape kn rt la mm stk ap 0 fp me dp fa ou ki nu be ∧ mFr F F') := by
  obtain ⟨tp, hs, sz, tx, vl, ey, md, hR, ⟨htl, htp⟩, hT, ⟨hll, hvl⟩, hKs, hml0, hmd⟩ := id hS
  refine hp_enter (cc := cc_M_text) (maxL := 3) (ret := (some .long)) (by decide) rfl (Nat.le_of_ble_eq_true rfl) ?_
  intro p e s m below meth c S hr hlk hnm hK hW ls hl
  have hl : lv_has ls 3 [(0, .ref (ad 87)), (1, .int e0), (2, .int k)] := hl
  obtain ⟨hx, hb, hml, hown, hts⟩ := id S
  have in_kM : ∀ w ∈ u_ws R_M T_M 21, w ∈ ws_M_text := fun w h => List.mem_cons_of_mem _ (in0_M w h)
  refine lv_aload_n hx hb d_M_text_0 rfl (lv_at hl 0 rfl) ?_
  refine lv_iconst (v := 0) hx hb d_M_text_1 (by decide) ?_
  refine hp_put S hK hW (87) (by omega) rfl hR.1 rfl in_kM tyok_M nm_M 0 (by decide) (hts _ (List.mem_cons_of_mem _ tq_96)) rfl rfl rfl (Nat.le_of_ble_eq_true rfl) d_M_text_2 (fun H locs hW => ?_)
  obtain ⟨F_1, eF_1⟩ : ∃ z, z = va_up F (87) (.inr (kM, [.int 0, .ref (ad 88), .int (nI tape.length), .ref (ad 89), .ref (ad 90), .ref (ad 91), .ref (ad 92), .int (nI la.length), .int fp, .int me, .int dp, .int (nI stk.length), .ref (ad 93), .ref (ad 94), .int fa, .int ou, .int ki, .int nu, .int be, .ref (ad 95), .int (nI mm.length)])) := ⟨_, rfl⟩
  replace hW : hp_W g z0 N ad F_1 s.heap H locs := by rw [eF_1]; exact hW
  have f_2 : F_1 (87) = .inr (kM, [.int 0, .ref (ad 88), .int (nI tape.length), .ref (ad 89), .ref (ad 90), .ref (ad 91), .ref (ad 92), .int (nI la.length), .int fp, .int me, .int dp, .int (nI stk.length), .ref (ad 93), .ref (ad 94), .int fa, .int ou, .int ki, .int nu, .int be, .ref (ad 95), .int (nI mm.length)]) := by rw [eF_1, va_up_self]
  have f_3 : F_1 (88) = .inl (g.2 0, 200, .inl tp) := by rw [eF_1, va_up_ne _ _ (by omega)]; exact hR.2.1
  have f_4 : F_1 (89) = .inl (g.2 2, 26, .inl hs) := by rw [eF_1, va_up_ne _ _ (by omega)]; exact hR.2.2.1
  have f_5 : F_1 (90) = .inl (g.2 0, 26, .inl sz) := by rw [eF_1, va_up_ne _ _ (by omega)]; exact hR.2.2.2.1
  have f_6 : F_1 (91) = .inl (g.2 0, 2600, .inl tx) := by rw [eF_1, va_up_ne _ _ (by omega)]; exact hR.2.2.2.2.1
  have f_7 : F_1 (92) = .inl (g.2 0, 301, .inl vl) := by rw [eF_1, va_up_ne _ _ (by omega)]; exact hR.2.2.2.2.2.1
  have f_8 : F_1 (93) = .inl (g.2 0, 28, .inl ey) := by rw [eF_1, va_up_ne _ _ (by omega)]; exact hR.2.2.2.2.2.2.1
  have f_9 : F_1 (94) = .inl (g.2 0, 28, .inl ap) := by rw [eF_1, va_up_ne _ _ (by omega)]; exact hR.2.2.2.2.2.2.2.1
  have f_10 : F_1 (95) = .inl (g.2 0, 204, .inl md) := by rw [eF_1, va_up_ne _ _ (by omega)]; exact hR.2.2.2.2.2.2.2.2
  have hf_11 : mFr F F_1 := fun x hx => by rw [eF_1, va_up_ne _ _ (by omega)]
  refine lv_iload_n hx hb d_M_text_5 rfl (lv_at hl 2 rfl) ?_
  refine lv_if_lt (tgt := 19) hx hb d_M_text_6 (by decide) (fun c_6 => ?_) (fun c_6 => ?_)
  · have c_6i := c_6
    have c_6j := Int32.not_le.mpr c_6
    refine lv_ldc2 (v := (-1)) hx hb hown (hts _ (List.mem_cons_of_mem _ tq_159)) d_M_text_19 ?_
    exact hp_retl S hK hW hr hlk d_M_text_22 (⟨rfl, ⟨tp, hs, sz, tx, vl, ey, md, ⟨f_2, f_3, f_4, f_5, f_6, f_7, f_8, f_9, f_10⟩, ⟨htl, htp⟩, hT, ⟨hll, hvl⟩, hKs, hml0, hmd⟩, hf_11⟩)
  · have c_6i := c_6
    have c_6j := Int32.not_lt.mp c_6
    refine lv_iload_n hx hb d_M_text_9 rfl (lv_at hl 1 rfl) ?_
    refine lv_if_lt (tgt := 19) hx hb d_M_text_10 (by decide) (fun c_10 => ?_) (fun c_10 => ?_)
    · have c_10i := c_10
      have c_10j := Int32.not_le.mpr c_10
      refine lv_ldc2 (v := (-1)) hx hb hown (hts _ (List.mem_cons_of_mem _ tq_159)) d_M_text_19 ?_
      exact hp_retl S hK hW hr hlk d_M_text_22 (⟨rfl, ⟨tp, hs, sz, tx, vl, ey, md, ⟨f_2, f_3, f_4, f_5, f_6, f_7, f_8, f_9, f_10⟩, ⟨htl, htp⟩, hT, ⟨hll, hvl⟩, hKs, hml0, hmd⟩, hf_11⟩)
    · have c_10i := c_10
      have c_10j := Int32.not_lt.mp c_10
      refine lv_iload_n hx hb d_M_text_13 rfl (lv_at hl 1 rfl) ?_
      refine lv_bipush (v := 25) hx hb d_M_text_14 (by decide) ?_
      refine lv_icmp_le (tgt := 23) hx hb d_M_text_16 (by decide) (fun c_16 => ?_) (fun c_16 => ?_)
      · have c_16i := c_16
        have c_16j := Int32.not_lt.mpr c_16
        exact absurd hno (fun h => h ⟨Int32.not_lt.mp c_10i, le25 c_16i⟩)
      · have c_16i := c_16
        have c_16j := Int32.not_le.mp c_16
        refine lv_ldc2 (v := (-1)) hx hb hown (hts _ (List.mem_cons_of_mem _ tq_159)) d_M_text_19 ?_
        exact hp_retl S hK hW hr hlk d_M_text_22 (⟨rfl, ⟨tp, hs, sz, tx, vl, ey, md, ⟨f_2, f_3, f_4, f_5, f_6, f_7, f_8, f_9, f_10⟩, ⟨htl, htp⟩, hT, ⟨hll, hvl⟩, hKs, hml0, hmd⟩, hf_11⟩)

/-! the reference: text -/
set_option maxHeartbeats 400000 in
set_option maxRecDepth 100000 in
theorem m_text_in (l : Launch) (g : hp_G) (z0 N : Nat) (ad : Nat → Nat) (F : Nat → va_E) (hN : 96 ≤ N) (tape : List Int32) (kn : Nat → Bool) (rt : Nat → List Int32) (la mm : List Int32) (stk : List Nat) (ap : Nat → Int32) (tc fp me dp fa ou ki nu be : Int32) (hS : mS g ad F tape kn rt la mm stk ap tc fp me dp fa ou ki nu be) (i : Nat) (hi : i < 26) (k : Int32) : hp_Ml l g z0 N ad y_M_text ws_M_text (rk 1) [.ref (ad 87), .int (nI i), .int k] F (fun v F' => v = (if kn i = true then md_word (rt i) k else -1) ∧ mS g ad F' tape kn rt la mm stk ap 0 fp me dp fa ou ki nu be ∧ mFr F F') := by
  obtain ⟨tp, hs, sz, tx, vl, ey, md, hR, ⟨htl, htp⟩, hT, ⟨hll, hvl⟩, hKs, hml0, hmd⟩ := id hS
  refine hp_enter (cc := cc_M_text) (maxL := 3) (ret := (some .long)) (by decide) rfl (Nat.le_of_ble_eq_true rfl) ?_
  intro p e s m below meth c S hr hlk hnm hK hW ls hl
  have hl : lv_has ls 3 [(0, .ref (ad 87)), (1, .int (nI i)), (2, .int k)] := hl
  obtain ⟨hx, hb, hml, hown, hts⟩ := id S
  have in_kM : ∀ w ∈ u_ws R_M T_M 21, w ∈ ws_M_text := fun w h => List.mem_cons_of_mem _ (in0_M w h)
  refine lv_aload_n hx hb d_M_text_0 rfl (lv_at hl 0 rfl) ?_
  refine lv_iconst (v := 0) hx hb d_M_text_1 (by decide) ?_
  refine hp_put S hK hW (87) (by omega) rfl hR.1 rfl in_kM tyok_M nm_M 0 (by decide) (hts _ (List.mem_cons_of_mem _ tq_96)) rfl rfl rfl (Nat.le_of_ble_eq_true rfl) d_M_text_2 (fun H locs hW => ?_)
  obtain ⟨F_1, eF_1⟩ : ∃ z, z = va_up F (87) (.inr (kM, [.int 0, .ref (ad 88), .int (nI tape.length), .ref (ad 89), .ref (ad 90), .ref (ad 91), .ref (ad 92), .int (nI la.length), .int fp, .int me, .int dp, .int (nI stk.length), .ref (ad 93), .ref (ad 94), .int fa, .int ou, .int ki, .int nu, .int be, .ref (ad 95), .int (nI mm.length)])) := ⟨_, rfl⟩
  replace hW : hp_W g z0 N ad F_1 s.heap H locs := by rw [eF_1]; exact hW
  have f_2 : F_1 (87) = .inr (kM, [.int 0, .ref (ad 88), .int (nI tape.length), .ref (ad 89), .ref (ad 90), .ref (ad 91), .ref (ad 92), .int (nI la.length), .int fp, .int me, .int dp, .int (nI stk.length), .ref (ad 93), .ref (ad 94), .int fa, .int ou, .int ki, .int nu, .int be, .ref (ad 95), .int (nI mm.length)]) := by rw [eF_1, va_up_self]
  have f_3 : F_1 (88) = .inl (g.2 0, 200, .inl tp) := by rw [eF_1, va_up_ne _ _ (by omega)]; exact hR.2.1
  have f_4 : F_1 (89) = .inl (g.2 2, 26, .inl hs) := by rw [eF_1, va_up_ne _ _ (by omega)]; exact hR.2.2.1
  have f_5 : F_1 (90) = .inl (g.2 0, 26, .inl sz) := by rw [eF_1, va_up_ne _ _ (by omega)]; exact hR.2.2.2.1
  have f_6 : F_1 (91) = .inl (g.2 0, 2600, .inl tx) := by rw [eF_1, va_up_ne _ _ (by omega)]; exact hR.2.2.2.2.1
  have f_7 : F_1 (92) = .inl (g.2 0, 301, .inl vl) := by rw [eF_1, va_up_ne _ _ (by omega)]; exact hR.2.2.2.2.2.1
  have f_8 : F_1 (93) = .inl (g.2 0, 28, .inl ey) := by rw [eF_1, va_up_ne _ _ (by omega)]; exact hR.2.2.2.2.2.2.1
  have f_9 : F_1 (94) = .inl (g.2 0, 28, .inl ap) := by rw [eF_1, va_up_ne _ _ (by omega)]; exact hR.2.2.2.2.2.2.2.1
  have f_10 : F_1 (95) = .inl (g.2 0, 204, .inl md) := by rw [eF_1, va_up_ne _ _ (by omega)]; exact hR.2.2.2.2.2.2.2.2
  have hf_11 : mFr F F_1 := fun x hx => by rw [eF_1, va_up_ne _ _ (by omega)]
  refine lv_iload_n hx hb d_M_text_5 rfl (lv_at hl 2 rfl) ?_
  refine lv_if_lt (tgt := 19) hx hb d_M_text_6 (by decide) (fun c_6 => ?_) (fun c_6 => ?_)
  · have c_6i := c_6
    have c_6j := Int32.not_le.mpr c_6
    refine lv_ldc2 (v := (-1)) hx hb hown (hts _ (List.mem_cons_of_mem _ tq_159)) d_M_text_19 ?_
    exact hp_retl S hK hW hr hlk d_M_text_22 (⟨by rw [md_word, if_pos c_6i]; split <;> rfl, ⟨tp, hs, sz, tx, vl, ey, md, ⟨f_2, f_3, f_4, f_5, f_6, f_7, f_8, f_9, f_10⟩, ⟨htl, htp⟩, hT, ⟨hll, hvl⟩, hKs, hml0, hmd⟩, hf_11⟩)
  · have c_6i := c_6
    have c_6j := Int32.not_lt.mp c_6
    refine lv_iload_n hx hb d_M_text_9 rfl (lv_at hl 1 rfl) ?_
    refine lv_if_lt (tgt := 19) hx hb d_M_text_10 (by decide) (fun c_10 => absurd c_10 (show ¬ (((nI i) : Int32) < 0) from nI_pos (by omega))) (fun c_10 => ?_)
    refine lv_iload_n hx hb d_M_text_13 rfl (lv_at hl 1 rfl) ?_
    refine lv_bipush (v := 25) hx hb d_M_text_14 (by decide) ?_
    refine lv_icmp_le (tgt := 23) hx hb d_M_text_16 (by decide) (fun c_16 => ?_) (fun c_16 => absurd (show ((nI i) : Int32) ≤ 25 from nI_le (b := 25) (by omega) (by omega)) c_16)
    refine lv_aload_n hx hb d_M_text_23 rfl (lv_at hl 0 rfl) ?_
    refine hp_get S hK hW (87) (by omega) rfl f_2 rfl in_kM 3 (by decide) (hts _ (List.mem_cons_of_mem _ tq_99)) rfl d_M_text_24 ?_
    refine lv_iload_n hx hb d_M_text_27 rfl (lv_at hl 1 rfl) ?_
    refine hp_zald S hK hW (89) (by omega) rfl f_4 (vp_in_nI hi (by omega)) d_M_text_28 ?_
    rw [show (hs ((nI i) : Int32).toNatClampNeg) = (b2 (kn i)) from (by rw [nI_clamp (by omega)]; exact (hT i hi).1)]
    refine lv_if_eq (tgt := 53) hx hb d_M_text_29 (by decide) (fun c_29 => ?_) (fun c_29 => ?_)
    · have c_29i := c_29
      refine lv_ldc2 (v := (-1)) hx hb hown (hts _ (List.mem_cons_of_mem _ tq_159)) d_M_text_53 ?_
      exact hp_retl S hK hW hr hlk d_M_text_56 (⟨by rw [if_neg (by rw [b2_0.mp c_29i]; exact fun z => by cases z)], ⟨tp, hs, sz, tx, vl, ey, md, ⟨f_2, f_3, f_4, f_5, f_6, f_7, f_8, f_9, f_10⟩, ⟨htl, htp⟩, hT, ⟨hll, hvl⟩, hKs, hml0, hmd⟩, hf_11⟩)
    · have c_29i := c_29
      have hkn := b2_n0.mp c_29i
      have hTi := (hT i hi).2 hkn
      have hTl := hTi.2.1
      refine lv_aload_n hx hb d_M_text_32 rfl (lv_at hl 0 rfl) ?_
      refine hp_get S hK hW (87) (by omega) rfl f_2 rfl in_kM 5 (by decide) (hts _ (List.mem_cons_of_mem _ tq_101)) rfl d_M_text_33 ?_
      refine lv_bipush (v := 100) hx hb d_M_text_36 (by decide) ?_
      refine lv_iload_n hx hb d_M_text_38 rfl (lv_at hl 1 rfl) ?_
      refine lv_imul hx hb d_M_text_39 ?_
      rw [show (100 * (nI i)) = (nI (100 * i)) from pk_mul 100 i]
      refine lv_aload_n hx hb d_M_text_40 rfl (lv_at hl 0 rfl) ?_
      refine hp_get S hK hW (87) (by omega) rfl f_2 rfl in_kM 4 (by decide) (hts _ (List.mem_cons_of_mem _ tq_100)) rfl d_M_text_41 ?_
      refine lv_iload_n hx hb d_M_text_44 rfl (lv_at hl 1 rfl) ?_
      refine hp_iald S hK hW (90) (by omega) rfl f_5 (vp_in_nI hi (by omega)) d_M_text_45 ?_
      rw [show (sz ((nI i) : Int32).toNatClampNeg) = (nI (rt i).length) from (by rw [nI_clamp (by omega)]; exact hTi.1)]
      refine lv_iload_n hx hb d_M_text_46 rfl (lv_at hl 2 rfl) ?_
      have f91 := f_6
      refine hp_gol hW (va_runS S (m_eight l g z0 N ad F_1 91 2600 (100 * i) (by omega) (rt i) tx f91 (by omega) (by omega) hTi.2.2 k c_6i) (va_cwS 4 hts (tb_S cd_M_eight tq_160 tq_161 tq_118) rfl rfl rfl hd_M_eight.2 (rk_ok (by omega) (by omega))) (hp_preS hK hW) rfl rfl hl.1 rfl (lv_room (Nat.le_of_ble_eq_true rfl)) d_M_text_47 ⟨Nat.zero_le _, Nat.zero_le _⟩) (fun r_12 F_13 H locs hw hW => ?_)
      obtain ⟨hvq, hFq⟩ := hw
      rw [hFq] at hW
      rw [hvq]
      refine lv_goto (tgt := 56) hx hb d_M_text_50 (by decide) ?_
      exact hp_retl S hK hW hr hlk d_M_text_56 (⟨by rw [if_pos hkn, md_word, if_neg c_6i], ⟨tp, hs, sz, tx, vl, ey, md, ⟨f_2, f_3, f_4, f_5, f_6, f_7, f_8, f_9, f_10⟩, ⟨htl, htp⟩, hT, ⟨hll, hvl⟩, hKs, hml0, hmd⟩, hf_11⟩)
