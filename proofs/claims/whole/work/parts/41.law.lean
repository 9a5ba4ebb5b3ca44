/-! THE CLAIM OUT OF ONE WALK OF THE LAW'S BODY. Your part is whole_start (and what it stands on); all else here is the same for every law, but numbers. -/
def R_law : String := "ValueDeskLaw"
def lw_P (b : Addr) (xs : List Int32) (args : Array Value) (s : State) : Prop := args = #[.ref b] ∧ s.IntsAt b xs ∧ xs.length ≤ 2048 ∧ (Jvm.Cond.and given_1 narrow_1).before args s = true
def lw_Q (_ : Array Value) (s : State) (o : Outcome) (t : State) : Prop := o = .returned (some (.int 1)) ∧ Framed s o t [] 600000 7302250
def lw_Z (below : List Frame) (a : Array Value) (s : State) : State → Prop := fun t => ∃ o, t.status = .running ∧ Ended t below o ∧ lw_Q a s o t
/-- the law's own end, with 1 on the stack, nothing written that was there before, its room as the claim has it -/
theorem lw_ret {p : Program} {l : Launch} {e : Env} {s : State} {m : MethodId} {below : List Frame} {meth : Method} {c : Code} {b : Nat} (hx : p.tables.exec = Jvm.exec) (hb : c.code = code) (hr : meth.sig.returnType = ret) (hlocks : meth.locks = false) {pc : Nat} {H : Heap} {ls : Array Slot} (hdg : decode code pc = .ok (.ireturn, 1)) : W p l e room_1 s m #[Value.ref b] below meth c H [] 600000 7302250 (lw_Z below #[Value.ref b] s) (F0 m pc ls [.int 1]) := by
  intro T hT X
  obtain ⟨fs, hret, hrun, hended, hW, hframe⟩ := X.leave (v := some (.int 1)) (hlocks := hlocks) (fun h => by rw [hr] at h; cases h)
  have hmeth' : T.vm.method? m = some meth := X.method'
  refine ⟨T.setFrames fs, ?_, .returned (some (.int 1)), hrun, hended, rfl, ⟨_, rfl⟩, hW, hframe⟩
  jvm_step X.here [X.here.top, hx, hb, hdg, hmeth', hr, ret, narrow_b1]
  (try refine ⟨rfl, ?_⟩); (try refine ⟨rfl, ?_⟩)
  first | (intro acts; rw [hret _ acts rfl rfl rfl]) | rw [hret _ _ rfl rfl rfl]
  exact Steps.refl _
/-- what holds at the law's entry: the machine, the code, the tables' words (any of lw_tbl by 'hts w (by decide +kernel)'), the script of L ints xs at the cell b, what the Statement gives of the start (any of its parts by flat_of_before) -/
def lw_At (p : Program) (s : State) (m : MethodId) (meth : Method) (c : Code) (b L : Nat) (xs : Nat → Int32) : Prop :=
  p.tables.exec = Jvm.exec ∧ c.code = code ∧ meth.sig.returnType = ret ∧ c.maxLocals = 4 ∧ s.vm.findClass R_law = some m.cls ∧ (∀ w ∈ lw_tbl, w.before #[Value.ref b] s = true) ∧ va_X b L xs s s.heap ∧ b < s.heap.size ∧ meth.locks = false ∧ (Jvm.Cond.and given_1 narrow_1).before #[Value.ref b] s = true

/-! the law's loop -/
set_option maxHeartbeats 400000 in
set_option maxRecDepth 100000 in
theorem law_loop {p : Program} {e : Env} {s : State} {m : MethodId} {below : List Frame} {meth : Method} {c : Code} (l : Launch) (g : hp_G) (ad : Nat → Nat) {b L : Nat} {xs : Nat → Int32} (hL : L ≤ 2048) (C0 : lw_At p s m meth c b L xs) (hK : hp_K g s) : ∀ (n i : Nat) (F : Nat → va_E), i ≤ L + 3 → L + 4 ≤ i + n → LI g ad F → ∀ (H : Heap) (locs : List Loc) (ls : Array Slot), hp_W g s.heap.size 96 ad F s.heap H locs → lv_has ls 4 [(0, .ref b), (1, .ref (ad 0)), (2, .ref (ad 87)), (3, .int (nI i))] → W p l e room_1 s m #[Value.ref b] below meth c H locs 96 6809 (lw_Z below #[Value.ref b] s) (F0 m 18 ls []) := by
  obtain ⟨hx, hb, hr, hml, hown, hts, hX, hbl, hlocks, hgv⟩ := id C0
  have hown : s.vm.findClass R_L = some m.cls := hown
  have S : CallFix p m c code 4 s #[Value.ref b] lw_tbl R_L := ⟨hx, hb, hml, hown, hts⟩
  have hbA : ¬ hp_A s.heap.size b := fun h => absurd hbl (Nat.not_lt.mpr h)
  obtain ⟨z0, hz0⟩ : ∃ z, z = s.heap.size := ⟨_, rfl⟩
  intro n
  induction n with
  | zero =>
    intro i F h1 h2
    exact absurd h2 (by omega)
  | succ n ih =>
    intro i F hi hn hLI H locs ls hW hl
    obtain ⟨rs, kn, fp, lm, me, dp, wh, te, nu, en, mm, ap, tc, fa, ou, ki, nu2, be, hv, hm⟩ := hLI
    refine lv_iload_n hx hb d_L_law_18 rfl (lv_at hl 3 rfl) ?_
    refine lv_aload_n hx hb d_L_law_19 rfl (lv_at hl 0 rfl) ?_
    refine va_slen hx hb hX hbl hbA hW.2.2.1 d_L_law_20 ?_
    refine lv_iconst (v := 4) hx hb d_L_law_21 (by decide) ?_
    refine lv_isub hx hb d_L_law_22 ?_
    refine lv_icmp_gt (tgt := 312) hx hb d_L_law_23 (by decide) (fun hgt => ?_) (fun hgt => ?_)
    · refine lv_iconst (v := 1) hx hb d_L_law_312 (by decide) ?_
      refine va_forget (fun q hq => hW.2.2.1.2.2 q hq) ?_
      refine W.widen (k := 600000) (n := 7302250) (by omega) (by omega) ?_
      exact lw_ret hx hb hr hlocks d_L_law_313
    · have hin := law_in hL (by omega) hgt
      refine lv_aload_n hx hb d_L_law_26 rfl (lv_at hl 0 rfl) ?_
      refine lv_iload_n hx hb d_L_law_27 rfl (lv_at hl 3 rfl) ?_
      refine va_sld hx hb hX hbl hbA hW.2.2.1 (vp_in_nI (n := i) (by omega) (by omega)) d_L_law_28 ?_
      rw [show ((nI i) : Int32).toNatClampNeg = i from nI_clamp (by omega)]
      refine lv_bipush (v := 7) hx hb d_L_law_29 (by decide) ?_
      refine lv_iand hx hb d_L_law_31 ?_
      obtain ⟨jj, hjj, ejj⟩ := and7 (xs i)
      rw [ejj]
      rcases i8 hjj with rfl | rfl | rfl | rfl | rfl | rfl | rfl | rfl
      · refine lv_tableIn (tgt := 80) hx hb d_L_law_32 (by decide) (by decide) rfl (by decide) ?_
        refine lv_aload_n hx hb d_L_law_80 rfl (lv_at hl 1 rfl) ?_
        refine lv_aload_n hx hb d_L_law_81 rfl (lv_at hl 0 rfl) ?_
        refine lv_iload_n hx hb d_L_law_82 rfl (lv_at hl 3 rfl) ?_
        refine lv_iconst (v := 1) hx hb d_L_law_83 (by decide) ?_
        refine lv_iadd hx hb d_L_law_84 ?_
        rw [show ((nI i) + 1) = (nI (i + 1)) from nI_add i 1]
        refine va_sld hx hb hX hbl hbA hW.2.2.1 (vp_in_nI (n := (i + 1)) (by omega) (by omega)) d_L_law_85 ?_
        rw [show ((nI (i + 1)) : Int32).toNatClampNeg = (i + 1) from nI_clamp (by omega)]
        refine lv_i2l hx hb d_L_law_86 rfl ?_
        refine lv_bipush (v := 32) hx hb d_L_law_87 (by decide) ?_
        refine lv_lshl hx hb d_L_law_89 rfl ?_
        refine lv_aload_n hx hb d_L_law_90 rfl (lv_at hl 0 rfl) ?_
        refine lv_iload_n hx hb d_L_law_91 rfl (lv_at hl 3 rfl) ?_
        refine lv_iconst (v := 2) hx hb d_L_law_92 (by decide) ?_
        refine lv_iadd hx hb d_L_law_93 ?_
        rw [show ((nI i) + 2) = (nI (i + 2)) from nI_add i 2]
        refine va_sld hx hb hX hbl hbA hW.2.2.1 (vp_in_nI (n := (i + 2)) (by omega) (by omega)) d_L_law_94 ?_
        rw [show ((nI (i + 2)) : Int32).toNatClampNeg = (i + 2) from nI_clamp (by omega)]
        refine lv_i2l hx hb d_L_law_95 rfl ?_
        refine lv_ldc2 (v := 4294967295) hx hb hown (hts _ (tb_lw tq_204)) d_L_law_96 ?_
        refine lv_land hx hb d_L_law_99 ?_
        refine lv_lor hx hb d_L_law_100 ?_
        refine lv_aload_n hx hb d_L_law_101 rfl (lv_at hl 0 rfl) ?_
        refine lv_iload_n hx hb d_L_law_102 rfl (lv_at hl 3 rfl) ?_
        refine lv_iconst (v := 3) hx hb d_L_law_103 (by decide) ?_
        refine lv_iadd hx hb d_L_law_104 ?_
        rw [show ((nI i) + 3) = (nI (i + 3)) from nI_add i 3]
        refine va_sld hx hb hX hbl hbA hW.2.2.1 (vp_in_nI (n := (i + 3)) (by omega) (by omega)) d_L_law_105 ?_
        rw [show ((nI (i + 3)) : Int32).toNatClampNeg = (i + 3) from nI_clamp (by omega)]
        by_cases hnn : (xs (i + 3)) < 1 ∨ 8 < (xs (i + 3))
        · refine hp_goi hW (va_runV S (c_put_out l g s.heap.size 96 ad F (by omega) rs kn (opS []) fp lm me dp wh te nu en hv (((((xs (i + 1))) : Int32).toInt64 <<< ((32 : Int32).toInt64 &&& 63)) ||| ((((xs (i + 2))) : Int32).toInt64 &&& 4294967295)) (xs (i + 3)) hnn) (cwV 2 hts (tb_VL cd_D_put tq_205 tq_206 tq_207 tq_27) rfl rfl rfl hd_D_put ⟨Nat.le_of_ble_eq_true rfl, Nat.le_of_ble_eq_true rfl⟩) (hp_preV hK hW (by omega) rfl hv.1 rfl) rfl rfl hl.1 rfl (lv_room (Nat.le_of_ble_eq_true rfl)) d_L_law_106 ⟨Nat.le_of_ble_eq_true rfl, Nat.le_of_ble_eq_true rfl⟩) (fun r_1 F_2 H locs hw hW => ?_)
          obtain ⟨hv1, hF1⟩ := hw
          rw [hF1] at hW
          rw [hv1]
          refine lv_aload_n hx hb d_L_law_109 rfl (lv_at hl 2 rfl) ?_
          refine lv_aload_n hx hb d_L_law_110 rfl (lv_at hl 0 rfl) ?_
          refine lv_iload_n hx hb d_L_law_111 rfl (lv_at hl 3 rfl) ?_
          refine lv_iconst (v := 1) hx hb d_L_law_112 (by decide) ?_
          refine lv_iadd hx hb d_L_law_113 ?_
          rw [show ((nI i) + 1) = (nI (i + 1)) from nI_add i 1]
          refine va_sld hx hb hX hbl hbA hW.2.2.1 (vp_in_nI (n := (i + 1)) (by omega) (by omega)) d_L_law_114 ?_
          rw [show ((nI (i + 1)) : Int32).toNatClampNeg = (i + 1) from nI_clamp (by omega)]
          refine lv_i2l hx hb d_L_law_115 rfl ?_
          refine lv_bipush (v := 32) hx hb d_L_law_116 (by decide) ?_
          refine lv_lshl hx hb d_L_law_118 rfl ?_
          refine lv_aload_n hx hb d_L_law_119 rfl (lv_at hl 0 rfl) ?_
          refine lv_iload_n hx hb d_L_law_120 rfl (lv_at hl 3 rfl) ?_
          refine lv_iconst (v := 2) hx hb d_L_law_121 (by decide) ?_
          refine lv_iadd hx hb d_L_law_122 ?_
          rw [show ((nI i) + 2) = (nI (i + 2)) from nI_add i 2]
          refine va_sld hx hb hX hbl hbA hW.2.2.1 (vp_in_nI (n := (i + 2)) (by omega) (by omega)) d_L_law_123 ?_
          rw [show ((nI (i + 2)) : Int32).toNatClampNeg = (i + 2) from nI_clamp (by omega)]
          refine lv_i2l hx hb d_L_law_124 rfl ?_
          refine lv_ldc2 (v := 4294967295) hx hb hown (hts _ (tb_lw tq_204)) d_L_law_125 ?_
          refine lv_land hx hb d_L_law_128 ?_
          refine lv_lor hx hb d_L_law_129 ?_
          refine lv_aload_n hx hb d_L_law_130 rfl (lv_at hl 0 rfl) ?_
          refine lv_iload_n hx hb d_L_law_131 rfl (lv_at hl 3 rfl) ?_
          refine lv_iconst (v := 3) hx hb d_L_law_132 (by decide) ?_
          refine lv_iadd hx hb d_L_law_133 ?_
          rw [show ((nI i) + 3) = (nI (i + 3)) from nI_add i 3]
          refine va_sld hx hb hX hbl hbA hW.2.2.1 (vp_in_nI (n := (i + 3)) (by omega) (by omega)) d_L_law_134 ?_
          rw [show ((nI (i + 3)) : Int32).toNatClampNeg = (i + 3) from nI_clamp (by omega)]
          refine hp_goi hW (va_runV S (m_put_out l g s.heap.size 96 ad F (by omega) (rs 1) kn (fun k => rs (9 + 3 * k)) (rs 5) mm [] ap tc fp me dp fa ou ki nu2 be hm (((((xs (i + 1))) : Int32).toInt64 <<< ((32 : Int32).toInt64 &&& 63)) ||| ((((xs (i + 2))) : Int32).toInt64 &&& 4294967295)) (xs (i + 3)) hnn) (cwV 2 hts (tb_VL cd_M_put tq_208 tq_209 tq_210 tq_118) rfl rfl rfl hd_M_put ⟨Nat.le_of_ble_eq_true rfl, Nat.le_of_ble_eq_true rfl⟩) (hp_preV hK hW (by omega) rfl (hm.choose_spec.choose_spec.choose_spec.choose_spec.choose_spec.choose_spec.choose_spec.1.1) rfl) rfl rfl hl.1 rfl (lv_room (Nat.le_of_ble_eq_true rfl)) d_L_law_135 ⟨Nat.le_of_ble_eq_true rfl, Nat.le_of_ble_eq_true rfl⟩) (fun r_3 F_4 H locs hw hW => ?_)
          obtain ⟨hv2, hm2, hg2⟩ := hw
          rw [hv2]
          refine lv_icmp_eq (tgt := 306) hx hb d_L_law_138 (by decide) (fun _ => ?_) (fun hne => absurd rfl hne)
          refine lv_iinc (v := nI (i + 4)) (lv' := [(3, .int (nI (i + 4))), (0, .ref b), (1, .ref (ad 0)), (2, .ref (ad 87))]) hx hb d_L_law_306 hl (k := 3) rfl (nI_add i 4) (by decide) rfl (fun ls hl => ?_)
          refine lv_goto (tgt := 18) hx hb d_L_law_309 (by decide) ?_
          exact ih (i + 4) F_4 (by omega) (by omega) (LI.of (hv.keepM hg2) hm2 rfl rfl (fun _ => rfl)) H locs ls hW (lv_sub hl [1, 2, 3, 0] rfl)
        · obtain ⟨k, hk1, hk8, ek⟩ := put_k (fun h => hnn (Or.inl h)) (fun h => hnn (Or.inr h))
          refine W.eq (g2 := F0 m 106 ls [.int (nI k), .long (((((xs (i + 1))) : Int32).toInt64 <<< ((32 : Int32).toInt64 &&& 63)) ||| ((((xs (i + 2))) : Int32).toInt64 &&& 4294967295)), .ref (ad 0)]) (by rw [ek]) ?_
          refine hp_goi hW (va_runV S (c_put_in l g s.heap.size 96 ad F (by omega) rs kn (opS []) fp lm me dp wh te nu en hv (((((xs (i + 1))) : Int32).toInt64 <<< ((32 : Int32).toInt64 &&& 63)) ||| ((((xs (i + 2))) : Int32).toInt64 &&& 4294967295)) k hk1 hk8) (cwV 2 hts (tb_VL cd_D_put tq_205 tq_206 tq_207 tq_27) rfl rfl rfl hd_D_put ⟨Nat.le_of_ble_eq_true rfl, Nat.le_of_ble_eq_true rfl⟩) (hp_preV hK hW (by omega) rfl hv.1 rfl) rfl rfl hl.1 rfl (lv_room (Nat.le_of_ble_eq_true rfl)) d_L_law_106 ⟨Nat.le_of_ble_eq_true rfl, Nat.le_of_ble_eq_true rfl⟩) (fun r_5 F_6 H locs hw hW => ?_)
          obtain ⟨hv1, hS1, hf1⟩ := hw
          rw [hv1]
          replace hm := hm.keep hf1
          refine lv_aload_n hx hb d_L_law_109 rfl (lv_at hl 2 rfl) ?_
          refine lv_aload_n hx hb d_L_law_110 rfl (lv_at hl 0 rfl) ?_
          refine lv_iload_n hx hb d_L_law_111 rfl (lv_at hl 3 rfl) ?_
          refine lv_iconst (v := 1) hx hb d_L_law_112 (by decide) ?_
          refine lv_iadd hx hb d_L_law_113 ?_
          rw [show ((nI i) + 1) = (nI (i + 1)) from nI_add i 1]
          refine va_sld hx hb hX hbl hbA hW.2.2.1 (vp_in_nI (n := (i + 1)) (by omega) (by omega)) d_L_law_114 ?_
          rw [show ((nI (i + 1)) : Int32).toNatClampNeg = (i + 1) from nI_clamp (by omega)]
          refine lv_i2l hx hb d_L_law_115 rfl ?_
          refine lv_bipush (v := 32) hx hb d_L_law_116 (by decide) ?_
          refine lv_lshl hx hb d_L_law_118 rfl ?_
          refine lv_aload_n hx hb d_L_law_119 rfl (lv_at hl 0 rfl) ?_
          refine lv_iload_n hx hb d_L_law_120 rfl (lv_at hl 3 rfl) ?_
          refine lv_iconst (v := 2) hx hb d_L_law_121 (by decide) ?_
          refine lv_iadd hx hb d_L_law_122 ?_
          rw [show ((nI i) + 2) = (nI (i + 2)) from nI_add i 2]
          refine va_sld hx hb hX hbl hbA hW.2.2.1 (vp_in_nI (n := (i + 2)) (by omega) (by omega)) d_L_law_123 ?_
          rw [show ((nI (i + 2)) : Int32).toNatClampNeg = (i + 2) from nI_clamp (by omega)]
          refine lv_i2l hx hb d_L_law_124 rfl ?_
          refine lv_ldc2 (v := 4294967295) hx hb hown (hts _ (tb_lw tq_204)) d_L_law_125 ?_
          refine lv_land hx hb d_L_law_128 ?_
          refine lv_lor hx hb d_L_law_129 ?_
          refine lv_aload_n hx hb d_L_law_130 rfl (lv_at hl 0 rfl) ?_
          refine lv_iload_n hx hb d_L_law_131 rfl (lv_at hl 3 rfl) ?_
          refine lv_iconst (v := 3) hx hb d_L_law_132 (by decide) ?_
          refine lv_iadd hx hb d_L_law_133 ?_
          rw [show ((nI i) + 3) = (nI (i + 3)) from nI_add i 3]
          refine va_sld hx hb hX hbl hbA hW.2.2.1 (vp_in_nI (n := (i + 3)) (by omega) (by omega)) d_L_law_134 ?_
          rw [show ((nI (i + 3)) : Int32).toNatClampNeg = (i + 3) from nI_clamp (by omega)]
          refine W.eq (g2 := F0 m 135 ls [.int (nI k), .long (((((xs (i + 1))) : Int32).toInt64 <<< ((32 : Int32).toInt64 &&& 63)) ||| ((((xs (i + 2))) : Int32).toInt64 &&& 4294967295)), .ref (ad 87), .int (b2 (decide (1 ≤ k ∧ k ≤ 8 ∧ (rs 1).length + k ≤ 200)))]) (by rw [ek]) ?_
          refine hp_goi hW (va_runV S (m_put_in l g s.heap.size 96 ad F_6 (by omega) (rs 1) kn (fun k => rs (9 + 3 * k)) (rs 5) mm [] ap tc fp me dp fa ou ki nu2 be hm (((((xs (i + 1))) : Int32).toInt64 <<< ((32 : Int32).toInt64 &&& 63)) ||| ((((xs (i + 2))) : Int32).toInt64 &&& 4294967295)) k hk1 hk8) (cwV 2 hts (tb_VL cd_M_put tq_208 tq_209 tq_210 tq_118) rfl rfl rfl hd_M_put ⟨Nat.le_of_ble_eq_true rfl, Nat.le_of_ble_eq_true rfl⟩) (hp_preV hK hW (by omega) rfl (hm.choose_spec.choose_spec.choose_spec.choose_spec.choose_spec.choose_spec.choose_spec.1.1) rfl) rfl rfl hl.1 rfl (lv_room (Nat.le_of_ble_eq_true rfl)) d_L_law_135 ⟨Nat.le_of_ble_eq_true rfl, Nat.le_of_ble_eq_true rfl⟩) (fun r_7 F_8 H locs hw hW => ?_)
          obtain ⟨hv2, hm2, hg2⟩ := hw
          rw [hv2]
          refine lv_icmp_eq (tgt := 306) hx hb d_L_law_138 (by decide) (fun _ => ?_) (fun hne => absurd rfl hne)
          refine lv_iinc (v := nI (i + 4)) (lv' := [(3, .int (nI (i + 4))), (0, .ref b), (1, .ref (ad 0)), (2, .ref (ad 87))]) hx hb d_L_law_306 hl (k := 3) rfl (nI_add i 4) (by decide) rfl (fun ls hl => ?_)
          refine lv_goto (tgt := 18) hx hb d_L_law_309 (by decide) ?_
          exact ih (i + 4) F_8 (by omega) (by omega) (LI.of (hS1.keepM hg2) hm2 (by split; exact va_up_self _ _ _; rfl) (by split; exact va_up_ne _ _ (by omega); rfl) (fun k => by split; exact va_up_ne _ _ (by omega); rfl)) H locs ls hW (lv_sub hl [1, 2, 3, 0] rfl)
      · refine lv_tableIn (tgt := 143) hx hb d_L_law_32 (by decide) (by decide) rfl (by decide) ?_
        refine lv_aload_n hx hb d_L_law_143 rfl (lv_at hl 1 rfl) ?_
        refine lv_aload_n hx hb d_L_law_144 rfl (lv_at hl 0 rfl) ?_
        refine lv_iload_n hx hb d_L_law_145 rfl (lv_at hl 3 rfl) ?_
        refine lv_iconst (v := 1) hx hb d_L_law_146 (by decide) ?_
        refine lv_iadd hx hb d_L_law_147 ?_
        rw [show ((nI i) + 1) = (nI (i + 1)) from nI_add i 1]
        refine va_sld hx hb hX hbl hbA hW.2.2.1 (vp_in_nI (n := (i + 1)) (by omega) (by omega)) d_L_law_148 ?_
        rw [show ((nI (i + 1)) : Int32).toNatClampNeg = (i + 1) from nI_clamp (by omega)]
        by_cases hkk : 0 ≤ (xs (i + 1)) ∧ (xs (i + 1)) < 26
        · obtain ⟨k, hk, ek⟩ := ent_k (Int32.not_lt.mpr hkk.1) hkk.2
          refine W.eq (g2 := F0 m 149 ls [.int (nI k), .ref (ad 0)]) (by rw [ek]) ?_
          refine hp_goi hW (va_runV S (c_define_in l g s.heap.size 96 ad F (by omega) rs kn (opS []) fp lm me dp wh te nu en hv k hk) (cwV 1 hts (tb_VL cd_D_define tq_211 tq_212 tq_213 tq_27) rfl rfl rfl hd_D_define ⟨Nat.le_of_ble_eq_true rfl, Nat.le_of_ble_eq_true rfl⟩) (hp_preV hK hW (by omega) rfl hv.1 rfl) rfl rfl hl.1 rfl (lv_room (Nat.le_of_ble_eq_true rfl)) d_L_law_149 ⟨Nat.le_of_ble_eq_true rfl, Nat.le_of_ble_eq_true rfl⟩) (fun r_9 F_10 H locs hw hW => ?_)
          obtain ⟨hv1, ⟨rs2, wh2, te2, nu3, en2, hS1, e1, e5, eo, ei⟩, hf1⟩ := hw
          rw [hv1]
          replace hm := hm.keep hf1
          refine lv_aload_n hx hb d_L_law_152 rfl (lv_at hl 2 rfl) ?_
          refine lv_aload_n hx hb d_L_law_153 rfl (lv_at hl 0 rfl) ?_
          refine lv_iload_n hx hb d_L_law_154 rfl (lv_at hl 3 rfl) ?_
          refine lv_iconst (v := 1) hx hb d_L_law_155 (by decide) ?_
          refine lv_iadd hx hb d_L_law_156 ?_
          rw [show ((nI i) + 1) = (nI (i + 1)) from nI_add i 1]
          refine va_sld hx hb hX hbl hbA hW.2.2.1 (vp_in_nI (n := (i + 1)) (by omega) (by omega)) d_L_law_157 ?_
          rw [show ((nI (i + 1)) : Int32).toNatClampNeg = (i + 1) from nI_clamp (by omega)]
          refine W.eq (g2 := F0 m 158 ls [.int (nI k), .ref (ad 87), .int (if (md_df (rs 1) (rs 1).length 0 []).2.1 = 0 then if kn k = true then -9 else nI (md_df (rs 1) (rs 1).length 0 []).1.length else -nI (md_df (rs 1) (rs 1).length 0 []).2.1)]) (by rw [ek]) ?_
          refine hp_goi hW (va_runV S (m_define_in l g s.heap.size 96 ad F_10 (by omega) (rs 1) kn (fun k => rs (9 + 3 * k)) (rs 5) mm [] ap tc fp me dp fa ou ki nu2 be hm k hk) (cwV 1 hts (tb_VL cd_M_define tq_214 tq_215 tq_216 tq_118) rfl rfl rfl hd_M_define ⟨Nat.le_of_ble_eq_true rfl, Nat.le_of_ble_eq_true rfl⟩) (hp_preV hK hW (by omega) rfl (hm.choose_spec.choose_spec.choose_spec.choose_spec.choose_spec.choose_spec.choose_spec.1.1) rfl) rfl rfl hl.1 rfl (lv_room (Nat.le_of_ble_eq_true rfl)) d_L_law_158 ⟨Nat.le_of_ble_eq_true rfl, Nat.le_of_ble_eq_true rfl⟩) (fun r_11 F_12 H locs hw hW => ?_)
          obtain ⟨hv2, ⟨mm2, ap2, fa2, ki2, nu4, be2, hm2⟩, hg2⟩ := hw
          rw [hv2]
          refine lv_icmp_eq (tgt := 306) hx hb d_L_law_161 (by decide) (fun _ => ?_) (fun hne => absurd rfl hne)
          refine lv_iinc (v := nI (i + 4)) (lv' := [(3, .int (nI (i + 4))), (0, .ref b), (1, .ref (ad 0)), (2, .ref (ad 87))]) hx hb d_L_law_306 hl (k := 3) rfl (nI_add i 4) (by decide) rfl (fun ls hl => ?_)
          refine lv_goto (tgt := 18) hx hb d_L_law_309 (by decide) ?_
          exact ih (i + 4) F_12 (by omega) (by omega) (LI.of (hS1.keepM hg2) hm2 e1 e5 (fun z => by by_cases hz : z = k; subst hz; rw [ei]; split; exact (va_up_self _ _ _).symm; rfl; rw [eo z hz]; split; exact (va_up_ne (fun k => rs (9 + 3 * k)) _ hz).symm; rfl)) H locs ls hW (lv_sub hl [1, 2, 3, 0] rfl)
        · refine hp_goi hW (va_runV S (c_define_out l g s.heap.size 96 ad F (by omega) rs kn (opS []) fp lm me dp wh te nu en hv (xs (i + 1)) hkk) (cwV 1 hts (tb_VL cd_D_define tq_211 tq_212 tq_213 tq_27) rfl rfl rfl hd_D_define ⟨Nat.le_of_ble_eq_true rfl, Nat.le_of_ble_eq_true rfl⟩) (hp_preV hK hW (by omega) rfl hv.1 rfl) rfl rfl hl.1 rfl (lv_room (Nat.le_of_ble_eq_true rfl)) d_L_law_149 ⟨Nat.le_of_ble_eq_true rfl, Nat.le_of_ble_eq_true rfl⟩) (fun r_13 F_14 H locs hw hW => ?_)
          obtain ⟨hv1, hF1⟩ := hw
          rw [hF1] at hW
          rw [hv1]
          refine lv_aload_n hx hb d_L_law_152 rfl (lv_at hl 2 rfl) ?_
          refine lv_aload_n hx hb d_L_law_153 rfl (lv_at hl 0 rfl) ?_
          refine lv_iload_n hx hb d_L_law_154 rfl (lv_at hl 3 rfl) ?_
          refine lv_iconst (v := 1) hx hb d_L_law_155 (by decide) ?_
          refine lv_iadd hx hb d_L_law_156 ?_
          rw [show ((nI i) + 1) = (nI (i + 1)) from nI_add i 1]
          refine va_sld hx hb hX hbl hbA hW.2.2.1 (vp_in_nI (n := (i + 1)) (by omega) (by omega)) d_L_law_157 ?_
          rw [show ((nI (i + 1)) : Int32).toNatClampNeg = (i + 1) from nI_clamp (by omega)]
          refine hp_goi hW (va_runV S (m_define_out l g s.heap.size 96 ad F (by omega) (rs 1) kn (fun k => rs (9 + 3 * k)) (rs 5) mm [] ap tc fp me dp fa ou ki nu2 be hm (xs (i + 1)) hkk) (cwV 1 hts (tb_VL cd_M_define tq_214 tq_215 tq_216 tq_118) rfl rfl rfl hd_M_define ⟨Nat.le_of_ble_eq_true rfl, Nat.le_of_ble_eq_true rfl⟩) (hp_preV hK hW (by omega) rfl (hm.choose_spec.choose_spec.choose_spec.choose_spec.choose_spec.choose_spec.choose_spec.1.1) rfl) rfl rfl hl.1 rfl (lv_room (Nat.le_of_ble_eq_true rfl)) d_L_law_158 ⟨Nat.le_of_ble_eq_true rfl, Nat.le_of_ble_eq_true rfl⟩) (fun r_15 F_16 H locs hw hW => ?_)
          obtain ⟨hv2, hm2, hg2⟩ := hw
          rw [hv2]
          refine lv_icmp_eq (tgt := 306) hx hb d_L_law_161 (by decide) (fun _ => ?_) (fun hne => absurd rfl hne)
          refine lv_iinc (v := nI (i + 4)) (lv' := [(3, .int (nI (i + 4))), (0, .ref b), (1, .ref (ad 0)), (2, .ref (ad 87))]) hx hb d_L_law_306 hl (k := 3) rfl (nI_add i 4) (by decide) rfl (fun ls hl => ?_)
          refine lv_goto (tgt := 18) hx hb d_L_law_309 (by decide) ?_
          exact ih (i + 4) F_16 (by omega) (by omega) (LI.of (hv.keepM hg2) hm2 rfl rfl (fun _ => rfl)) H locs ls hW (lv_sub hl [1, 2, 3, 0] rfl)
      · refine lv_tableIn (tgt := 166) hx hb d_L_law_32 (by decide) (by decide) rfl (by decide) ?_
        refine lv_aload_n hx hb d_L_law_166 rfl (lv_at hl 1 rfl) ?_
        refine lv_aload_n hx hb d_L_law_167 rfl (lv_at hl 0 rfl) ?_
        refine lv_iload_n hx hb d_L_law_168 rfl (lv_at hl 3 rfl) ?_
        refine lv_iconst (v := 1) hx hb d_L_law_169 (by decide) ?_
        refine lv_iadd hx hb d_L_law_170 ?_
        rw [show ((nI i) + 1) = (nI (i + 1)) from nI_add i 1]
        refine va_sld hx hb hX hbl hbA hW.2.2.1 (vp_in_nI (n := (i + 1)) (by omega) (by omega)) d_L_law_171 ?_
        rw [show ((nI (i + 1)) : Int32).toNatClampNeg = (i + 1) from nI_clamp (by omega)]
        refine lv_aload_n hx hb d_L_law_172 rfl (lv_at hl 0 rfl) ?_
        refine lv_iload_n hx hb d_L_law_173 rfl (lv_at hl 3 rfl) ?_
        refine lv_iconst (v := 2) hx hb d_L_law_174 (by decide) ?_
        refine lv_iadd hx hb d_L_law_175 ?_
        rw [show ((nI i) + 2) = (nI (i + 2)) from nI_add i 2]
        refine va_sld hx hb hX hbl hbA hW.2.2.1 (vp_in_nI (n := (i + 2)) (by omega) (by omega)) d_L_law_176 ?_
        rw [show ((nI (i + 2)) : Int32).toNatClampNeg = (i + 2) from nI_clamp (by omega)]
        by_cases hno : (xs (i + 1)) < 0 ∨ 1 < (xs (i + 1)) ∨ (xs (i + 2)) < 0 ∨ 100000 < (xs (i + 2))
        · refine hp_goi hW (va_runV S (c_value_out l g s.heap.size 96 ad F (by omega) rs kn (opS []) fp lm me dp wh te nu en hv (xs (i + 1)) (xs (i + 2)) hno) (cwV 2 hts (tb_VL cd_D_value tq_217 tq_218 tq_219 tq_27) rfl rfl rfl hd_D_value ⟨Nat.le_of_ble_eq_true rfl, Nat.le_of_ble_eq_true rfl⟩) (hp_preV hK hW (by omega) rfl hv.1 rfl) rfl rfl hl.1 rfl (lv_room (Nat.le_of_ble_eq_true rfl)) d_L_law_177 ⟨Nat.le_of_ble_eq_true rfl, Nat.le_of_ble_eq_true rfl⟩) (fun r_17 F_18 H locs hw hW => ?_)
          obtain ⟨hv1, hF1⟩ := hw
          rw [hF1] at hW
          rw [hv1]
          refine lv_aload_n hx hb d_L_law_180 rfl (lv_at hl 2 rfl) ?_
          refine lv_aload_n hx hb d_L_law_181 rfl (lv_at hl 0 rfl) ?_
          refine lv_iload_n hx hb d_L_law_182 rfl (lv_at hl 3 rfl) ?_
          refine lv_iconst (v := 1) hx hb d_L_law_183 (by decide) ?_
          refine lv_iadd hx hb d_L_law_184 ?_
          rw [show ((nI i) + 1) = (nI (i + 1)) from nI_add i 1]
          refine va_sld hx hb hX hbl hbA hW.2.2.1 (vp_in_nI (n := (i + 1)) (by omega) (by omega)) d_L_law_185 ?_
          rw [show ((nI (i + 1)) : Int32).toNatClampNeg = (i + 1) from nI_clamp (by omega)]
          refine lv_aload_n hx hb d_L_law_186 rfl (lv_at hl 0 rfl) ?_
          refine lv_iload_n hx hb d_L_law_187 rfl (lv_at hl 3 rfl) ?_
          refine lv_iconst (v := 2) hx hb d_L_law_188 (by decide) ?_
          refine lv_iadd hx hb d_L_law_189 ?_
          rw [show ((nI i) + 2) = (nI (i + 2)) from nI_add i 2]
          refine va_sld hx hb hX hbl hbA hW.2.2.1 (vp_in_nI (n := (i + 2)) (by omega) (by omega)) d_L_law_190 ?_
          rw [show ((nI (i + 2)) : Int32).toNatClampNeg = (i + 2) from nI_clamp (by omega)]
          refine hp_goi hW (va_runV S (m_value_out l g s.heap.size 96 ad F (by omega) (rs 1) kn (fun k => rs (9 + 3 * k)) (rs 5) mm [] ap tc fp me dp fa ou ki nu2 be hm (xs (i + 1)) (xs (i + 2)) hno) (cwV 2 hts (tb_VL cd_M_value tq_220 tq_221 tq_222 tq_118) rfl rfl rfl hd_M_value ⟨Nat.le_of_ble_eq_true rfl, Nat.le_of_ble_eq_true rfl⟩) (hp_preV hK hW (by omega) rfl (hm.choose_spec.choose_spec.choose_spec.choose_spec.choose_spec.choose_spec.choose_spec.1.1) rfl) rfl rfl hl.1 rfl (lv_room (Nat.le_of_ble_eq_true rfl)) d_L_law_191 ⟨Nat.le_of_ble_eq_true rfl, Nat.le_of_ble_eq_true rfl⟩) (fun r_19 F_20 H locs hw hW => ?_)
          obtain ⟨hv2, hm2, hg2⟩ := hw
          rw [hv2]
          refine lv_icmp_eq (tgt := 306) hx hb d_L_law_194 (by decide) (fun _ => ?_) (fun hne => absurd rfl hne)
          refine lv_iinc (v := nI (i + 4)) (lv' := [(3, .int (nI (i + 4))), (0, .ref b), (1, .ref (ad 0)), (2, .ref (ad 87))]) hx hb d_L_law_306 hl (k := 3) rfl (nI_add i 4) (by decide) rfl (fun ls hl => ?_)
          refine lv_goto (tgt := 18) hx hb d_L_law_309 (by decide) ?_
          exact ih (i + 4) F_20 (by omega) (by omega) (LI.of (hv.keepM hg2) hm2 rfl rfl (fun _ => rfl)) H locs ls hW (lv_sub hl [1, 2, 3, 0] rfl)
        · obtain ⟨m0, hm0, em0⟩ := mo_k (fun h => hno (Or.inl h)) (fun h => hno (Or.inr (Or.inl h)))
          obtain ⟨lim, hlim, eli⟩ := li_k (fun h => hno (Or.inr (Or.inr (Or.inl h)))) (fun h => hno (Or.inr (Or.inr (Or.inr h))))
          refine W.eq (g2 := F0 m 177 ls [.int (nI lim), .int (nI m0), .ref (ad 0)]) (by rw [em0, eli]) ?_
          refine hp_goi hW (va_runV S (c_value_in l g s.heap.size 96 ad F (by omega) rs kn (opS []) fp lm me dp wh te nu en hv rfl m0 lim hm0 hlim) (cwV 2 hts (tb_VL cd_D_value tq_217 tq_218 tq_219 tq_27) rfl rfl rfl hd_D_value ⟨Nat.le_of_ble_eq_true rfl, Nat.le_of_ble_eq_true rfl⟩) (hp_preV hK hW (by omega) rfl hv.1 rfl) rfl rfl hl.1 rfl (lv_room (Nat.le_of_ble_eq_true rfl)) d_L_law_177 ⟨Nat.le_of_ble_eq_true rfl, Nat.le_of_ble_eq_true rfl⟩) (fun r_21 F_22 H locs hw hW => ?_)
          obtain ⟨hv1, ⟨rs2, wh2, te2, nu3, en2, hS1, e1, e5, eo⟩, hf1⟩ := hw
          rw [hv1]
          replace hm := hm.keep hf1
          refine lv_aload_n hx hb d_L_law_180 rfl (lv_at hl 2 rfl) ?_
          refine lv_aload_n hx hb d_L_law_181 rfl (lv_at hl 0 rfl) ?_
          refine lv_iload_n hx hb d_L_law_182 rfl (lv_at hl 3 rfl) ?_
          refine lv_iconst (v := 1) hx hb d_L_law_183 (by decide) ?_
          refine lv_iadd hx hb d_L_law_184 ?_
          rw [show ((nI i) + 1) = (nI (i + 1)) from nI_add i 1]
          refine va_sld hx hb hX hbl hbA hW.2.2.1 (vp_in_nI (n := (i + 1)) (by omega) (by omega)) d_L_law_185 ?_
          rw [show ((nI (i + 1)) : Int32).toNatClampNeg = (i + 1) from nI_clamp (by omega)]
          refine lv_aload_n hx hb d_L_law_186 rfl (lv_at hl 0 rfl) ?_
          refine lv_iload_n hx hb d_L_law_187 rfl (lv_at hl 3 rfl) ?_
          refine lv_iconst (v := 2) hx hb d_L_law_188 (by decide) ?_
          refine lv_iadd hx hb d_L_law_189 ?_
          rw [show ((nI i) + 2) = (nI (i + 2)) from nI_add i 2]
          refine va_sld hx hb hX hbl hbA hW.2.2.1 (vp_in_nI (n := (i + 2)) (by omega) (by omega)) d_L_law_190 ?_
          rw [show ((nI (i + 2)) : Int32).toNatClampNeg = (i + 2) from nI_clamp (by omega)]
          refine W.eq (g2 := F0 m 191 ls [.int (nI lim), .int (nI m0), .ref (ad 87), .int (if (md_rv (txS kn rs) lim 27 [] 0 (rs 1) ([], 0, 0)).2.1 = 0 then nI (if m0 = 1 then md_sq (md_rv (txS kn rs) lim 27 [] 0 (rs 1) ([], 0, 0)).1.1 else (md_rv (txS kn rs) lim 27 [] 0 (rs 1) ([], 0, 0)).1.1).length else -nI (md_rv (txS kn rs) lim 27 [] 0 (rs 1) ([], 0, 0)).2.1)]) (by rw [em0, eli]) ?_
          refine hp_goi hW (va_runV S (m_value_in l g s.heap.size 96 ad F_22 (by omega) (rs 1) kn (fun k => rs (9 + 3 * k)) (rs 5) mm [] ap tc fp me dp fa ou ki nu2 be hm m0 lim hm0 hlim) (cwV 2 hts (tb_VL cd_M_value tq_220 tq_221 tq_222 tq_118) rfl rfl rfl hd_M_value ⟨Nat.le_of_ble_eq_true rfl, Nat.le_of_ble_eq_true rfl⟩) (hp_preV hK hW (by omega) rfl (hm.choose_spec.choose_spec.choose_spec.choose_spec.choose_spec.choose_spec.choose_spec.1.1) rfl) rfl rfl hl.1 rfl (lv_room (Nat.le_of_ble_eq_true rfl)) d_L_law_191 ⟨Nat.le_of_ble_eq_true rfl, Nat.le_of_ble_eq_true rfl⟩) (fun r_23 F_24 H locs hw hW => ?_)
          obtain ⟨hv2, ⟨ap2, fa2, ou2, ki2, nu4, be2, hm2⟩, hg2⟩ := hw
          rw [show txR kn (fun k => rs (9 + 3 * k)) = txS kn rs from rfl] at hv2 hm2
          rw [hv2]
          refine lv_icmp_eq (tgt := 306) hx hb d_L_law_194 (by decide) (fun _ => ?_) (fun hne => absurd rfl hne)
          refine lv_iinc (v := nI (i + 4)) (lv' := [(3, .int (nI (i + 4))), (0, .ref b), (1, .ref (ad 0)), (2, .ref (ad 87))]) hx hb d_L_law_306 hl (k := 3) rfl (nI_add i 4) (by decide) rfl (fun ls hl => ?_)
          refine lv_goto (tgt := 18) hx hb d_L_law_309 (by decide) ?_
          exact ih (i + 4) F_24 (by omega) (by omega) (LI.of (hS1.keepM hg2) hm2 e1 e5 eo) H locs ls hW (lv_sub hl [1, 2, 3, 0] rfl)
      · refine lv_tableIn (tgt := 199) hx hb d_L_law_32 (by decide) (by decide) rfl (by decide) ?_
        refine lv_aload_n hx hb d_L_law_199 rfl (lv_at hl 1 rfl) ?_
        refine hp_goi hW (va_runV S (c_place l g s.heap.size 96 ad F (by omega) rs kn (opS []) fp lm me dp wh te nu en hv) (cwV 0 hts (tb_VL cd_D_place tq_223 tq_224 tq_225 tq_27) rfl rfl rfl hd_D_place ⟨Nat.le_of_ble_eq_true rfl, Nat.le_of_ble_eq_true rfl⟩) (hp_preV hK hW (by omega) rfl hv.1 rfl) rfl rfl hl.1 rfl (lv_room (Nat.le_of_ble_eq_true rfl)) d_L_law_200 ⟨Nat.le_of_ble_eq_true rfl, Nat.le_of_ble_eq_true rfl⟩) (fun r_25 F_26 H locs hw hW => ?_)
        obtain ⟨hv1, hF1⟩ := hw
        rw [hF1] at hW
        rw [hv1]
        refine lv_aload_n hx hb d_L_law_203 rfl (lv_at hl 2 rfl) ?_
        refine hp_goi hW (va_runV S (m_place l g s.heap.size 96 ad F (by omega) (rs 1) kn (fun k => rs (9 + 3 * k)) (rs 5) mm [] ap tc fp me dp fa ou ki nu2 be hm) (cwV 0 hts (tb_VL cd_M_place tq_226 tq_227 tq_228 tq_118) rfl rfl rfl hd_M_place ⟨Nat.le_of_ble_eq_true rfl, Nat.le_of_ble_eq_true rfl⟩) (hp_preV hK hW (by omega) rfl (hm.choose_spec.choose_spec.choose_spec.choose_spec.choose_spec.choose_spec.choose_spec.1.1) rfl) rfl rfl hl.1 rfl (lv_room (Nat.le_of_ble_eq_true rfl)) d_L_law_204 ⟨Nat.le_of_ble_eq_true rfl, Nat.le_of_ble_eq_true rfl⟩) (fun r_27 F_28 H locs hw hW => ?_)
        obtain ⟨hv2, hm2, hg2⟩ := hw
        rw [hv2]
        refine lv_icmp_eq (tgt := 306) hx hb d_L_law_207 (by decide) (fun _ => ?_) (fun hne => absurd rfl hne)
        refine lv_iinc (v := nI (i + 4)) (lv' := [(3, .int (nI (i + 4))), (0, .ref b), (1, .ref (ad 0)), (2, .ref (ad 87))]) hx hb d_L_law_306 hl (k := 3) rfl (nI_add i 4) (by decide) rfl (fun ls hl => ?_)
        refine lv_goto (tgt := 18) hx hb d_L_law_309 (by decide) ?_
        exact ih (i + 4) F_28 (by omega) (by omega) (LI.of (hv.keepM hg2) hm2 rfl rfl (fun _ => rfl)) H locs ls hW (lv_sub hl [1, 2, 3, 0] rfl)
      · refine lv_tableIn (tgt := 212) hx hb d_L_law_32 (by decide) (by decide) rfl (by decide) ?_
        refine lv_aload_n hx hb d_L_law_212 rfl (lv_at hl 1 rfl) ?_
        refine lv_aload_n hx hb d_L_law_213 rfl (lv_at hl 0 rfl) ?_
        refine lv_iload_n hx hb d_L_law_214 rfl (lv_at hl 3 rfl) ?_
        refine lv_iconst (v := 1) hx hb d_L_law_215 (by decide) ?_
        refine lv_iadd hx hb d_L_law_216 ?_
        rw [show ((nI i) + 1) = (nI (i + 1)) from nI_add i 1]
        refine va_sld hx hb hX hbl hbA hW.2.2.1 (vp_in_nI (n := (i + 1)) (by omega) (by omega)) d_L_law_217 ?_
        rw [show ((nI (i + 1)) : Int32).toNatClampNeg = (i + 1) from nI_clamp (by omega)]
        refine hp_gol hW (va_runV S (c_characters l g s.heap.size 96 ad F (by omega) rs kn (opS []) fp lm me dp wh te nu en hv (xs (i + 1))) (cwV 1 hts (tb_VL cd_D_characters tq_229 tq_230 tq_231 tq_27) rfl rfl rfl hd_D_characters ⟨Nat.le_of_ble_eq_true rfl, Nat.le_of_ble_eq_true rfl⟩) (hp_preV hK hW (by omega) rfl hv.1 rfl) rfl rfl hl.1 rfl (lv_room (Nat.le_of_ble_eq_true rfl)) d_L_law_218 ⟨Nat.le_of_ble_eq_true rfl, Nat.le_of_ble_eq_true rfl⟩) (fun r_29 F_30 H locs hw hW => ?_)
        obtain ⟨hv1, hF1⟩ := hw
        rw [hF1] at hW
        rw [hv1]
        refine lv_aload_n hx hb d_L_law_221 rfl (lv_at hl 2 rfl) ?_
        refine lv_aload_n hx hb d_L_law_222 rfl (lv_at hl 0 rfl) ?_
        refine lv_iload_n hx hb d_L_law_223 rfl (lv_at hl 3 rfl) ?_
        refine lv_iconst (v := 1) hx hb d_L_law_224 (by decide) ?_
        refine lv_iadd hx hb d_L_law_225 ?_
        rw [show ((nI i) + 1) = (nI (i + 1)) from nI_add i 1]
        refine va_sld hx hb hX hbl hbA hW.2.2.1 (vp_in_nI (n := (i + 1)) (by omega) (by omega)) d_L_law_226 ?_
        rw [show ((nI (i + 1)) : Int32).toNatClampNeg = (i + 1) from nI_clamp (by omega)]
        refine hp_gol hW (va_runV S (m_characters l g s.heap.size 96 ad F (by omega) (rs 1) kn (fun k => rs (9 + 3 * k)) (rs 5) mm [] ap tc fp me dp fa ou ki nu2 be hm (xs (i + 1))) (cwV 1 hts (tb_VL cd_M_characters tq_232 tq_233 tq_234 tq_118) rfl rfl rfl hd_M_characters ⟨Nat.le_of_ble_eq_true rfl, Nat.le_of_ble_eq_true rfl⟩) (hp_preV hK hW (by omega) rfl (hm.choose_spec.choose_spec.choose_spec.choose_spec.choose_spec.choose_spec.choose_spec.1.1) rfl) rfl rfl hl.1 rfl (lv_room (Nat.le_of_ble_eq_true rfl)) d_L_law_227 ⟨Nat.le_of_ble_eq_true rfl, Nat.le_of_ble_eq_true rfl⟩) (fun r_31 F_32 H locs hw hW => ?_)
        obtain ⟨hv2, hm2, hg2⟩ := hw
        rw [hv2]
        refine W.lcmp hx hb d_L_law_230 ?_
        rw [show lg_cmp (md_word (rs 5) (xs (i + 1))) (md_word (rs 5) (xs (i + 1))) = 0 from lcmp0 _]
        refine lv_if_eq (tgt := 306) hx hb d_L_law_231 (by decide) (fun c_231 => ?_) (fun c_231 => absurd (show (0 : Int32) = 0 from by decide) c_231)
        refine lv_iinc (v := nI (i + 4)) (lv' := [(3, .int (nI (i + 4))), (0, .ref b), (1, .ref (ad 0)), (2, .ref (ad 87))]) hx hb d_L_law_306 hl (k := 3) rfl (nI_add i 4) (by decide) rfl (fun ls hl => ?_)
        refine lv_goto (tgt := 18) hx hb d_L_law_309 (by decide) ?_
        exact ih (i + 4) F_32 (by omega) (by omega) (LI.of (hv.keepM hg2) hm2 rfl rfl (fun _ => rfl)) H locs ls hW (lv_sub hl [1, 2, 3, 0] rfl)
      · refine lv_tableIn (tgt := 236) hx hb d_L_law_32 (by decide) (by decide) rfl (by decide) ?_
        refine lv_aload_n hx hb d_L_law_236 rfl (lv_at hl 1 rfl) ?_
        refine lv_aload_n hx hb d_L_law_237 rfl (lv_at hl 0 rfl) ?_
        refine lv_iload_n hx hb d_L_law_238 rfl (lv_at hl 3 rfl) ?_
        refine lv_iconst (v := 1) hx hb d_L_law_239 (by decide) ?_
        refine lv_iadd hx hb d_L_law_240 ?_
        rw [show ((nI i) + 1) = (nI (i + 1)) from nI_add i 1]
        refine va_sld hx hb hX hbl hbA hW.2.2.1 (vp_in_nI (n := (i + 1)) (by omega) (by omega)) d_L_law_241 ?_
        rw [show ((nI (i + 1)) : Int32).toNatClampNeg = (i + 1) from nI_clamp (by omega)]
        refine lv_aload_n hx hb d_L_law_242 rfl (lv_at hl 0 rfl) ?_
        refine lv_iload_n hx hb d_L_law_243 rfl (lv_at hl 3 rfl) ?_
        refine lv_iconst (v := 2) hx hb d_L_law_244 (by decide) ?_
        refine lv_iadd hx hb d_L_law_245 ?_
        rw [show ((nI i) + 2) = (nI (i + 2)) from nI_add i 2]
        refine va_sld hx hb hX hbl hbA hW.2.2.1 (vp_in_nI (n := (i + 2)) (by omega) (by omega)) d_L_law_246 ?_
        rw [show ((nI (i + 2)) : Int32).toNatClampNeg = (i + 2) from nI_clamp (by omega)]
        by_cases hkk : 0 ≤ (xs (i + 1)) ∧ (xs (i + 1)) < 26
        · obtain ⟨k, hk, ek⟩ := ent_k (Int32.not_lt.mpr hkk.1) hkk.2
          refine W.eq (g2 := F0 m 247 ls [.int ((xs (i + 2))), .int (nI k), .ref (ad 0)]) (by rw [ek]) ?_
          refine hp_gol hW (va_runV S (c_text_in l g s.heap.size 96 ad F (by omega) rs kn (opS []) fp lm me dp wh te nu en hv k hk (xs (i + 2))) (cwV 2 hts (tb_VL cd_D_text tq_235 tq_236 tq_237 tq_27) rfl rfl rfl hd_D_text ⟨Nat.le_of_ble_eq_true rfl, Nat.le_of_ble_eq_true rfl⟩) (hp_preV hK hW (by omega) rfl hv.1 rfl) rfl rfl hl.1 rfl (lv_room (Nat.le_of_ble_eq_true rfl)) d_L_law_247 ⟨Nat.le_of_ble_eq_true rfl, Nat.le_of_ble_eq_true rfl⟩) (fun r_33 F_34 H locs hw hW => ?_)
          obtain ⟨hv1, hF1⟩ := hw
          rw [hF1] at hW
          rw [hv1]
          refine lv_aload_n hx hb d_L_law_250 rfl (lv_at hl 2 rfl) ?_
          refine lv_aload_n hx hb d_L_law_251 rfl (lv_at hl 0 rfl) ?_
          refine lv_iload_n hx hb d_L_law_252 rfl (lv_at hl 3 rfl) ?_
          refine lv_iconst (v := 1) hx hb d_L_law_253 (by decide) ?_
          refine lv_iadd hx hb d_L_law_254 ?_
          rw [show ((nI i) + 1) = (nI (i + 1)) from nI_add i 1]
          refine va_sld hx hb hX hbl hbA hW.2.2.1 (vp_in_nI (n := (i + 1)) (by omega) (by omega)) d_L_law_255 ?_
          rw [show ((nI (i + 1)) : Int32).toNatClampNeg = (i + 1) from nI_clamp (by omega)]
          refine lv_aload_n hx hb d_L_law_256 rfl (lv_at hl 0 rfl) ?_
          refine lv_iload_n hx hb d_L_law_257 rfl (lv_at hl 3 rfl) ?_
          refine lv_iconst (v := 2) hx hb d_L_law_258 (by decide) ?_
          refine lv_iadd hx hb d_L_law_259 ?_
          rw [show ((nI i) + 2) = (nI (i + 2)) from nI_add i 2]
          refine va_sld hx hb hX hbl hbA hW.2.2.1 (vp_in_nI (n := (i + 2)) (by omega) (by omega)) d_L_law_260 ?_
          rw [show ((nI (i + 2)) : Int32).toNatClampNeg = (i + 2) from nI_clamp (by omega)]
          refine W.eq (g2 := F0 m 261 ls [.int ((xs (i + 2))), .int (nI k), .ref (ad 87), .long (if kn k = true then md_word (rs (9 + 3 * k)) (xs (i + 2)) else -1)]) (by rw [ek]) ?_
          refine hp_gol hW (va_runV S (m_text_in l g s.heap.size 96 ad F (by omega) (rs 1) kn (fun k => rs (9 + 3 * k)) (rs 5) mm [] ap tc fp me dp fa ou ki nu2 be hm k hk (xs (i + 2))) (cwV 2 hts (tb_VL cd_M_text tq_238 tq_239 tq_240 tq_118) rfl rfl rfl hd_M_text ⟨Nat.le_of_ble_eq_true rfl, Nat.le_of_ble_eq_true rfl⟩) (hp_preV hK hW (by omega) rfl (hm.choose_spec.choose_spec.choose_spec.choose_spec.choose_spec.choose_spec.choose_spec.1.1) rfl) rfl rfl hl.1 rfl (lv_room (Nat.le_of_ble_eq_true rfl)) d_L_law_261 ⟨Nat.le_of_ble_eq_true rfl, Nat.le_of_ble_eq_true rfl⟩) (fun r_35 F_36 H locs hw hW => ?_)
          obtain ⟨hv2, hm2, hg2⟩ := hw
          rw [hv2]
          refine W.lcmp hx hb d_L_law_264 ?_
          rw [show lg_cmp (if kn k = true then md_word (rs (9 + 3 * k)) (xs (i + 2)) else -1) (if kn k = true then md_word (rs (9 + 3 * k)) (xs (i + 2)) else -1) = 0 from lcmp0 _]
          refine lv_if_eq (tgt := 306) hx hb d_L_law_265 (by decide) (fun c_265 => ?_) (fun c_265 => absurd (show (0 : Int32) = 0 from by decide) c_265)
          refine lv_iinc (v := nI (i + 4)) (lv' := [(3, .int (nI (i + 4))), (0, .ref b), (1, .ref (ad 0)), (2, .ref (ad 87))]) hx hb d_L_law_306 hl (k := 3) rfl (nI_add i 4) (by decide) rfl (fun ls hl => ?_)
          refine lv_goto (tgt := 18) hx hb d_L_law_309 (by decide) ?_
          exact ih (i + 4) F_36 (by omega) (by omega) (LI.of (hv.keepM hg2) hm2 rfl rfl (fun _ => rfl)) H locs ls hW (lv_sub hl [1, 2, 3, 0] rfl)
        · refine hp_gol hW (va_runV S (c_text_out l g s.heap.size 96 ad F (by omega) rs kn (opS []) fp lm me dp wh te nu en hv (xs (i + 1)) (xs (i + 2)) hkk) (cwV 2 hts (tb_VL cd_D_text tq_235 tq_236 tq_237 tq_27) rfl rfl rfl hd_D_text ⟨Nat.le_of_ble_eq_true rfl, Nat.le_of_ble_eq_true rfl⟩) (hp_preV hK hW (by omega) rfl hv.1 rfl) rfl rfl hl.1 rfl (lv_room (Nat.le_of_ble_eq_true rfl)) d_L_law_247 ⟨Nat.le_of_ble_eq_true rfl, Nat.le_of_ble_eq_true rfl⟩) (fun r_37 F_38 H locs hw hW => ?_)
          obtain ⟨hv1, hF1⟩ := hw
          rw [hF1] at hW
          rw [hv1]
          refine lv_aload_n hx hb d_L_law_250 rfl (lv_at hl 2 rfl) ?_
          refine lv_aload_n hx hb d_L_law_251 rfl (lv_at hl 0 rfl) ?_
          refine lv_iload_n hx hb d_L_law_252 rfl (lv_at hl 3 rfl) ?_
          refine lv_iconst (v := 1) hx hb d_L_law_253 (by decide) ?_
          refine lv_iadd hx hb d_L_law_254 ?_
          rw [show ((nI i) + 1) = (nI (i + 1)) from nI_add i 1]
          refine va_sld hx hb hX hbl hbA hW.2.2.1 (vp_in_nI (n := (i + 1)) (by omega) (by omega)) d_L_law_255 ?_
          rw [show ((nI (i + 1)) : Int32).toNatClampNeg = (i + 1) from nI_clamp (by omega)]
          refine lv_aload_n hx hb d_L_law_256 rfl (lv_at hl 0 rfl) ?_
          refine lv_iload_n hx hb d_L_law_257 rfl (lv_at hl 3 rfl) ?_
          refine lv_iconst (v := 2) hx hb d_L_law_258 (by decide) ?_
          refine lv_iadd hx hb d_L_law_259 ?_
          rw [show ((nI i) + 2) = (nI (i + 2)) from nI_add i 2]
          refine va_sld hx hb hX hbl hbA hW.2.2.1 (vp_in_nI (n := (i + 2)) (by omega) (by omega)) d_L_law_260 ?_
          rw [show ((nI (i + 2)) : Int32).toNatClampNeg = (i + 2) from nI_clamp (by omega)]
          refine hp_gol hW (va_runV S (m_text_out l g s.heap.size 96 ad F (by omega) (rs 1) kn (fun k => rs (9 + 3 * k)) (rs 5) mm [] ap tc fp me dp fa ou ki nu2 be hm (xs (i + 1)) (xs (i + 2)) hkk) (cwV 2 hts (tb_VL cd_M_text tq_238 tq_239 tq_240 tq_118) rfl rfl rfl hd_M_text ⟨Nat.le_of_ble_eq_true rfl, Nat.le_of_ble_eq_true rfl⟩) (hp_preV hK hW (by omega) rfl (hm.choose_spec.choose_spec.choose_spec.choose_spec.choose_spec.choose_spec.choose_spec.1.1) rfl) rfl rfl hl.1 rfl (lv_room (Nat.le_of_ble_eq_true rfl)) d_L_law_261 ⟨Nat.le_of_ble_eq_true rfl, Nat.le_of_ble_eq_true rfl⟩) (fun r_39 F_40 H locs hw hW => ?_)
          obtain ⟨hv2, hm2, hg2⟩ := hw
          rw [hv2]
          refine W.lcmp hx hb d_L_law_264 ?_
          rw [show lg_cmp (-1) (-1) = 0 from lcmp0 _]
          refine lv_if_eq (tgt := 306) hx hb d_L_law_265 (by decide) (fun c_265 => ?_) (fun c_265 => absurd (show (0 : Int32) = 0 from by decide) c_265)
          refine lv_iinc (v := nI (i + 4)) (lv' := [(3, .int (nI (i + 4))), (0, .ref b), (1, .ref (ad 0)), (2, .ref (ad 87))]) hx hb d_L_law_306 hl (k := 3) rfl (nI_add i 4) (by decide) rfl (fun ls hl => ?_)
          refine lv_goto (tgt := 18) hx hb d_L_law_309 (by decide) ?_
          exact ih (i + 4) F_40 (by omega) (by omega) (LI.of (hv.keepM hg2) hm2 rfl rfl (fun _ => rfl)) H locs ls hW (lv_sub hl [1, 2, 3, 0] rfl)
      · refine lv_tableIn (tgt := 270) hx hb d_L_law_32 (by decide) (by decide) rfl (by decide) ?_
        refine lv_aload_n hx hb d_L_law_270 rfl (lv_at hl 1 rfl) ?_
        refine hp_goi hW (va_runV S (c_clear l g s.heap.size 96 ad F (by omega) rs kn (opS []) fp lm me dp wh te nu en hv) (cwV 0 hts (tb_VL cd_D_clear tq_241 tq_242 tq_243 tq_27) rfl rfl rfl hd_D_clear ⟨Nat.le_of_ble_eq_true rfl, Nat.le_of_ble_eq_true rfl⟩) (hp_preV hK hW (by omega) rfl hv.1 rfl) rfl rfl hl.1 rfl (lv_room (Nat.le_of_ble_eq_true rfl)) d_L_law_271 ⟨Nat.le_of_ble_eq_true rfl, Nat.le_of_ble_eq_true rfl⟩) (fun r_41 F_42 H locs hw hW => ?_)
        obtain ⟨hv1, hS1, hf1⟩ := hw
        rw [hv1]
        replace hm := hm.keep hf1
        refine lv_aload_n hx hb d_L_law_274 rfl (lv_at hl 2 rfl) ?_
        refine hp_goi hW (va_runV S (m_clear l g s.heap.size 96 ad F_42 (by omega) (rs 1) kn (fun k => rs (9 + 3 * k)) (rs 5) mm ap tc fp me dp fa ou ki nu2 be hm) (cwV 0 hts (tb_VL cd_M_clear tq_244 tq_245 tq_246 tq_118) rfl rfl rfl hd_M_clear ⟨Nat.le_of_ble_eq_true rfl, Nat.le_of_ble_eq_true rfl⟩) (hp_preV hK hW (by omega) rfl (hm.choose_spec.choose_spec.choose_spec.choose_spec.choose_spec.choose_spec.choose_spec.1.1) rfl) rfl rfl hl.1 rfl (lv_room (Nat.le_of_ble_eq_true rfl)) d_L_law_275 ⟨Nat.le_of_ble_eq_true rfl, Nat.le_of_ble_eq_true rfl⟩) (fun r_43 F_44 H locs hw hW => ?_)
        obtain ⟨hv2, hm2, hg2⟩ := hw
        rw [hv2]
        refine lv_icmp_eq (tgt := 306) hx hb d_L_law_278 (by decide) (fun _ => ?_) (fun hne => absurd rfl hne)
        refine lv_iinc (v := nI (i + 4)) (lv' := [(3, .int (nI (i + 4))), (0, .ref b), (1, .ref (ad 0)), (2, .ref (ad 87))]) hx hb d_L_law_306 hl (k := 3) rfl (nI_add i 4) (by decide) rfl (fun ls hl => ?_)
        refine lv_goto (tgt := 18) hx hb d_L_law_309 (by decide) ?_
        exact ih (i + 4) F_44 (by omega) (by omega) (LI.of (hS1.keepM hg2) hm2 rfl rfl (fun _ => rfl)) H locs ls hW (lv_sub hl [1, 2, 3, 0] rfl)
      · refine lv_tableIn (tgt := 283) hx hb d_L_law_32 (by decide) (by decide) rfl (by decide) ?_
        refine lv_aload_n hx hb d_L_law_283 rfl (lv_at hl 1 rfl) ?_
        refine lv_aload_n hx hb d_L_law_284 rfl (lv_at hl 0 rfl) ?_
        refine lv_iload_n hx hb d_L_law_285 rfl (lv_at hl 3 rfl) ?_
        refine lv_iconst (v := 1) hx hb d_L_law_286 (by decide) ?_
        refine lv_iadd hx hb d_L_law_287 ?_
        rw [show ((nI i) + 1) = (nI (i + 1)) from nI_add i 1]
        refine va_sld hx hb hX hbl hbA hW.2.2.1 (vp_in_nI (n := (i + 1)) (by omega) (by omega)) d_L_law_288 ?_
        rw [show ((nI (i + 1)) : Int32).toNatClampNeg = (i + 1) from nI_clamp (by omega)]
        refine hp_goi hW (va_runV S (c_count l g s.heap.size 96 ad F (by omega) rs kn (opS []) fp lm me dp wh te nu en hv (xs (i + 1))) (cwV 1 hts (tb_VL cd_D_count tq_247 tq_248 tq_249 tq_27) rfl rfl rfl hd_D_count ⟨Nat.le_of_ble_eq_true rfl, Nat.le_of_ble_eq_true rfl⟩) (hp_preV hK hW (by omega) rfl hv.1 rfl) rfl rfl hl.1 rfl (lv_room (Nat.le_of_ble_eq_true rfl)) d_L_law_289 ⟨Nat.le_of_ble_eq_true rfl, Nat.le_of_ble_eq_true rfl⟩) (fun r_45 F_46 H locs hw hW => ?_)
        obtain ⟨hv1, hF1⟩ := hw
        rw [hF1] at hW
        rw [hv1]
        refine lv_aload_n hx hb d_L_law_292 rfl (lv_at hl 2 rfl) ?_
        refine lv_aload_n hx hb d_L_law_293 rfl (lv_at hl 0 rfl) ?_
        refine lv_iload_n hx hb d_L_law_294 rfl (lv_at hl 3 rfl) ?_
        refine lv_iconst (v := 1) hx hb d_L_law_295 (by decide) ?_
        refine lv_iadd hx hb d_L_law_296 ?_
        rw [show ((nI i) + 1) = (nI (i + 1)) from nI_add i 1]
        refine va_sld hx hb hX hbl hbA hW.2.2.1 (vp_in_nI (n := (i + 1)) (by omega) (by omega)) d_L_law_297 ?_
        rw [show ((nI (i + 1)) : Int32).toNatClampNeg = (i + 1) from nI_clamp (by omega)]
        refine hp_goi hW (va_runV S (m_count l g s.heap.size 96 ad F (by omega) (rs 1) kn (fun k => rs (9 + 3 * k)) (rs 5) mm [] ap tc fp me dp fa ou ki nu2 be hm (xs (i + 1))) (cwV 1 hts (tb_VL cd_M_count tq_250 tq_251 tq_252 tq_118) rfl rfl rfl hd_M_count ⟨Nat.le_of_ble_eq_true rfl, Nat.le_of_ble_eq_true rfl⟩) (hp_preV hK hW (by omega) rfl (hm.choose_spec.choose_spec.choose_spec.choose_spec.choose_spec.choose_spec.choose_spec.1.1) rfl) rfl rfl hl.1 rfl (lv_room (Nat.le_of_ble_eq_true rfl)) d_L_law_298 ⟨Nat.le_of_ble_eq_true rfl, Nat.le_of_ble_eq_true rfl⟩) (fun r_47 F_48 H locs hw hW => ?_)
        obtain ⟨hv2, hm2, hg2⟩ := hw
        rw [hv2]
        refine lv_icmp_eq (tgt := 306) hx hb d_L_law_301 (by decide) (fun _ => ?_) (fun hne => absurd rfl hne)
        refine lv_iinc (v := nI (i + 4)) (lv' := [(3, .int (nI (i + 4))), (0, .ref b), (1, .ref (ad 0)), (2, .ref (ad 87))]) hx hb d_L_law_306 hl (k := 3) rfl (nI_add i 4) (by decide) rfl (fun ls hl => ?_)
        refine lv_goto (tgt := 18) hx hb d_L_law_309 (by decide) ?_
        exact ih (i + 4) F_48 (by omega) (by omega) (LI.of (hv.keepM hg2) hm2 rfl rfl (fun _ => rfl)) H locs ls hW (lv_sub hl [1, 2, 3, 0] rfl)
