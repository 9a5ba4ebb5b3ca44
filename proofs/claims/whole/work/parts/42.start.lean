/-! THE LAW, from its entry -/
set_option maxHeartbeats 400000 in
set_option maxRecDepth 100000 in
theorem whole_start {p : Program} {e : Env} {s : State} {m : MethodId} {below : List Frame} {meth : Method} {c : Code} (l : Launch) {b L : Nat} {xs : Nat → Int32} (hL : L ≤ 2048) (C0 : lw_At p s m meth c b L xs) : W p l e room_1 s m #[Value.ref b] below meth c s.heap [] 0 0 (lw_Z below #[Value.ref b] s) (entryFrame m ([Value.ref b] : List Value).toArray 4) := by
  obtain ⟨hx, hb, hr, hml, hown, hts, hX, hbl, hlocks, hgv⟩ := id C0
  have hown : s.vm.findClass R_L = some m.cls := hown
  have S : CallFix p m c code 4 s #[Value.ref b] lw_tbl R_L := ⟨hx, hb, hml, hown, hts⟩
  have hbA : ¬ hp_A s.heap.size b := fun h => absurd hbl (Nat.not_lt.mpr h)
  have in_kE : ∀ w ∈ u_ws R_E T_E 3, w ∈ lw_tbl := fun w h => tb_lw (in0_E w h)
  obtain ⟨c0, i0, k0⟩ := u_known (C := R_E) (T := T_E) (N := 3) (n := 3) hts in_kE (hts _ (tb_lw tq_11))
  have in_kF : ∀ w ∈ u_ws R_F T_F 4, w ∈ lw_tbl := fun w h => tb_lw (in0_F w h)
  obtain ⟨c1, i1, k1⟩ := u_known (C := R_F) (T := T_F) (N := 4) (n := 4) hts in_kF (hts _ (tb_lw tq_15))
  have in_kR : ∀ w ∈ u_ws R_R T_R 2, w ∈ lw_tbl := fun w h => tb_lw (in0_R w h)
  obtain ⟨c2, i2, k2⟩ := u_known (C := R_R) (T := T_R) (N := 2) (n := 2) hts in_kR (hts _ (tb_lw tq_2))
  have in_kD : ∀ w ∈ u_ws R_D T_D 9, w ∈ lw_tbl := fun w h => tb_lw (in0_D w h)
  obtain ⟨c3, i3, k3⟩ := u_known (C := R_D) (T := T_D) (N := 9) (n := 9) hts in_kD (hts _ (tb_lw tq_197))
  have in_kM : ∀ w ∈ u_ws R_M T_M 21, w ∈ lw_tbl := fun w h => tb_lw (in0_M w h)
  obtain ⟨c4, i4, k4⟩ := u_known (C := R_M) (T := T_M) (N := 21) (n := 21) hts in_kM (hts _ (tb_lw tq_201))
  obtain ⟨cI, kI, pI, a1, a2, a3⟩ := Cond.arrayClass_spec (hts (.arrayClass .int) (tb_lw tq_ai))
  obtain ⟨cZ, kZ, pZ, z1, z2, z3⟩ := Cond.arrayClass_spec (hts (.arrayClass .boolean) (tb_lw tq_az))
  have hAO : (Cond.arrayOver (.object "ValueDesk$Entity")).before #[Value.ref b] s = true := (hts _ (List.mem_append_right _ (List.mem_of_getElem? (i := 33) (by decide +kernel))))
  obtain ⟨pE, cE, kEc, e1, e2, e3, e4, e5⟩ := Cond.arrayOver_spec hAO
  obtain ⟨g, hg⟩ : ∃ g : hp_G, g = ((fun k => if k = 0 then c0 else if k = 1 then c1 else if k = 2 then c2 else if k = 3 then c3 else c4, fun k => if k = 0 then i0 else if k = 1 then i1 else if k = 2 then i2 else if k = 3 then i3 else i4), fun k => if k = 0 then cI else if k = 1 then cE else cZ) := ⟨_, rfl⟩
  have hK : hp_K g s := by
    subst hg
    refine ⟨⟨fun k q hq => ?_, fun k q hq => ?_⟩, ⟨fun q hq => ?_, fun q hq => ?_, va_AO.of hAO⟩⟩
    · match k, hq with
      | 0, hq => cases hq; exact k0
      | 1, hq => cases hq; exact k1
      | 2, hq => cases hq; exact k2
      | 3, hq => cases hq; exact k3
      | 4, hq => cases hq; exact k4
      | k + 5, hq => simp [vwCl] at hq
    · match k, hq with
      | 0, hq => cases hq; exact ⟨fun n z => ⟨fun k h => (by cases h), kI, a2, pI, a3⟩, a1⟩
      | 1, hq => cases hq; exact ⟨fun n z => ⟨fun k h => (by cases h), kEc, e3, pE, e4⟩, kEc, pE, e3, e4, e1, e5⟩
      | 2, hq => cases hq; exact ⟨fun n z => ⟨fun k h => (by cases h), kZ, z2, pZ, z3⟩, z1⟩
      | k + 3, hq => simp [hp_t] at hq
    · simp only [hp_fl, List.mem_cons, List.not_mem_nil, or_false] at hq
      rcases hq with rfl | rfl | rfl | rfl | rfl | rfl | rfl
      · exact va_Nw.of rfl (hts _ (List.mem_append_right _ (List.mem_of_getElem? (i := 42) (by decide +kernel))))
      · exact va_Nw.of rfl (hts _ (List.mem_append_right _ (List.mem_of_getElem? (i := 44) (by decide +kernel))))
      · exact va_Nw.of rfl (hts _ (List.mem_append_right _ (List.mem_of_getElem? (i := 45) (by decide +kernel))))
      · exact va_Nw.of rfl (hts _ (List.mem_append_right _ (List.mem_of_getElem? (i := 60) (by decide +kernel))))
      · exact va_Nw.of rfl (hts _ (List.mem_append_right _ (List.mem_of_getElem? (i := 62) (by decide +kernel))))
      · exact va_Nw.of rfl (hts _ (List.mem_append_right _ (List.mem_of_getElem? (i := 64) (by decide +kernel))))
      · exact va_Nw.of rfl (hts _ (List.mem_append_right _ (List.mem_of_getElem? (i := 66) (by decide +kernel))))
    · simp only [hp_ml, List.mem_cons, List.not_mem_nil, or_false] at hq
      rcases hq with rfl | rfl
      · exact va_Nw.of rfl (hts _ (List.mem_append_right _ (List.mem_of_getElem? (i := 35) (by decide +kernel))))
      · exact va_Nw.of rfl (hts _ (List.mem_append_right _ (List.mem_of_getElem? (i := 55) (by decide +kernel))))
  obtain ⟨z0, hz0⟩ : ∃ z, z = s.heap.size := ⟨_, rfl⟩
  obtain ⟨Fa, hFa⟩ : ∃ f : Nat → va_E, f = fun _ => .inr (0, []) := ⟨_, rfl⟩
  have hV : hp_V g z0 0 Fa s.heap s.heap [] := ⟨⟨fun k q h => by simp [hp_ws] at h, ⟨fun i j p q h => by simp [hp_ws] at h, fun k q h => by simp [hp_ws] at h⟩, va_S.rf, Nat.le_of_eq hz0⟩, hz0.symm⟩
  have hl := lv_entry ([.ref b]) (n := 4) (Nat.le_of_ble_eq_true rfl)
  rw [lg_entry_eq]
  generalize (lg_sl ([.ref b]) ++ List.replicate (4 - (lg_sl ([.ref b])).length) Slot.unset).toArray = ls at hl ⊢
  have hl : lv_has ls 4 [(0, .ref b)] := hl
  refine hp_new (ci := kD) (fs := [.null, .null, .null, .null, .null, .int 0, .int 0, .int 0, .int 0]) S hK hV rfl in_kD tyok_D (hts _ (tb_lw tq_196)) (hts _ (tb_lw tq_197)) (hts _ (tb_lw tq_27)) (fun j hj => by rcases (show j = 0 ∨ j = 1 ∨ j = 2 ∨ j = 3 ∨ j = 4 ∨ j = 5 ∨ j = 6 ∨ j = 7 ∨ j = 8 by omega) with rfl | rfl | rfl | rfl | rfl | rfl | rfl | rfl | rfl <;> rfl) (by first | (simp only [rc]; omega) | exact Nat.le_of_ble_eq_true rfl) (by first | (simp only [rc]; omega) | exact Nat.le_of_ble_eq_true rfl) d_L_law_0 (fun H hV => ?_)
  obtain ⟨F_1, eF_1⟩ : ∃ z, z = va_up Fa (0) (.inr (kD, [.null, .null, .null, .null, .null, .int 0, .int 0, .int 0, .int 0])) := ⟨_, rfl⟩
  replace hV : hp_V g z0 (1) F_1 s.heap H [] := by rw [eF_1]; exact hV
  have f_2 : F_1 (0) = .inr (kD, [.null, .null, .null, .null, .null, .int 0, .int 0, .int 0, .int 0]) := by rw [eF_1, va_up_self]
  refine lv_dup hx hb d_L_law_3 rfl ?_
  refine hp_goc (k := 86) (ks := 3366) hV (va_runI S (c_D_init l g z0 F_1 f_2) (cwI 0 hts (tb_inL cd_D_init) rfl rfl rfl (hts _ (tb_lw tq_27)) (hts _ (tb_lw tq_198)) (hts _ (tb_lw tq_199)) rfl hd_D_init.2 ⟨Nat.le_of_ble_eq_true rfl, Nat.le_of_ble_eq_true rfl⟩) (hp_preC hK hV) rfl rfl hl.1 rfl (lv_room (Nat.le_of_ble_eq_true rfl)) d_L_law_4 ⟨Nat.le_of_ble_eq_true rfl, Nat.le_of_ble_eq_true rfl⟩) (fun F_3 H locs hw hV => ?_)
  replace hV : hp_V g z0 (87) F_3 s.heap H locs := hV
  have hvS := hw
  refine lv_astore_n (lv' := [(1, .ref (hp_ad z0 0)), (0, .ref b)]) hx hb d_L_law_7 rfl hl (by decide) rfl (fun ls hl => ?_)
  refine hp_new (ci := kM) (fs := [.int 0, .null, .int 0, .null, .null, .null, .null, .int 0, .int 0, .int 0, .int 0, .int 0, .null, .null, .int 0, .int 0, .int 0, .int 0, .int 0, .null, .int 0]) S hK hV rfl in_kM tyok_M (hts _ (tb_lw tq_200)) (hts _ (tb_lw tq_201)) (hts _ (tb_lw tq_118)) (fun j hj => by rcases (show j = 0 ∨ j = 1 ∨ j = 2 ∨ j = 3 ∨ j = 4 ∨ j = 5 ∨ j = 6 ∨ j = 7 ∨ j = 8 ∨ j = 9 ∨ j = 10 ∨ j = 11 ∨ j = 12 ∨ j = 13 ∨ j = 14 ∨ j = 15 ∨ j = 16 ∨ j = 17 ∨ j = 18 ∨ j = 19 ∨ j = 20 by omega) with rfl | rfl | rfl | rfl | rfl | rfl | rfl | rfl | rfl | rfl | rfl | rfl | rfl | rfl | rfl | rfl | rfl | rfl | rfl | rfl | rfl <;> rfl) (by first | (simp only [rc]; omega) | exact Nat.le_of_ble_eq_true rfl) (by first | (simp only [rc]; omega) | exact Nat.le_of_ble_eq_true rfl) d_L_law_8 (fun H hV => ?_)
  obtain ⟨F_4, eF_4⟩ : ∃ z, z = va_up F_3 (87) (.inr (kM, [.int 0, .null, .int 0, .null, .null, .null, .null, .int 0, .int 0, .int 0, .int 0, .int 0, .null, .null, .int 0, .int 0, .int 0, .int 0, .int 0, .null, .int 0])) := ⟨_, rfl⟩
  replace hV : hp_V g z0 (88) F_4 s.heap H locs := by rw [eF_4]; exact hV
  have f_5 : F_4 (87) = .inr (kM, [.int 0, .null, .int 0, .null, .null, .null, .null, .int 0, .int 0, .int 0, .int 0, .int 0, .null, .null, .int 0, .int 0, .int 0, .int 0, .int 0, .null, .int 0]) := by rw [eF_4, va_up_self]
  refine lv_dup hx hb d_L_law_11 rfl ?_
  refine hp_goc (k := 8) (ks := 3413) hV (va_runI S (m_init l g z0 F_4 f_5) (cwI 0 hts (tb_inL cd_M_init) rfl rfl rfl (hts _ (tb_lw tq_118)) (hts _ (tb_lw tq_202)) (hts _ (tb_lw tq_203)) rfl hd_M_init.2 ⟨Nat.le_of_ble_eq_true rfl, Nat.le_of_ble_eq_true rfl⟩) (hp_preC hK hV) rfl rfl hl.1 rfl (lv_room (Nat.le_of_ble_eq_true rfl)) d_L_law_12 ⟨Nat.le_of_ble_eq_true rfl, Nat.le_of_ble_eq_true rfl⟩) (fun F_6 H locs hw hV => ?_)
  replace hV : hp_V g z0 (96) F_6 s.heap H locs := hV
  have hvS2 := (hvS.keepM (F1 := F_4) (fun x hx => by rw [eF_4, va_up_ne _ _ (by omega)])).keepM hw.2
  refine lv_astore_n (lv' := [(2, .ref (hp_ad z0 87)), (1, .ref (hp_ad z0 0)), (0, .ref b)]) hx hb d_L_law_15 rfl hl (by decide) rfl (fun ls hl => ?_)
  refine lv_iconst (v := 0) hx hb d_L_law_16 (by decide) ?_
  refine lv_istore_n (lv' := [(3, .int 0), (2, .ref (hp_ad z0 87)), (1, .ref (hp_ad z0 0)), (0, .ref b)]) hx hb d_L_law_17 rfl hl (by decide) rfl (fun ls hl => ?_)
  refine W.cs (cells' := 96) (slots' := 6809) (by omega) (by omega) ?_
  subst hz0
  exact law_loop l g (hp_ad s.heap.size) hL C0 hK (L + 4) 0 F_6 (by omega) (by omega) (LI.of (by rw [opS_nil]; exact hvS2) hw.1 rfl rfl (fun _ => rfl)) H locs ls hV.1 (lv_sub hl [3, 2, 1, 0] rfl)

-- ===== YOUR PART ENDS =====
set_option maxHeartbeats 4000000 in
theorem lw_walk (l : Launch) (b : Addr) (xs : List Int32) : MetFree l x (headSpec (Jvm.Cond.code x code maxLocals ret :: tables_1) room_1) (lw_P b xs) (fun _ _ _ _ _ => True) lw_Q := by
  refine MetFree.of_bodyS (code := code) (maxLocals := maxLocals) (ret := ret) (by decide) ?_ ?_
  · intro args s m h hn
    obtain ⟨meth, c, h1, h2, h3, h4, h5, h6, -, -⟩ := Cond.code_spec hn (atoms_spec (ws := Jvm.Cond.code x code maxLocals ret :: tables_1) h _ List.mem_cons_self)
    exact ⟨meth, c, h1, h2, h3, h4, h5, h6⟩
  · intro p e s m args below meth c s₁ B hml0 hP _
    obtain ⟨rfl, hx, hbd, hgv⟩ := hP
    obtain ⟨scr, harrAt, hlist, hof, hsmall⟩ := hx
    obtain ⟨hcb, hkn, -, -⟩ := State.arrayAt?_spec harrAt
    have hown : s.vm.findClass R_law = some m.cls := findClass_of_methodNamed B.named
    have hts0 : ∀ c ∈ (Jvm.Cond.code x code maxLocals ret :: tables_1), c.before #[Value.ref b] s = true := atoms_spec (ws := Jvm.Cond.code x code maxLocals ret :: tables_1) B.pre
    have hts : ∀ w ∈ lw_tbl, w.before #[Value.ref b] s = true := k2_hts_sels lw_privs (fun w hw => hts0 w (List.mem_cons_of_mem _ hw)) lw_privs_ok
    have hml : c.maxLocals = 4 := B.maxLocals_eq (hts0 _ List.mem_cons_self)
    have X₀ : Stand p l e room_1 s m #[Value.ref b] below meth c s₁ [] 0 0 := Stand.of_body B
    have hh0 : s₁.heap = s.heap := by rw [B.state]; rfl
    have hsz : scr.slots.size = xs.length := by rw [← Array.length_toList, hlist, List.length_map]
    have hval : ∀ j : Nat, j < xs.length → scr.slots[j]? = some (.int (xs.getD j 0)) := fun j hj => by
      rw [← Array.getElem?_toList, hlist]
      simp [hj]
    have hbl : b < s.heap.size := (Array.getElem?_eq_some_iff.mp hcb).1
    have hX : va_X b xs.length (fun j => xs.getD j 0) s s.heap := ⟨scr, hcb, hof, hkn, hsz, hval⟩
    have K : W p l e room_1 s m #[Value.ref b] below meth c s₁.heap [] 0 0 (lw_Z below #[Value.ref b] s) (entryFrame m ([Value.ref b] : List Value).toArray 4) := by
      rw [hh0]
      exact whole_start l hbd ⟨B.exec, B.bytes, B.returns, hml, hown, hts, hX, hbl, B.notSynchronized, hgv⟩
    obtain ⟨t, a1, o, b1, b2, b3⟩ := K s₁ rfl X₀
    exact ⟨t, o, a1, b1, b2, b3⟩
theorem lw_pre_spec {args : Array Value} {s : State} (h : (Jvm.Cond.and given_1 narrow_1).before args s = true) (hr : rest_1_c.before args s = true) : ∃ (b : Addr) (xs : List Int32), lw_P b xs args s := by
  have hs := flat_of_before _ h
  have hq := flat_of_before _ hr
  have hc : (Cond.count 1).before args s = true := hs _ (by decide +kernel)
  have harr : (Cond.arrayOf (.arg 0) .int).before args s = true := hs _ (by decide +kernel)
  have hle : (Cond.le (.length (.arg 0)) (.int 2048)).before args s = true := hs _ (by decide +kernel)
  have hlen : (Cond.isInt (.length (.arg 0))).before args s = true := hq _ (by decide +kernel)
  have hall : (Cond.all (.arg 0) (.isInt (.elem (.arg 0) (.index 0)))).before args s = true := hq _ (by decide +kernel)
  obtain ⟨b, xs, hb, hx⟩ := State.ints_of_pre rfl harr hlen hall
  have hsm : xs.length < 2 ^ 31 := hx.choose_spec.2.2.2
  have hev : (Term.length (.arg 0)).eval args s none [] s = some (.int xs.length.toInt32) := hx.length_eval hb
  have hv := Cond.le_ints hev (show (Term.int 2048).eval args s none [] s = some (.int 2048) from rfl)
  have hd : xs.length.toInt32 ≤ 2048 := by
    simpa [Cond.before, Cond.holds, hv] using hle
  have hN : xs.length ≤ 2048 := (Int32.ofNat_le_ofNat hsm (by decide)).mp (show Int32.ofNat xs.length ≤ Int32.ofNat 2048 from hd)
  exact ⟨b, xs, Cond.one_arg hc (show args[0]? = some (.ref b) from hb), hx, hN, h⟩
theorem lw_comes (l : Launch) : Comes l x (Jvm.Cond.code x code maxLocals ret :: tables_1) room_1 (fun tb e args s => Calls_1 tb e args s ∧ rest_1 tb e args s ∧ Pre_1 tb e args s)
    (fun _ _ args s o t => lw_Q args s o t) := by
  intro p e ha hc hk s m args below hf hfit hheap happ hpre
  obtain ⟨b, xs, hP⟩ := lw_pre_spec hpre.2.2 hpre.2.1
  obtain ⟨k, o, h1, h2, h3, hQ⟩ := lw_walk l b xs p e ha hc hk s m args below hf ((Spec.applies_iff_loose hf).mp happ).1 hP trivial
  exact ⟨k, o, h1, h2, h3, hQ⟩
theorem lw_frame {s t : State} {o : Outcome} {args : Array Value} (h : Framed s o t [] 600000 7302250) :
    Framed s o t (fieldLocs frame_1_writes args s ++ arrayLocs frame_1_arrays args s ++ staticLocs frame_1_statics s) 600000 7302250 := h
theorem lw_limb (L : Cond) (hL : ∀ (args : Array Value) (s t : State), L.after args s (.returned (some (.int 1))) t = true) :
    ArmFor flags0 classFile x code maxLocals ret World_1 tables_1 room_1 Calls_1 rest_1 Pre_1
      (fun tb e a s o t => postC L tb e a s o t ∧ Framed s o t (fieldLocs frame_1_writes a s ++ arrayLocs frame_1_arrays a s ++ staticLocs frame_1_statics s) 600000 7302250) := by
  intro l _ _ _ p e ha hc hk s m args below hf hfit hheap happ hpre
  obtain ⟨k, o, h1, h2, h3, rfl, hF⟩ := lw_comes l p e ha hc hk s m args below hf hfit hheap happ hpre
  exact ⟨k, _, h1, h2, h3, hL args s _, lw_frame hF⟩
theorem i_vc : Claimed_1_1 ∧ Claimed_1_2 := ⟨lw_limb limb_1_1 (fun args s t => by simp [limb_1_1, Cond.after, Cond.holds, Cond.value]), lw_limb limb_1_2 (fun args s t => Cond.after_iff.mpr (by
  first | (rw [show limb_1_2 = Cond.eq .result (.int 1) from rfl, Cond.eq_ints (x := 1) (y := 1) rfl rfl]; simp; done) | (simp [limb_1_2, Cond.value, Term.eval]; done)))⟩
