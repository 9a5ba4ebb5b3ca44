theorem mT_add {kn : Nat → Bool} {rt : Nat → List Int32} {hs sz tx tx2 : Nat → Int32} {k : Nat} {mm : List Int32} (h : mT kn rt hs sz tx) (hl : mm.length ≤ 100) (h1 : ∀ z, (z < 100 * k ∨ 100 * k + 100 ≤ z) → tx2 z = tx z) (h2 : ∀ j, j < mm.length → tx2 (100 * k + j) = md_at mm j) : mT (va_up kn k true) (va_up rt k mm) (upd hs k 1) (upd sz k (nI mm.length)) tx2 := by
  intro z hz
  by_cases e : z = k
  · subst e
    rw [pk_us, pk_us, va_up_self, va_up_self]
    exact ⟨rfl, fun _ => ⟨rfl, hl, fun j hj => h2 j hj⟩⟩
  · rw [pk_un e, pk_un e, va_up_ne _ _ e, va_up_ne _ _ e]
    obtain ⟨a, b⟩ := h z hz
    refine ⟨a, fun hk => ?_⟩
    obtain ⟨b1, b2, b3⟩ := b hk
    refine ⟨b1, b2, fun j hj => ?_⟩
    rw [h1 _ (by omega)]
    exact b3 j hj

/-! the reference: define, the copying -/
set_option maxHeartbeats 400000 in
set_option maxRecDepth 100000 in
theorem lp_copy {p : Program} {e : Env} {s : State} {m : MethodId} {args : Array Value} {below : List Frame} {meth : Method} {c : Code} (l : Launch) (g : hp_G) (z0 N : Nat) (ad : Nat → Nat)  (hN : 96 ≤ N) (la : List Int32) (ap : Nat → Int32) (fp1 me dp fa1 ou ki1 nu1 be1 : Int32) (mm1 : List Int32) (k : Nat) (hk : k < 26) (x2 : Int32) (tp hs sz vl ey md tx0 : Nat → Int32) (hml0 : mm1.length ≤ 100) (hmd : mL md 0 mm1) (Fz : Nat → va_E) (post : Int32 → (Nat → va_E) → Prop) (hpost : ∀ (F : Nat → va_E) (tx : Nat → Int32), mSt g ad F 0 (nI ([] : List Int32).length) (nI la.length) fp1 me dp (nI ([] : List Nat).length) fa1 ou ki1 nu1 be1 (nI mm1.length) tp hs sz tx vl ey ap md → (∀ z, (z < 100 * k ∨ 100 * k + 100 ≤ z) → tx z = tx0 z) → (∀ j, j < mm1.length → tx (100 * k + j) = md_at mm1 j) → mFr Fz F → post (nI mm1.length) F) (S : CallFix p m c cc_M_define 5 s args ws_M_define R_M) (hr : meth.sig.returnType = (some .int)) (hlk : meth.locks = false) (hK : hp_K g s) : ∀ (j : Nat) (i : Nat) (F : Nat → va_E) (tx : Nat → Int32), i ≤ mm1.length → mm1.length + 1 ≤ i + j → mSt g ad F 0 (nI ([] : List Int32).length) (nI la.length) fp1 me dp (nI ([] : List Nat).length) fa1 ou ki1 nu1 be1 (nI mm1.length) tp hs sz tx vl ey ap md → (∀ z, (z < 100 * k ∨ 100 * k + 100 ≤ z) → tx z = tx0 z) → (∀ j, j < i → tx (100 * k + j) = md_at mm1 j) → mFr Fz F → ∀ (H : Heap) (locs : List Loc) (ls : Array Slot), hp_W g z0 N ad F s.heap H locs → lv_has ls 5 [(0, .ref (ad 87)), (1, .int (nI k)), (2, .int x2), (3, .int (nI i))] → W p l e (rk 3) s m args below meth c H locs 0 0 (MQ below (va_Qi (post) (hp_B g z0 N ad) (hp_A z0)) args s 0 0 (hp_A z0)) (F0 m 210 ls []) := by
  obtain ⟨hx, hb, hml, hown, hts⟩ := id S
  have in_kM : ∀ w ∈ u_ws R_M T_M 21, w ∈ ws_M_define := fun w h => List.mem_cons_of_mem _ (in0_M w h)
  intro j
  induction j with
  | zero =>
    intro i F tx hi hj hR h1 h2 hfr H locs ls hW hl
    exact absurd hj (by omega)
  | succ j ih =>
    intro i F tx hi hj hR h1 h2 hfr H locs ls hW hl
    refine lv_iload_n hx hb d_M_define_210 rfl (lv_at hl 3 rfl) ?_
    refine lv_aload_n hx hb d_M_define_211 rfl (lv_at hl 0 rfl) ?_
    refine hp_get S hK hW (87) (by omega) rfl hR.1 rfl in_kM 20 (by decide) (hts _ (List.mem_cons_of_mem _ tq_116)) rfl d_M_define_212 ?_
    refine lv_icmp_ge (tgt := 241) hx hb d_M_define_215 (by decide) (fun c_215 => ?_) (fun c_215 => ?_)
    · have c_215i := c_215
      replace c_215 : mm1.length ≤ i := (nI_leI (a := mm1.length) (b := i) (by omega) (by omega)).mp c_215
      refine lv_aload_n hx hb d_M_define_241 rfl (lv_at hl 0 rfl) ?_
      refine hp_get S hK hW (87) (by omega) rfl hR.1 rfl in_kM 20 (by decide) (hts _ (List.mem_cons_of_mem _ tq_116)) rfl d_M_define_242 ?_
      exact hp_reti S hK hW hr hlk d_M_define_245 (hpost F tx hR h1 (fun j hj => h2 j (by omega)) hfr)
    · have c_215i := c_215
      replace c_215 : ¬ mm1.length ≤ i := fun zz9 => c_215 ((nI_leI (a := mm1.length) (b := i) (by omega) (by omega)).mpr zz9)
      refine lv_aload_n hx hb d_M_define_218 rfl (lv_at hl 0 rfl) ?_
      refine hp_get S hK hW (87) (by omega) rfl hR.1 rfl in_kM 5 (by decide) (hts _ (List.mem_cons_of_mem _ tq_101)) rfl d_M_define_219 ?_
      refine lv_bipush (v := 100) hx hb d_M_define_222 (by decide) ?_
      refine lv_iload_n hx hb d_M_define_224 rfl (lv_at hl 1 rfl) ?_
      refine lv_imul hx hb d_M_define_225 ?_
      rw [show (100 * (nI k)) = (nI (100 * k)) from pk_mul 100 k]
      refine lv_iload_n hx hb d_M_define_226 rfl (lv_at hl 3 rfl) ?_
      refine lv_iadd hx hb d_M_define_227 ?_
      rw [show ((nI (100 * k)) + (nI i)) = (nI (100 * k + i)) from nI_add _ _]
      refine lv_aload_n hx hb d_M_define_228 rfl (lv_at hl 0 rfl) ?_
      refine hp_get S hK hW (87) (by omega) rfl hR.1 rfl in_kM 19 (by decide) (hts _ (List.mem_cons_of_mem _ tq_115)) rfl d_M_define_229 ?_
      refine lv_iload_n hx hb d_M_define_232 rfl (lv_at hl 3 rfl) ?_
      refine hp_iald S hK hW (95) (by omega) rfl hR.2.2.2.2.2.2.2.2 (vp_in_nI (by omega) (by omega)) d_M_define_233 ?_
      rw [show (md ((nI i) : Int32).toNatClampNeg) = (md_at mm1 i) from (by rw [nI_clamp (by omega)]; have := hmd i (by omega); rwa [Nat.zero_add] at this)]
      refine hp_iast S hK hW (91) (by omega) rfl hR.2.2.2.2.1 (x := (md_at mm1 i)) (vp_in_nI (by omega) (by omega)) d_M_define_234 (fun H locs hW => ?_)
      obtain ⟨F_1, eF_1⟩ : ∃ z, z = va_up F (91) (.inl (g.2 0, 2600, .inl (upd tx (100 * k + i) (md_at mm1 i)))) := ⟨_, rfl⟩
      rw [show (((nI (100 * k + i)) : Int32).toNatClampNeg) = (100 * k + i) from nI_clamp (by omega)] at hW
      replace hW : hp_W g z0 N ad F_1 s.heap H locs := by rw [eF_1]; exact hW
      have f_2 : F_1 (87) = .inr (kM, [.int 0, .ref (ad 88), .int (nI (([] : List Int32)).length), .ref (ad 89), .ref (ad 90), .ref (ad 91), .ref (ad 92), .int (nI la.length), .int fp1, .int me, .int dp, .int (nI (([] : List Nat)).length), .ref (ad 93), .ref (ad 94), .int fa1, .int ou, .int ki1, .int nu1, .int be1, .ref (ad 95), .int (nI mm1.length)]) := by rw [eF_1, va_up_ne _ _ (by omega)]; exact hR.1
      have f_3 : F_1 (88) = .inl (g.2 0, 200, .inl tp) := by rw [eF_1, va_up_ne _ _ (by omega)]; exact hR.2.1
      have f_4 : F_1 (89) = .inl (g.2 2, 26, .inl hs) := by rw [eF_1, va_up_ne _ _ (by omega)]; exact hR.2.2.1
      have f_5 : F_1 (90) = .inl (g.2 0, 26, .inl sz) := by rw [eF_1, va_up_ne _ _ (by omega)]; exact hR.2.2.2.1
      have f_6 : F_1 (91) = .inl (g.2 0, 2600, .inl (upd tx (100 * k + i) (md_at mm1 i))) := by rw [eF_1, va_up_self]
      have f_7 : F_1 (92) = .inl (g.2 0, 301, .inl vl) := by rw [eF_1, va_up_ne _ _ (by omega)]; exact hR.2.2.2.2.2.1
      have f_8 : F_1 (93) = .inl (g.2 0, 28, .inl ey) := by rw [eF_1, va_up_ne _ _ (by omega)]; exact hR.2.2.2.2.2.2.1
      have f_9 : F_1 (94) = .inl (g.2 0, 28, .inl ap) := by rw [eF_1, va_up_ne _ _ (by omega)]; exact hR.2.2.2.2.2.2.2.1
      have f_10 : F_1 (95) = .inl (g.2 0, 204, .inl md) := by rw [eF_1, va_up_ne _ _ (by omega)]; exact hR.2.2.2.2.2.2.2.2
      have hf_11 : mFr F F_1 := fun x hx => by rw [eF_1, va_up_ne _ _ (by omega)]
      refine lv_iinc (v := (nI (i + 1))) (lv' := [(3, .int (nI (i + 1))), (0, .ref (ad 87)), (1, .int (nI k)), (2, .int x2)]) hx hb d_M_define_235 hl (k := 3) rfl ((nI_succ (i)).symm) (by decide) rfl (fun ls hl => ?_)
      refine lv_goto (tgt := 210) hx hb d_M_define_238 (by decide) ?_
      exact ih (i + 1) F_1 ((upd tx (100 * k + i) (md_at mm1 i))) (by omega) (by omega) ⟨f_2, f_3, f_4, f_5, f_6, f_7, f_8, f_9, f_10⟩ (fun z hz => by rw [pk_un (by omega)]; exact h1 z hz) (fun j hj => by rcases Nat.lt_or_ge j i with q | q; rw [pk_un (by omega)]; exact h2 j q; rw [show j = i by omega, pk_us]) (hfr.tr hf_11) H locs ls hW (lv_sub hl [1, 2, 3, 0] rfl)

set_option maxHeartbeats 400000 in
set_option maxRecDepth 100000 in
theorem df_end {p : Program} {e : Env} {s : State} {m : MethodId} {args : Array Value} {below : List Frame} {meth : Method} {c : Code} (l : Launch) (g : hp_G) (z0 N : Nat) (ad : Nat → Nat) (F : Nat → va_E) (hN : 96 ≤ N) (tape : List Int32) (kn : Nat → Bool) (rt : Nat → List Int32) (la : List Int32) (ap : Nat → Int32) (me dp ou : Int32) (k : Nat) (hk : k < 26) (F1 : Nat → va_E) (mm1 : List Int32) (ki1 nu1 be1 : Int32) (hS : mS g ad F1 tape kn rt la mm1 (([] : List Nat)) ap 0 (pf (md_df tape tape.length 0 []).2.1 (-1) (nI (md_df tape tape.length 0 []).2.2)) me dp (nI (md_df tape tape.length 0 []).2.1) ou ki1 nu1 be1) (hm1 : (md_df tape tape.length 0 []).2.1 = 0 → mm1 = (md_df tape tape.length 0 []).1) (hfr : mFr F F1) (S : CallFix p m c cc_M_define 5 s args ws_M_define R_M) (hr : meth.sig.returnType = (some .int)) (hlk : meth.locks = false) (hK : hp_K g s) (H : Heap) (locs : List Loc) (ls : Array Slot) (hW : hp_W g z0 N ad F1 s.heap H locs) (hl : lv_has ls 5 [(0, .ref (ad 87)), (1, .int (nI k))]) (x2 : Int32) (hl2 : lv_has ls 5 [(0, .ref (ad 87)), (1, .int (nI k)), (2, .int x2)]) : W p l e (rk 3) s m args below meth c H locs 0 0 (MQ below (va_Qi (fun v F' => v = (if (md_df tape tape.length 0 []).2.1 = 0 then if kn k = true then -9 else nI (md_df tape tape.length 0 []).1.length else -nI (md_df tape tape.length 0 []).2.1) ∧ (∃ (mm2 : List Int32) (ap2 : Nat → Int32) (fa2 ki2 nu2 be2 : Int32), mS g ad F' [] (if (md_df tape tape.length 0 []).2.1 = 0 then va_up kn k true else kn) (if (md_df tape tape.length 0 []).2.1 = 0 ∧ kn k = false then va_up rt k (md_df tape tape.length 0 []).1 else rt) la mm2 [] ap2 0 (pf (md_df tape tape.length 0 []).2.1 (-1) (nI (md_df tape tape.length 0 []).2.2)) me dp fa2 ou ki2 nu2 be2) ∧ mFr F F') (hp_B g z0 N ad) (hp_A z0)) args s 0 0 (hp_A z0)) (F0 m 161 ls []) := by
  obtain ⟨hx, hb, hml, hown, hts⟩ := id S
  have in_kM : ∀ w ∈ u_ws R_M T_M 21, w ∈ ws_M_define := fun w h => List.mem_cons_of_mem _ (in0_M w h)
  replace hl := hl2
  have hRl := md_df_f tape tape.length 0 []
  obtain ⟨tp, hs, sz, tx, vl, ey, md, hR, ⟨htl, htp⟩, hT, ⟨hll, hvl⟩, hKs, hml0, hmd⟩ := id hS
  refine lv_aload_n hx hb d_M_define_161 rfl (lv_at hl 0 rfl) ?_
  refine lv_iconst (v := 0) hx hb d_M_define_162 (by decide) ?_
  refine hp_put S hK hW (87) (by omega) rfl hR.1 rfl in_kM tyok_M nm_M 2 (by decide) (hts _ (List.mem_cons_of_mem _ tq_98)) rfl rfl rfl (Nat.le_of_ble_eq_true rfl) d_M_define_163 (fun H locs hW => ?_)
  obtain ⟨F_1, eF_1⟩ : ∃ z, z = va_up F1 (87) (.inr (kM, [.int 0, .ref (ad 88), .int 0, .ref (ad 89), .ref (ad 90), .ref (ad 91), .ref (ad 92), .int (nI la.length), .int (pf (md_df tape tape.length 0 []).2.1 (-1) (nI (md_df tape tape.length 0 []).2.2)), .int me, .int dp, .int (nI (([] : List Nat)).length), .ref (ad 93), .ref (ad 94), .int (nI (md_df tape tape.length 0 []).2.1), .int ou, .int ki1, .int nu1, .int be1, .ref (ad 95), .int (nI mm1.length)])) := ⟨_, rfl⟩
  replace hW : hp_W g z0 N ad F_1 s.heap H locs := by rw [eF_1]; exact hW
  have f_2 : F_1 (87) = .inr (kM, [.int 0, .ref (ad 88), .int 0, .ref (ad 89), .ref (ad 90), .ref (ad 91), .ref (ad 92), .int (nI la.length), .int (pf (md_df tape tape.length 0 []).2.1 (-1) (nI (md_df tape tape.length 0 []).2.2)), .int me, .int dp, .int (nI (([] : List Nat)).length), .ref (ad 93), .ref (ad 94), .int (nI (md_df tape tape.length 0 []).2.1), .int ou, .int ki1, .int nu1, .int be1, .ref (ad 95), .int (nI mm1.length)]) := by rw [eF_1, va_up_self]
  have f_3 : F_1 (88) = .inl (g.2 0, 200, .inl tp) := by rw [eF_1, va_up_ne _ _ (by omega)]; exact hR.2.1
  have f_4 : F_1 (89) = .inl (g.2 2, 26, .inl hs) := by rw [eF_1, va_up_ne _ _ (by omega)]; exact hR.2.2.1
  have f_5 : F_1 (90) = .inl (g.2 0, 26, .inl sz) := by rw [eF_1, va_up_ne _ _ (by omega)]; exact hR.2.2.2.1
  have f_6 : F_1 (91) = .inl (g.2 0, 2600, .inl tx) := by rw [eF_1, va_up_ne _ _ (by omega)]; exact hR.2.2.2.2.1
  have f_7 : F_1 (92) = .inl (g.2 0, 301, .inl vl) := by rw [eF_1, va_up_ne _ _ (by omega)]; exact hR.2.2.2.2.2.1
  have f_8 : F_1 (93) = .inl (g.2 0, 28, .inl ey) := by rw [eF_1, va_up_ne _ _ (by omega)]; exact hR.2.2.2.2.2.2.1
  have f_9 : F_1 (94) = .inl (g.2 0, 28, .inl ap) := by rw [eF_1, va_up_ne _ _ (by omega)]; exact hR.2.2.2.2.2.2.2.1
  have f_10 : F_1 (95) = .inl (g.2 0, 204, .inl md) := by rw [eF_1, va_up_ne _ _ (by omega)]; exact hR.2.2.2.2.2.2.2.2
  have hf_11 : mFr F1 F_1 := fun x hx => by rw [eF_1, va_up_ne _ _ (by omega)]
  refine lv_aload_n hx hb d_M_define_166 rfl (lv_at hl 0 rfl) ?_
  refine hp_get S hK hW (87) (by omega) rfl f_2 rfl in_kM 14 (by decide) (hts _ (List.mem_cons_of_mem _ tq_110)) rfl d_M_define_167 ?_
  refine lv_if_le (tgt := 179) hx hb d_M_define_170 (by decide) (fun c_170 => ?_) (fun c_170 => ?_)
  · have c_170i := c_170
    replace c_170 : (md_df tape tape.length 0 []).2.1 ≤ 0 := (nI_leI (a := (md_df tape tape.length 0 []).2.1) (b := 0) (by omega) (by omega)).mp c_170
    refine lv_aload_n hx hb d_M_define_179 rfl (lv_at hl 0 rfl) ?_
    refine hp_get S hK hW (87) (by omega) rfl f_2 rfl in_kM 3 (by decide) (hts _ (List.mem_cons_of_mem _ tq_99)) rfl d_M_define_180 ?_
    refine lv_iload_n hx hb d_M_define_183 rfl (lv_at hl 1 rfl) ?_
    refine hp_zald S hK hW (89) (by omega) rfl f_4 (vp_in_nI hk (by omega)) d_M_define_184 ?_
    rw [show (hs ((nI k) : Int32).toNatClampNeg) = (b2 (kn k)) from (by rw [nI_clamp (by omega)]; exact (hT k hk).1)]
    refine lv_if_eq (tgt := 191) hx hb d_M_define_185 (by decide) (fun c_185 => ?_) (fun c_185 => ?_)
    · have c_185i := c_185
      refine lv_aload_n hx hb d_M_define_191 rfl (lv_at hl 0 rfl) ?_
      refine hp_get S hK hW (87) (by omega) rfl f_2 rfl in_kM 3 (by decide) (hts _ (List.mem_cons_of_mem _ tq_99)) rfl d_M_define_192 ?_
      refine lv_iload_n hx hb d_M_define_195 rfl (lv_at hl 1 rfl) ?_
      refine lv_iconst (v := 1) hx hb d_M_define_196 (by decide) ?_
      refine hp_zast S hK hW (89) (by omega) rfl f_4 (x := 1) (vp_in_nI hk (by omega)) d_M_define_197 (fun H locs hW => ?_)
      obtain ⟨F_12, eF_12⟩ : ∃ z, z = va_up F_1 (89) (.inl (g.2 2, 26, .inl (upd hs k 1))) := ⟨_, rfl⟩
      rw [show (((nI k) : Int32).toNatClampNeg) = k from nI_clamp (by omega)] at hW
      replace hW : hp_W g z0 N ad F_12 s.heap H locs := by rw [eF_12]; exact hW
      have f_13 : F_12 (87) = .inr (kM, [.int 0, .ref (ad 88), .int 0, .ref (ad 89), .ref (ad 90), .ref (ad 91), .ref (ad 92), .int (nI la.length), .int (pf (md_df tape tape.length 0 []).2.1 (-1) (nI (md_df tape tape.length 0 []).2.2)), .int me, .int dp, .int (nI (([] : List Nat)).length), .ref (ad 93), .ref (ad 94), .int (nI (md_df tape tape.length 0 []).2.1), .int ou, .int ki1, .int nu1, .int be1, .ref (ad 95), .int (nI mm1.length)]) := by rw [eF_12, va_up_ne _ _ (by omega)]; exact f_2
      have f_14 : F_12 (88) = .inl (g.2 0, 200, .inl tp) := by rw [eF_12, va_up_ne _ _ (by omega)]; exact f_3
      have f_15 : F_12 (89) = .inl (g.2 2, 26, .inl (upd hs k 1)) := by rw [eF_12, va_up_self]
      have f_16 : F_12 (90) = .inl (g.2 0, 26, .inl sz) := by rw [eF_12, va_up_ne _ _ (by omega)]; exact f_5
      have f_17 : F_12 (91) = .inl (g.2 0, 2600, .inl tx) := by rw [eF_12, va_up_ne _ _ (by omega)]; exact f_6
      have f_18 : F_12 (92) = .inl (g.2 0, 301, .inl vl) := by rw [eF_12, va_up_ne _ _ (by omega)]; exact f_7
      have f_19 : F_12 (93) = .inl (g.2 0, 28, .inl ey) := by rw [eF_12, va_up_ne _ _ (by omega)]; exact f_8
      have f_20 : F_12 (94) = .inl (g.2 0, 28, .inl ap) := by rw [eF_12, va_up_ne _ _ (by omega)]; exact f_9
      have f_21 : F_12 (95) = .inl (g.2 0, 204, .inl md) := by rw [eF_12, va_up_ne _ _ (by omega)]; exact f_10
      have hf_22 : mFr F_1 F_12 := fun x hx => by rw [eF_12, va_up_ne _ _ (by omega)]
      refine lv_aload_n hx hb d_M_define_198 rfl (lv_at hl 0 rfl) ?_
      refine hp_get S hK hW (87) (by omega) rfl f_13 rfl in_kM 4 (by decide) (hts _ (List.mem_cons_of_mem _ tq_100)) rfl d_M_define_199 ?_
      refine lv_iload_n hx hb d_M_define_202 rfl (lv_at hl 1 rfl) ?_
      refine lv_aload_n hx hb d_M_define_203 rfl (lv_at hl 0 rfl) ?_
      refine hp_get S hK hW (87) (by omega) rfl f_13 rfl in_kM 20 (by decide) (hts _ (List.mem_cons_of_mem _ tq_116)) rfl d_M_define_204 ?_
      refine hp_iast S hK hW (90) (by omega) rfl f_16 (x := (nI mm1.length)) (vp_in_nI hk (by omega)) d_M_define_207 (fun H locs hW => ?_)
      obtain ⟨F_23, eF_23⟩ : ∃ z, z = va_up F_12 (90) (.inl (g.2 0, 26, .inl (upd sz k (nI mm1.length)))) := ⟨_, rfl⟩
      rw [show (((nI k) : Int32).toNatClampNeg) = k from nI_clamp (by omega)] at hW
      replace hW : hp_W g z0 N ad F_23 s.heap H locs := by rw [eF_23]; exact hW
      have f_24 : F_23 (87) = .inr (kM, [.int 0, .ref (ad 88), .int 0, .ref (ad 89), .ref (ad 90), .ref (ad 91), .ref (ad 92), .int (nI la.length), .int (pf (md_df tape tape.length 0 []).2.1 (-1) (nI (md_df tape tape.length 0 []).2.2)), .int me, .int dp, .int (nI (([] : List Nat)).length), .ref (ad 93), .ref (ad 94), .int (nI (md_df tape tape.length 0 []).2.1), .int ou, .int ki1, .int nu1, .int be1, .ref (ad 95), .int (nI mm1.length)]) := by rw [eF_23, va_up_ne _ _ (by omega)]; exact f_13
      have f_25 : F_23 (88) = .inl (g.2 0, 200, .inl tp) := by rw [eF_23, va_up_ne _ _ (by omega)]; exact f_14
      have f_26 : F_23 (89) = .inl (g.2 2, 26, .inl (upd hs k 1)) := by rw [eF_23, va_up_ne _ _ (by omega)]; exact f_15
      have f_27 : F_23 (90) = .inl (g.2 0, 26, .inl (upd sz k (nI mm1.length))) := by rw [eF_23, va_up_self]
      have f_28 : F_23 (91) = .inl (g.2 0, 2600, .inl tx) := by rw [eF_23, va_up_ne _ _ (by omega)]; exact f_17
      have f_29 : F_23 (92) = .inl (g.2 0, 301, .inl vl) := by rw [eF_23, va_up_ne _ _ (by omega)]; exact f_18
      have f_30 : F_23 (93) = .inl (g.2 0, 28, .inl ey) := by rw [eF_23, va_up_ne _ _ (by omega)]; exact f_19
      have f_31 : F_23 (94) = .inl (g.2 0, 28, .inl ap) := by rw [eF_23, va_up_ne _ _ (by omega)]; exact f_20
      have f_32 : F_23 (95) = .inl (g.2 0, 204, .inl md) := by rw [eF_23, va_up_ne _ _ (by omega)]; exact f_21
      have hf_33 : mFr F_12 F_23 := fun x hx => by rw [eF_23, va_up_ne _ _ (by omega)]
      refine lv_iconst (v := 0) hx hb d_M_define_208 (by decide) ?_
      refine lv_istore_n (lv' := [(3, .int 0), (0, .ref (ad 87)), (1, .int (nI k)), (2, .int x2)]) hx hb d_M_define_209 rfl hl (by decide) rfl (fun ls hl => ?_)
      have h0 : (md_df tape tape.length 0 []).2.1 = 0 := by omega
      have hki : kn k = false := b2_0.mp c_185i
      have hm2 := hm1 h0
      refine lp_copy l g z0 N ad hN la ap _ me dp _ ou ki1 nu1 be1 mm1 k hk x2 tp ((upd hs k 1)) ((upd sz k (nI mm1.length))) vl ey md tx hml0 hmd F _ (fun F2 tx2 hR2 h1 h2 hf2 => ?_) S hr hlk hK (mm1.length + 1) 0 F_23 tx (Nat.zero_le _) (by omega) ⟨f_24, f_25, f_26, f_27, f_28, f_29, f_30, f_31, f_32⟩ (fun _ _ => rfl) (fun j hj => absurd hj (Nat.not_lt_zero _)) (hfr.tr ((hf_11.tr hf_22).tr hf_33)) _ _ ls hW (lv_sub hl [1, 2, 3, 0] rfl)
      rw [if_pos h0, if_neg (by rw [hki]; exact fun z => by cases z), if_pos h0, if_pos ⟨h0, hki⟩, ← hm2]
      exact ⟨rfl, ⟨_, _, _, _, _, _, tp, _, _, tx2, vl, ey, md, hR2, ⟨Nat.zero_le _, mL_nil _ _⟩, mT_add hT hml0 h1 h2, ⟨hll, hvl⟩, ⟨Nat.zero_le _, fun i h => absurd h (Nat.not_lt_zero _), fun k h => absurd h List.not_mem_nil⟩, hml0, hmd⟩, hf2⟩
    · have c_185i := c_185
      refine lv_bipush (v := (-9)) hx hb d_M_define_188 (by decide) ?_
      have h0 : (md_df tape tape.length 0 []).2.1 = 0 := by omega
      have hki : kn k = true := b2_n0.mp c_185i
      have hke : va_up kn k true = kn := by rw [← hki, va_up_eta]
      exact hp_reti S hK hW hr hlk d_M_define_190 (by rw [if_pos h0, if_pos hki, if_pos h0, hke, if_neg (fun z => by rw [hki] at z; cases z.2)]; exact ⟨rfl, ⟨_, _, _, _, _, _, ⟨tp, hs, sz, tx, vl, ey, md, ⟨f_2, f_3, f_4, f_5, f_6, f_7, f_8, f_9, f_10⟩, ⟨Nat.zero_le _, mL_nil _ _⟩, hT, ⟨hll, hvl⟩, ⟨Nat.zero_le _, fun i h => absurd h (Nat.not_lt_zero _), fun k h => absurd h List.not_mem_nil⟩, hml0, hmd⟩⟩, hfr.tr hf_11⟩)
  · have c_170i := c_170
    replace c_170 : ¬ (md_df tape tape.length 0 []).2.1 ≤ 0 := fun zz9 => c_170 ((nI_leI (a := (md_df tape tape.length 0 []).2.1) (b := 0) (by omega) (by omega)).mpr zz9)
    refine lv_aload_n hx hb d_M_define_173 rfl (lv_at hl 0 rfl) ?_
    refine hp_get S hK hW (87) (by omega) rfl f_2 rfl in_kM 14 (by decide) (hts _ (List.mem_cons_of_mem _ tq_110)) rfl d_M_define_174 ?_
    refine lv_ineg hx hb d_M_define_177 ?_
    have hn0 : ¬ (md_df tape tape.length 0 []).2.1 = 0 := by omega
    exact hp_reti S hK hW hr hlk d_M_define_178 (by rw [if_neg hn0, if_neg hn0, if_neg (fun z => hn0 z.1)]; exact ⟨rfl, ⟨_, _, _, _, _, _, ⟨tp, hs, sz, tx, vl, ey, md, ⟨f_2, f_3, f_4, f_5, f_6, f_7, f_8, f_9, f_10⟩, ⟨Nat.zero_le _, mL_nil _ _⟩, hT, ⟨hll, hvl⟩, ⟨Nat.zero_le _, fun i h => absurd h (Nat.not_lt_zero _), fun k h => absurd h List.not_mem_nil⟩, hml0, hmd⟩⟩, hfr.tr hf_11⟩)

/-! the reference: define, no such entity -/
set_option maxHeartbeats 400000 in
set_option maxRecDepth 100000 in
theorem m_define_out (l : Launch) (g : hp_G) (z0 N : Nat) (ad : Nat → Nat) (F : Nat → va_E) (hN : 96 ≤ N) (tape : List Int32) (kn : Nat → Bool) (rt : Nat → List Int32) (la mm : List Int32) (stk : List Nat) (ap : Nat → Int32) (tc fp me dp fa ou ki nu be : Int32) (hS : mS g ad F tape kn rt la mm stk ap tc fp me dp fa ou ki nu be) (k : Int32) (hno : ¬ (0 ≤ k ∧ k < 26)) : hp_Mi l g z0 N ad y_M_define ws_M_define (rk 3) [.ref (ad 87), .int k] F (fun v F' => v = -10 ∧ mS g ad F' tape kn rt la mm stk ap 0 fp me dp fa ou ki nu be ∧ mFr F F') := by
  obtain ⟨tp, hs, sz, tx, vl, ey, md, hR, ⟨htl, htp⟩, hT, ⟨hll, hvl⟩, hKs, hml0, hmd⟩ := id hS
  refine hp_enter (cc := cc_M_define) (maxL := 5) (ret := (some .int)) (by decide) rfl (Nat.le_of_ble_eq_true rfl) ?_
  intro p e s m below meth c S hr hlk hnm hK hW ls hl
  have hl : lv_has ls 5 [(0, .ref (ad 87)), (1, .int k)] := hl
  obtain ⟨hx, hb, hml, hown, hts⟩ := id S
  have in_kM : ∀ w ∈ u_ws R_M T_M 21, w ∈ ws_M_define := fun w h => List.mem_cons_of_mem _ (in0_M w h)
  refine lv_aload_n hx hb d_M_define_0 rfl (lv_at hl 0 rfl) ?_
  refine lv_iconst (v := 0) hx hb d_M_define_1 (by decide) ?_
  refine hp_put S hK hW (87) (by omega) rfl hR.1 rfl in_kM tyok_M nm_M 0 (by decide) (hts _ (List.mem_cons_of_mem _ tq_96)) rfl rfl rfl (Nat.le_of_ble_eq_true rfl) d_M_define_2 (fun H locs hW => ?_)
  obtain ⟨F_1, eF_1⟩ : ∃ z, z = va_up F (87) (.inr (kM, [.int 0, .ref (ad 88), .int (nI tape.length), .ref (ad 89), .ref (ad 90), .ref (ad 91), .ref (ad 92), .int (nI la.length), .int fp, .int me, .int dp, .int (nI stk.length), .ref (ad 93), .ref (ad 94), .int fa, .int ou, .int ki, .int nu, .int be, .ref (ad 95), .int (nI mm.length)])) := ⟨_, rfl⟩
  replace hW : hp_W g z0 N ad F_1 s.heap H locs := by rw [eF_1]; exact hW
  have f_2 : F_1 (87) = .inr (kM, [.int 0, .ref (ad 88), .int (nI tape.length), .ref (ad 89), .ref (ad 90), .ref (ad 91), .ref (ad 92), .int (nI la.length), .int fp, .int me, .int dp, .int (nI stk.length), .ref (ad 93), .ref (ad 94), .int fa, .int ou, .int ki, .int nu, .int be, .ref (ad 95), .int (nI mm.length)]) := by rw [eF_1, va_up_self]
  have f_3 : F_1 (88) = .inl (g.2 0, 200, .inl tp) := by rw [eF_1, va_up_ne _ _ (by omega)]; exact hR.2.1
  have f_4 : F_1 (89) = .inl (g.2 2, 26, .inl hs) := by rw [eF_1, va_up_ne _ _ (by omega)]; exact hR.2.2.1
  have f_5 : F_1 (90) = .inl (g.2 0, 26, .inl sz) := by rw [eF_1, va_up_ne _ _ (by omega)]; exact hR.2.2.2.1
  have f_6 : F_1 (91) = .inl (g.2 0, 2600, .inl tx) := by rw [eF_1, va_up_ne _ _ (by omega)]; exact hR.2.2.2.2.1
  have f_7 : F_1 (92) = .inl (g.2 0, 301, .inl vl) := by rw [eF_1, va_up_ne _ _ (by omega)]; exact hR.2.2.2.2.2.1
  have f_8 : F_1 (93) = .inl (g.2 0, 28, .inl ey) := by rw [eF_1, va_up_ne _ _ (by omega)]; exact hR.2.2.2.2.2.2.1
  have f_9 : F_1 (94) = .inl (g.2 0, 28, .inl ap) := by rw [eF_1, va_up_ne _ _ (by omega)]; exact hR.2.2.2.2.2.2.2.1
  have f_10 : F_1 (95) = .inl (g.2 0, 204, .inl md) := by rw [eF_1, va_up_ne _ _ (by omega)]; exact hR.2.2.2.2.2.2.2.2
  have hf_11 : mFr F F_1 := fun x hx => by rw [eF_1, va_up_ne _ _ (by omega)]
  refine lv_iload_n hx hb d_M_define_5 rfl (lv_at hl 1 rfl) ?_
  refine lv_if_lt (tgt := 15) hx hb d_M_define_6 (by decide) (fun c_6 => ?_) (fun c_6 => ?_)
  · have c_6i := c_6
    have c_6j := Int32.not_le.mpr c_6
    refine lv_bipush (v := (-10)) hx hb d_M_define_15 (by decide) ?_
    exact hp_reti S hK hW hr hlk d_M_define_17 (⟨rfl, ⟨tp, hs, sz, tx, vl, ey, md, ⟨f_2, f_3, f_4, f_5, f_6, f_7, f_8, f_9, f_10⟩, ⟨htl, htp⟩, hT, ⟨hll, hvl⟩, hKs, hml0, hmd⟩, hf_11⟩)
  · have c_6i := c_6
    have c_6j := Int32.not_lt.mp c_6
    refine lv_iload_n hx hb d_M_define_9 rfl (lv_at hl 1 rfl) ?_
    refine lv_bipush (v := 25) hx hb d_M_define_10 (by decide) ?_
    refine lv_icmp_le (tgt := 18) hx hb d_M_define_12 (by decide) (fun c_12 => ?_) (fun c_12 => ?_)
    · have c_12i := c_12
      have c_12j := Int32.not_lt.mpr c_12
      exact absurd hno (fun h => h ⟨Int32.not_lt.mp c_6i, le25 c_12i⟩)
    · have c_12i := c_12
      have c_12j := Int32.not_le.mp c_12
      refine lv_bipush (v := (-10)) hx hb d_M_define_15 (by decide) ?_
      exact hp_reti S hK hW hr hlk d_M_define_17 (⟨rfl, ⟨tp, hs, sz, tx, vl, ey, md, ⟨f_2, f_3, f_4, f_5, f_6, f_7, f_8, f_9, f_10⟩, ⟨htl, htp⟩, hT, ⟨hll, hvl⟩, hKs, hml0, hmd⟩, hf_11⟩)

/-! the reference: define -/
set_option maxHeartbeats 400000 in
set_option maxRecDepth 100000 in
theorem m_define_in (l : Launch) (g : hp_G) (z0 N : Nat) (ad : Nat → Nat) (F : Nat → va_E) (hN : 96 ≤ N) (tape : List Int32) (kn : Nat → Bool) (rt : Nat → List Int32) (la mm : List Int32) (stk : List Nat) (ap : Nat → Int32) (tc fp me dp fa ou ki nu be : Int32) (hS : mS g ad F tape kn rt la mm stk ap tc fp me dp fa ou ki nu be) (k : Nat) (hk : k < 26) : hp_Mi l g z0 N ad y_M_define ws_M_define (rk 3) [.ref (ad 87), .int (nI k)] F (fun v F' => v = (if (md_df tape tape.length 0 []).2.1 = 0 then if kn k = true then -9 else nI (md_df tape tape.length 0 []).1.length else -nI (md_df tape tape.length 0 []).2.1) ∧ (∃ (mm2 : List Int32) (ap2 : Nat → Int32) (fa2 ki2 nu2 be2 : Int32), mS g ad F' [] (if (md_df tape tape.length 0 []).2.1 = 0 then va_up kn k true else kn) (if (md_df tape tape.length 0 []).2.1 = 0 ∧ kn k = false then va_up rt k (md_df tape tape.length 0 []).1 else rt) la mm2 [] ap2 0 (pf (md_df tape tape.length 0 []).2.1 (-1) (nI (md_df tape tape.length 0 []).2.2)) me dp fa2 ou ki2 nu2 be2) ∧ mFr F F') := by
  obtain ⟨tp, hs, sz, tx, vl, ey, md, hR, ⟨htl, htp⟩, hT, ⟨hll, hvl⟩, hKs, hml0, hmd⟩ := id hS
  refine hp_enter (cc := cc_M_define) (maxL := 5) (ret := (some .int)) (by decide) rfl (Nat.le_of_ble_eq_true rfl) ?_
  intro p e s m below meth c S hr hlk hnm hK hW ls hl
  have hl : lv_has ls 5 [(0, .ref (ad 87)), (1, .int (nI k))] := hl
  obtain ⟨hx, hb, hml, hown, hts⟩ := id S
  have in_kM : ∀ w ∈ u_ws R_M T_M 21, w ∈ ws_M_define := fun w h => List.mem_cons_of_mem _ (in0_M w h)
  refine lv_aload_n hx hb d_M_define_0 rfl (lv_at hl 0 rfl) ?_
  refine lv_iconst (v := 0) hx hb d_M_define_1 (by decide) ?_
  refine hp_put S hK hW (87) (by omega) rfl hR.1 rfl in_kM tyok_M nm_M 0 (by decide) (hts _ (List.mem_cons_of_mem _ tq_96)) rfl rfl rfl (Nat.le_of_ble_eq_true rfl) d_M_define_2 (fun H locs hW => ?_)
  obtain ⟨F_1, eF_1⟩ : ∃ z, z = va_up F (87) (.inr (kM, [.int 0, .ref (ad 88), .int (nI tape.length), .ref (ad 89), .ref (ad 90), .ref (ad 91), .ref (ad 92), .int (nI la.length), .int fp, .int me, .int dp, .int (nI stk.length), .ref (ad 93), .ref (ad 94), .int fa, .int ou, .int ki, .int nu, .int be, .ref (ad 95), .int (nI mm.length)])) := ⟨_, rfl⟩
  replace hW : hp_W g z0 N ad F_1 s.heap H locs := by rw [eF_1]; exact hW
  have f_2 : F_1 (87) = .inr (kM, [.int 0, .ref (ad 88), .int (nI tape.length), .ref (ad 89), .ref (ad 90), .ref (ad 91), .ref (ad 92), .int (nI la.length), .int fp, .int me, .int dp, .int (nI stk.length), .ref (ad 93), .ref (ad 94), .int fa, .int ou, .int ki, .int nu, .int be, .ref (ad 95), .int (nI mm.length)]) := by rw [eF_1, va_up_self]
  have f_3 : F_1 (88) = .inl (g.2 0, 200, .inl tp) := by rw [eF_1, va_up_ne _ _ (by omega)]; exact hR.2.1
  have f_4 : F_1 (89) = .inl (g.2 2, 26, .inl hs) := by rw [eF_1, va_up_ne _ _ (by omega)]; exact hR.2.2.1
  have f_5 : F_1 (90) = .inl (g.2 0, 26, .inl sz) := by rw [eF_1, va_up_ne _ _ (by omega)]; exact hR.2.2.2.1
  have f_6 : F_1 (91) = .inl (g.2 0, 2600, .inl tx) := by rw [eF_1, va_up_ne _ _ (by omega)]; exact hR.2.2.2.2.1
  have f_7 : F_1 (92) = .inl (g.2 0, 301, .inl vl) := by rw [eF_1, va_up_ne _ _ (by omega)]; exact hR.2.2.2.2.2.1
  have f_8 : F_1 (93) = .inl (g.2 0, 28, .inl ey) := by rw [eF_1, va_up_ne _ _ (by omega)]; exact hR.2.2.2.2.2.2.1
  have f_9 : F_1 (94) = .inl (g.2 0, 28, .inl ap) := by rw [eF_1, va_up_ne _ _ (by omega)]; exact hR.2.2.2.2.2.2.2.1
  have f_10 : F_1 (95) = .inl (g.2 0, 204, .inl md) := by rw [eF_1, va_up_ne _ _ (by omega)]; exact hR.2.2.2.2.2.2.2.2
  have hf_11 : mFr F F_1 := fun x hx => by rw [eF_1, va_up_ne _ _ (by omega)]
  refine lv_iload_n hx hb d_M_define_5 rfl (lv_at hl 1 rfl) ?_
  refine lv_if_lt (tgt := 15) hx hb d_M_define_6 (by decide) (fun c_6 => absurd c_6 (show ¬ (((nI k) : Int32) < 0) from nI_pos (by omega))) (fun c_6 => ?_)
  refine lv_iload_n hx hb d_M_define_9 rfl (lv_at hl 1 rfl) ?_
  refine lv_bipush (v := 25) hx hb d_M_define_10 (by decide) ?_
  refine lv_icmp_le (tgt := 18) hx hb d_M_define_12 (by decide) (fun c_12 => ?_) (fun c_12 => absurd (show ((nI k) : Int32) ≤ 25 from nI_le (b := 25) (by omega) (by omega)) c_12)
  refine lv_aload_n hx hb d_M_define_18 rfl (lv_at hl 0 rfl) ?_
  have hSb : mS g ad F_1 tape kn rt la mm stk ap 0 fp me dp fa ou ki nu be := ⟨tp, hs, sz, tx, vl, ey, md, ⟨f_2, f_3, f_4, f_5, f_6, f_7, f_8, f_9, f_10⟩, ⟨htl, htp⟩, hT, ⟨hll, hvl⟩, hKs, hml0, hmd⟩
  refine hp_gov hW (va_runV S (m_begin l g z0 N ad F_1 hN tape kn rt la mm stk ap 0 fp me dp fa ou ki nu be hSb) (cwV 0 hts (tb_V cd_M_begin tq_146 tq_147 tq_148 tq_118) rfl rfl rfl hd_M_begin (rk_ok (by omega) (by omega))) (hp_preV hK hW (by omega) rfl f_2 rfl) rfl rfl hl.1 rfl (lv_room (Nat.le_of_ble_eq_true rfl)) d_M_define_19 ⟨Nat.zero_le _, Nat.zero_le _⟩) (fun F_13 H locs hw hW => ?_)
  obtain ⟨hS1, hg1⟩ := hw
  obtain ⟨tp, hs, sz, tx, vl, ey, md, hR, ⟨htl, htp⟩, hT, ⟨hll, hvl⟩, hKs, hml0, hmd⟩ := id hS1
  refine lv_aload_n hx hb d_M_define_22 rfl (lv_at hl 0 rfl) ?_
  refine lv_iconst (v := 0) hx hb d_M_define_23 (by decide) ?_
  refine hp_put S hK hW (87) (by omega) rfl hR.1 rfl in_kM tyok_M nm_M 20 (by decide) (hts _ (List.mem_cons_of_mem _ tq_116)) rfl rfl rfl (Nat.le_of_ble_eq_true rfl) d_M_define_24 (fun H locs hW => ?_)
  obtain ⟨F_14, eF_14⟩ : ∃ z, z = va_up F_13 (87) (.inr (kM, [.int 0, .ref (ad 88), .int (nI tape.length), .ref (ad 89), .ref (ad 90), .ref (ad 91), .ref (ad 92), .int (nI la.length), .int ((-1)), .int me, .int dp, .int (nI (([] : List Nat)).length), .ref (ad 93), .ref (ad 94), .int 0, .int ou, .int ki, .int nu, .int be, .ref (ad 95), .int 0])) := ⟨_, rfl⟩
  replace hW : hp_W g z0 N ad F_14 s.heap H locs := by rw [eF_14]; exact hW
  have f_15 : F_14 (87) = .inr (kM, [.int 0, .ref (ad 88), .int (nI tape.length), .ref (ad 89), .ref (ad 90), .ref (ad 91), .ref (ad 92), .int (nI la.length), .int ((-1)), .int me, .int dp, .int (nI (([] : List Nat)).length), .ref (ad 93), .ref (ad 94), .int 0, .int ou, .int ki, .int nu, .int be, .ref (ad 95), .int 0]) := by rw [eF_14, va_up_self]
  have f_16 : F_14 (88) = .inl (g.2 0, 200, .inl tp) := by rw [eF_14, va_up_ne _ _ (by omega)]; exact hR.2.1
  have f_17 : F_14 (89) = .inl (g.2 2, 26, .inl hs) := by rw [eF_14, va_up_ne _ _ (by omega)]; exact hR.2.2.1
  have f_18 : F_14 (90) = .inl (g.2 0, 26, .inl sz) := by rw [eF_14, va_up_ne _ _ (by omega)]; exact hR.2.2.2.1
  have f_19 : F_14 (91) = .inl (g.2 0, 2600, .inl tx) := by rw [eF_14, va_up_ne _ _ (by omega)]; exact hR.2.2.2.2.1
  have f_20 : F_14 (92) = .inl (g.2 0, 301, .inl vl) := by rw [eF_14, va_up_ne _ _ (by omega)]; exact hR.2.2.2.2.2.1
  have f_21 : F_14 (93) = .inl (g.2 0, 28, .inl ey) := by rw [eF_14, va_up_ne _ _ (by omega)]; exact hR.2.2.2.2.2.2.1
  have f_22 : F_14 (94) = .inl (g.2 0, 28, .inl (upd ap 0 0)) := by rw [eF_14, va_up_ne _ _ (by omega)]; exact hR.2.2.2.2.2.2.2.1
  have f_23 : F_14 (95) = .inl (g.2 0, 204, .inl md) := by rw [eF_14, va_up_ne _ _ (by omega)]; exact hR.2.2.2.2.2.2.2.2
  have hf_24 : mFr F_13 F_14 := fun x hx => by rw [eF_14, va_up_ne _ _ (by omega)]
  refine lv_iconst (v := 0) hx hb d_M_define_27 (by decide) ?_
  refine lv_istore_n (lv' := [(2, .int 0), (0, .ref (ad 87)), (1, .int (nI k))]) hx hb d_M_define_28 rfl hl (by decide) rfl (fun ls hl => ?_)
  have hS2 : mS g ad F_14 tape kn rt la [] [] (upd ap 0 0) 0 (-1) me dp 0 ou ki nu be := ⟨tp, hs, sz, tx, vl, ey, md, ⟨f_15, f_16, f_17, f_18, f_19, f_20, f_21, f_22, f_23⟩, ⟨htl, htp⟩, hT, ⟨hll, hvl⟩, hKs, Nat.zero_le _, mL_nil _ _⟩
  refine lp_m_define l g z0 N ad hN tape kn rt la (upd ap 0 0) me dp ou (nI k) S hK F tape.length 0 [] ki nu be F_14 (by omega) (by omega) hS2 ((hf_11.tr hg1).tr hf_24) ?_ _ _ ls hW (lv_sub hl [1, 2, 0] rfl)
  intro F' mm' ki' nu' be' H locs ls x2 hS3 hm3 hf3 hW hl
  exact df_end l g z0 N ad F hN tape kn rt la (upd ap 0 0) me dp ou k hk F' mm' ki' nu' be' hS3 hm3 hf3 S hr hlk hK H locs ls hW (lv_sub hl [0, 1] rfl) x2 hl
