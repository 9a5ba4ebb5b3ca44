/-- the desk while it is made: i entities stand -/
def cSt (g : hp_G) (z0 : Nat) (F : Nat → va_E) (i : Nat) : Prop :=
  F 0 = .inr (kD, [.ref (hp_ad z0 1), .ref (hp_ad z0 3), .ref (hp_ad z0 5), .ref (hp_ad z0 7), .null, .int 0, .int 0, .int 0, .int 0]) ∧ F 1 = .inr (kR, [.ref (hp_ad z0 2), .int 0]) ∧ F 2 = .inl (g.2 0, 200, .inl (fun _ => 0)) ∧ F 3 = .inr (kR, [.ref (hp_ad z0 4), .int 0]) ∧ F 4 = .inl (g.2 0, 100, .inl (fun _ => 0)) ∧ F 5 = .inr (kR, [.ref (hp_ad z0 6), .int 0]) ∧ F 6 = .inl (g.2 0, 300, .inl (fun _ => 0)) ∧
  (∃ fe : Nat → Option Nat, F 7 = .inl (g.2 1, 26, .inr (.inr (.inr (.inr fe)))) ∧ ∀ k, k < i → fe k = some (hp_ad z0 (8 + 3 * k))) ∧
  ∀ k, k < i → F (8 + 3 * k) = .inr (kE, [.ref (hp_ad z0 (8 + 3 * k + 1)), .int 0, .int 0]) ∧ F (8 + 3 * k + 1) = .inr (kR, [.ref (hp_ad z0 (8 + 3 * k + 2)), .int 0]) ∧ F (8 + 3 * k + 2) = .inl (g.2 0, 100, .inl (fun _ => 0))
theorem row0 {g : hp_G} {ad : Nat → Nat} {F : Nat → va_E} {r n : Nat} (h1 : F r = .inr (kR, [.ref (ad (r + 1)), .int 0])) (h2 : F (r + 1) = .inl (g.2 0, n, .inl (fun _ => 0))) : vRow g ad F r n [] := ⟨fun _ => 0, h1, h2, Nat.zero_le _, fun i h => absurd h (Nat.not_lt_zero _)⟩

/-! ValueDesk(): its loop -/
set_option maxHeartbeats 400000 in
set_option maxRecDepth 100000 in
theorem lp_D_init {p : Program} {e : Env} {s : State} {m : MethodId} {args : Array Value} {below : List Frame} {meth : Method} {c : Code} (l : Launch) (g : hp_G) (z0 : Nat) (S : CallFix p m c cc_D_init 2 s args ws_D_init R_D) (hr : meth.sig.returnType = none) (hlk : meth.locks = false) (hnm : meth.name = "<init>") (hK : hp_K g s) : ∀ (j i : Nat) (F : Nat → va_E), i ≤ 26 → 27 ≤ i + j → cSt g z0 F i → ∀ (H : Heap) (locs : List Loc) (ls : Array Slot), hp_V g z0 (8 + 3 * i) F s.heap H locs → lv_has ls 2 [(0, .ref (hp_ad z0 0)), (1, .int (nI i))] → W p l e (rc 3 86 3366) s m args below meth c H locs (7 + 3 * i) (632 + 105 * i) (MQ below (va_Qv (fun F' => vSt g (hp_ad z0) F' (fun _ => []) (fun _ => false) (fun _ => false) (-1) 0 0 0 0 0 0 0) (hp_BV g z0 (1 + 86)) (hp_A z0)) args s 86 3366 (hp_A z0)) (F0 m 56 ls []) := by
  obtain ⟨hx, hb, hml, hown, hts⟩ := id S
  have in_kD : ∀ w ∈ u_ws R_D T_D 9, w ∈ ws_D_init := fun w h => List.mem_cons_of_mem _ (in0_D w h)
  have in_kE : ∀ w ∈ u_ws R_E T_E 3, w ∈ ws_D_init := fun w h => List.mem_cons_of_mem _ (in0_E w h)
  have in_kF : ∀ w ∈ u_ws R_F T_F 4, w ∈ ws_D_init := fun w h => List.mem_cons_of_mem _ (in0_F w h)
  intro j
  induction j with
  | zero =>
    intro i F hi hj
    exact absurd hj (by omega)
  | succ j ih =>
    intro i F hi hj hC H locs ls hV hl
    obtain ⟨h0, h1, h2, h3, h4, h5, h6, ⟨fe, h7, h7b⟩, hE⟩ := id hC
    refine lv_iload_n hx hb d_D_init_56 rfl (lv_at hl 1 rfl) ?_
    refine lv_bipush (v := 26) hx hb d_D_init_57 (by decide) ?_
    refine lv_icmp_ge (tgt := 81) hx hb d_D_init_59 (by decide) (fun c_59 => ?_) (fun c_59 => ?_)
    · have c_59i := c_59
      replace c_59 : 26 ≤ i := (nI_leI (a := 26) (b := i) (by omega) (by omega)).mp c_59
      have ei : i = 26 := by omega
      subst ei
      replace hV : hp_V g z0 86 F s.heap H locs := hV
      refine lv_aload_n hx hb d_D_init_81 rfl (lv_at hl 0 rfl) ?_
      refine hp_new (ci := kF) (fs := [.int 0, .int 0, .int 0, .int 0]) S hK hV rfl in_kF tyok_F (hts _ (List.mem_cons_of_mem _ tq_14)) (hts _ (List.mem_cons_of_mem _ tq_15)) (hts _ (List.mem_cons_of_mem _ tq_16)) (fun j hj => by rcases (show j = 0 ∨ j = 1 ∨ j = 2 ∨ j = 3 by omega) with rfl | rfl | rfl | rfl <;> rfl) (by first | (simp only [rc]; omega) | exact Nat.le_of_ble_eq_true rfl) (by first | (simp only [rc]; omega) | exact Nat.le_of_ble_eq_true rfl) d_D_init_82 (fun H hV => ?_)
      obtain ⟨F_1, eF_1⟩ : ∃ z, z = va_up F (86) (.inr (kF, [.int 0, .int 0, .int 0, .int 0])) := ⟨_, rfl⟩
      replace hV : hp_V g z0 (87) F_1 s.heap H locs := by rw [eF_1]; exact hV
      have f_2 : F_1 (0) = .inr (kD, [.ref (hp_ad z0 1), .ref (hp_ad z0 3), .ref (hp_ad z0 5), .ref (hp_ad z0 7), .null, .int 0, .int 0, .int 0, .int 0]) := by rw [eF_1, va_up_ne _ _ (by omega)]; exact h0
      have f_3 : F_1 (86) = .inr (kF, [.int 0, .int 0, .int 0, .int 0]) := by rw [eF_1, va_up_self]
      refine lv_dup hx hb d_D_init_85 rfl ?_
      refine hp_goc (k := 0) (ks := 0) hV (va_runIN S (c_Ref_init l g z0 86 F_1 f_3) ⟨va_cnB 0 hts (tb_in cd_F_init) rfl rfl rfl (hK.2.2.1 _ (List.mem_of_getElem? (i := 1) rfl)) (hts _ (List.mem_cons_of_mem _ tq_16)) hd_F_init.2 (rc_ok (by omega) (by omega)), rfl, (hts _ (List.mem_cons_of_mem _ tq_17))⟩ (hp_preC hK hV) rfl rfl hl.1 rfl (lv_room (Nat.le_of_ble_eq_true rfl)) d_D_init_86 ⟨(by first | (simp only [rc]; omega) | exact Nat.le_of_ble_eq_true rfl), (by first | (simp only [rc]; omega) | exact Nat.le_of_ble_eq_true rfl)⟩) (fun F_4 H locs hw hV => ?_)
      replace hV : hp_V g z0 (87) F_4 s.heap H locs := hV
      have hFe : F_4 = F_1 := hw
      rw [hFe] at hV
      refine hp_putFV S hK hV (0) (by omega) f_2 rfl in_kD tyok_D nm_D 4 (by decide) (hts _ (List.mem_cons_of_mem _ tq_18)) rfl hnm rfl rfl rfl (Nat.le_of_ble_eq_true rfl) d_D_init_89 (fun H locs hV => ?_)
      obtain ⟨F_5, eF_5⟩ : ∃ z, z = va_up F_1 (0) (.inr (kD, [.ref (hp_ad z0 1), .ref (hp_ad z0 3), .ref (hp_ad z0 5), .ref (hp_ad z0 7), .ref (hp_ad z0 86), .int 0, .int 0, .int 0, .int 0])) := ⟨_, rfl⟩
      replace hV : hp_V g z0 (87) F_5 s.heap H locs := by rw [eF_5]; exact hV
      have f_6 : F_5 (0) = .inr (kD, [.ref (hp_ad z0 1), .ref (hp_ad z0 3), .ref (hp_ad z0 5), .ref (hp_ad z0 7), .ref (hp_ad z0 86), .int 0, .int 0, .int 0, .int 0]) := by rw [eF_5, va_up_self]
      have f_7 : F_5 (86) = .inr (kF, [.int 0, .int 0, .int 0, .int 0]) := by rw [eF_5, va_up_ne _ _ (by omega)]; exact f_3
      refine lv_aload_n hx hb d_D_init_92 rfl (lv_at hl 0 rfl) ?_
      refine lv_iconst (v := (-1)) hx hb d_D_init_93 (by decide) ?_
      refine hp_putV S hK hV (0) (by omega) f_6 rfl in_kD tyok_D nm_D 5 (by decide) (hts _ (List.mem_cons_of_mem _ tq_19)) rfl rfl rfl (Nat.le_of_ble_eq_true rfl) d_D_init_94 (fun H locs hV => ?_)
      obtain ⟨F_8, eF_8⟩ : ∃ z, z = va_up F_5 (0) (.inr (kD, [.ref (hp_ad z0 1), .ref (hp_ad z0 3), .ref (hp_ad z0 5), .ref (hp_ad z0 7), .ref (hp_ad z0 86), .int (-1), .int 0, .int 0, .int 0])) := ⟨_, rfl⟩
      replace hV : hp_V g z0 (87) F_8 s.heap H locs := by rw [eF_8]; exact hV
      have f_9 : F_8 (0) = .inr (kD, [.ref (hp_ad z0 1), .ref (hp_ad z0 3), .ref (hp_ad z0 5), .ref (hp_ad z0 7), .ref (hp_ad z0 86), .int (-1), .int 0, .int 0, .int 0]) := by rw [eF_8, va_up_self]
      have f_10 : F_8 (86) = .inr (kF, [.int 0, .int 0, .int 0, .int 0]) := by rw [eF_8, va_up_ne _ _ (by omega)]; exact f_7
      have hfx : ∀ x, x < 86 → x ≠ 0 → F_8 x = F x := fun x hx hy => by rw [eF_8, va_up_ne _ _ (by omega), eF_5, va_up_ne _ _ (by omega), eF_1, va_up_ne _ _ (by omega)]
      have hvS : vSt g (hp_ad z0) F_8 (fun _ => []) (fun _ => false) (fun _ => false) (-1) 0 0 0 0 0 0 0 := by
        refine ⟨f_9, fun j hj => ?_, ⟨fe, (hfx 7 (by omega) (by omega)).trans h7, h7b⟩, fun k hk => (hfx _ (by omega) (by omega)).trans (by have hz := (hE k hk).1; rw [show 8 + 3 * k + 1 = 9 + 3 * k by omega] at hz; exact hz), f_10⟩
        rcases hj with rfl | rfl | rfl | ⟨k, hk, rfl⟩
        · exact row0 ((hfx 1 (by omega) (by omega)).trans h1) ((hfx 2 (by omega) (by omega)).trans h2)
        · exact row0 ((hfx 3 (by omega) (by omega)).trans h3) ((hfx 4 (by omega) (by omega)).trans h4)
        · exact row0 ((hfx 5 (by omega) (by omega)).trans h5) ((hfx 6 (by omega) (by omega)).trans h6)
        · rw [cap_e]
          have hEk := hE k hk
          rw [show 8 + 3 * k + 1 = 9 + 3 * k by omega, show 8 + 3 * k + 2 = 9 + 3 * k + 1 by omega] at hEk
          exact row0 ((hfx _ (by omega) (by omega)).trans hEk.2.1) ((hfx _ (by omega) (by omega)).trans hEk.2.2)
      refine W.cs (cells' := 86) (slots' := 3366) (by omega) (by omega) ?_
      exact hp_retc S hK hV hr hlk d_D_init_97 hvS
    · have c_59i := c_59
      replace c_59 : ¬ 26 ≤ i := fun zz9 => c_59 ((nI_leI (a := 26) (b := i) (by omega) (by omega)).mpr zz9)
      refine lv_aload_n hx hb d_D_init_62 rfl (lv_at hl 0 rfl) ?_
      refine hp_get S hK hV.1 (0) (by omega) rfl h0 rfl in_kD 3 (by decide) (hts _ (List.mem_cons_of_mem _ tq_10)) rfl d_D_init_63 ?_
      refine lv_iload_n hx hb d_D_init_66 rfl (lv_at hl 1 rfl) ?_
      refine hp_new (ci := kE) (fs := [.null, .int 0, .int 0]) S hK hV rfl in_kE tyok_E (hts _ (List.mem_cons_of_mem _ tq_9)) (hts _ (List.mem_cons_of_mem _ tq_11)) (hts _ (List.mem_cons_of_mem _ tq_12)) (fun j hj => by rcases (show j = 0 ∨ j = 1 ∨ j = 2 by omega) with rfl | rfl | rfl <;> rfl) (by first | (simp only [rc]; omega) | exact Nat.le_of_ble_eq_true rfl) (by first | (simp only [rc]; omega) | exact Nat.le_of_ble_eq_true rfl) d_D_init_67 (fun H hV => ?_)
      obtain ⟨F_11, eF_11⟩ : ∃ z, z = va_up F (8 + 3 * i) (.inr (kE, [.null, .int 0, .int 0])) := ⟨_, rfl⟩
      replace hV : hp_V g z0 (8 + 3 * i + 1) F_11 s.heap H locs := by rw [eF_11]; exact hV
      have f_12 : F_11 (0) = .inr (kD, [.ref (hp_ad z0 1), .ref (hp_ad z0 3), .ref (hp_ad z0 5), .ref (hp_ad z0 7), .null, .int 0, .int 0, .int 0, .int 0]) := by rw [eF_11, va_up_ne _ _ (by omega)]; exact h0
      have f_13 : F_11 (7) = .inl (g.2 1, 26, .inr (.inr (.inr (.inr fe)))) := by rw [eF_11, va_up_ne _ _ (by omega)]; exact h7
      have f_14 : F_11 (8 + 3 * i) = .inr (kE, [.null, .int 0, .int 0]) := by rw [eF_11, va_up_self]
      refine lv_dup hx hb d_D_init_70 rfl ?_
      refine hp_goc (k := 2) (ks := 102) hV (va_runIN S (c_Ent_init l g z0 (8 + 3 * i) F_11 f_14) ⟨va_cnB 0 hts (tb_in cd_E_init) rfl rfl rfl (hK.2.2.1 _ (List.mem_of_getElem? (i := 0) rfl)) (hts _ (List.mem_cons_of_mem _ tq_12)) hd_E_init.2 (rc_ok (by omega) (by omega)), rfl, (hts _ (List.mem_cons_of_mem _ tq_13))⟩ (hp_preC hK hV) rfl rfl hl.1 rfl (lv_room (Nat.le_of_ble_eq_true rfl)) d_D_init_71 ⟨(by first | (simp only [rc]; omega) | exact Nat.le_of_ble_eq_true rfl), (by first | (simp only [rc]; omega) | exact Nat.le_of_ble_eq_true rfl)⟩) (fun F_15 H locs hw hV => ?_)
      replace hV : hp_V g z0 (8 + 3 * i + 3) F_15 s.heap H locs := hV
      obtain ⟨hea, heb, hec, hed⟩ := hw
      have f_16 : F_15 (0) = .inr (kD, [.ref (hp_ad z0 1), .ref (hp_ad z0 3), .ref (hp_ad z0 5), .ref (hp_ad z0 7), .null, .int 0, .int 0, .int 0, .int 0]) := (by rw [hed (0) (by omega)]; exact f_12)
      have f_17 : F_15 (7) = .inl (g.2 1, 26, .inr (.inr (.inr (.inr fe)))) := (by rw [hed (7) (by omega)]; exact f_13)
      refine hp_aastV S hK hV 7 (8 + 3 * i) (by omega) (by omega) f_17 hea rfl rfl (vp_in_nI (by omega) (by omega)) d_D_init_74 (fun H locs hV => ?_)
      rw [show (nI i : Int32).toNatClampNeg = i from nI_clamp (by omega)] at hV
      obtain ⟨F_18, eF_18⟩ : ∃ z, z = va_up F_15 (7) (.inl (g.2 1, 26, .inr (.inr (.inr (.inr (va_up fe i (some (hp_ad z0 (8 + 3 * i))))))))) := ⟨_, rfl⟩
      replace hV : hp_V g z0 (8 + 3 * i + 3) F_18 s.heap H locs := by rw [eF_18]; exact hV
      have f_19 : F_18 (0) = .inr (kD, [.ref (hp_ad z0 1), .ref (hp_ad z0 3), .ref (hp_ad z0 5), .ref (hp_ad z0 7), .null, .int 0, .int 0, .int 0, .int 0]) := by rw [eF_18, va_up_ne _ _ (by omega)]; exact f_16
      have f_20 : F_18 (7) = .inl (g.2 1, 26, .inr (.inr (.inr (.inr (va_up fe i (some (hp_ad z0 (8 + 3 * i)))))))) := by rw [eF_18, va_up_self]
      have f_21 : F_18 (8 + 3 * i) = .inr (kE, [.ref (hp_ad z0 (8 + 3 * i + 1)), .int 0, .int 0]) := by rw [eF_18, va_up_ne _ _ (by omega)]; exact hea
      refine lv_iinc (v := (nI (i + 1))) (lv' := [(1, .int (nI (i + 1))), (0, .ref (hp_ad z0 0))]) hx hb d_D_init_75 hl (k := 1) rfl ((nI_succ (i)).symm) (by decide) rfl (fun ls hl => ?_)
      refine lv_goto (tgt := 56) hx hb d_D_init_78 (by decide) ?_
      have hfx : ∀ x, x < 8 + 3 * i → x ≠ 7 → F_18 x = F x := fun x hx hy => by rw [eF_18, va_up_ne _ _ hy, hed x (by omega), eF_11, va_up_ne _ _ (by omega)]
      have hC2 : cSt g z0 F_18 (i + 1) := by
        refine ⟨(hfx 0 (by omega) (by omega)).trans h0, (hfx 1 (by omega) (by omega)).trans h1, (hfx 2 (by omega) (by omega)).trans h2, (hfx 3 (by omega) (by omega)).trans h3, (hfx 4 (by omega) (by omega)).trans h4, (hfx 5 (by omega) (by omega)).trans h5, (hfx 6 (by omega) (by omega)).trans h6, ⟨_, f_20, fun k hk => ?_⟩, fun k hk => ?_⟩
        · rcases Nat.lt_or_ge k i with q | q
          · rw [va_up_ne _ _ (by omega)]; exact h7b k q
          · rw [show k = i by omega, va_up_self]
        · rcases Nat.lt_or_ge k i with q | q
          · rw [hfx _ (by omega) (by omega), hfx _ (by omega) (by omega), hfx _ (by omega) (by omega)]; exact hE k q
          · rw [show k = i by omega, eF_18, va_up_ne _ _ (by omega), va_up_ne _ _ (by omega), va_up_ne _ _ (by omega)]; exact ⟨hea, heb, hec⟩
      refine W.cs (cells' := 7 + 3 * (i + 1)) (slots' := 632 + 105 * (i + 1)) (by omega) (by omega) ?_
      exact ih (i + 1) F_18 (by omega) (by omega) hC2 H locs ls hV (lv_sub hl [1, 0] rfl)

/-! ValueDesk(), at place 0 -/
set_option maxHeartbeats 400000 in
set_option maxRecDepth 100000 in
theorem c_D_init (l : Launch) (g : hp_G) (z0 : Nat) (F : Nat → va_E) (hF : F 0 = .inr (kD, [.null, .null, .null, .null, .null, .int 0, .int 0, .int 0, .int 0])) : hp_Mc l g z0 (1) y_D_init ws_D_init (rc 3 86 3366) [.ref (hp_ad z0 0)] F 86 3366 (fun F' => vSt g (hp_ad z0) F' (fun _ => []) (fun _ => false) (fun _ => false) (-1) 0 0 0 0 0 0 0) := by
  refine hp_enterV (cc := cc_D_init) (maxL := 2) (ret := none) (by decide) rfl (Nat.le_of_ble_eq_true rfl) ?_
  intro p e s m below meth c S hr hlk hnm hK hV ls hl
  have hl : lv_has ls 2 [(0, .ref (hp_ad z0 0))] := hl
  obtain ⟨hx, hb, hml, hown, hts⟩ := id S
  have in_kD : ∀ w ∈ u_ws R_D T_D 9, w ∈ ws_D_init := fun w h => List.mem_cons_of_mem _ (in0_D w h)
  have in_kR : ∀ w ∈ u_ws R_R T_R 2, w ∈ ws_D_init := fun w h => List.mem_cons_of_mem _ (in0_R w h)
  have in_kE : ∀ w ∈ u_ws R_E T_E 3, w ∈ ws_D_init := fun w h => List.mem_cons_of_mem _ (in0_E w h)
  refine lv_aload_n hx hb d_D_init_0 rfl (lv_at hl 0 rfl) ?_
  refine W.objInit hx hb hown (hts _ (List.mem_cons_of_mem _ tq_0)) (hts _ (List.mem_cons_of_mem _ tq_oi)) (hts _ (List.mem_cons_of_mem _ tq_oc)) rfl (by rw [hml]; exact hl.1) rfl d_D_init_1 (by simp only [rc]; omega) (by show 2 * 0 + 0 + 12 ≤ _; simp only [rc]; omega) ?_
  refine W.eq (g2 := F0 m 4 ls []) rfl ?_
  refine lv_aload_n hx hb d_D_init_4 rfl (lv_at hl 0 rfl) ?_
  refine hp_new (ci := kR) (fs := [.null, .int 0]) S hK hV rfl in_kR tyok_R (hts _ (List.mem_cons_of_mem _ tq_1)) (hts _ (List.mem_cons_of_mem _ tq_2)) (hts _ (List.mem_cons_of_mem _ tq_3)) (fun j hj => by rcases (show j = 0 ∨ j = 1 by omega) with rfl | rfl <;> rfl) (by first | (simp only [rc]; omega) | exact Nat.le_of_ble_eq_true rfl) (by first | (simp only [rc]; omega) | exact Nat.le_of_ble_eq_true rfl) d_D_init_5 (fun H hV => ?_)
  obtain ⟨F_1, eF_1⟩ : ∃ z, z = va_up F (1) (.inr (kR, [.null, .int 0])) := ⟨_, rfl⟩
  replace hV : hp_V g z0 (2) F_1 s.heap H [] := by rw [eF_1]; exact hV
  have f_2 : F_1 (0) = .inr (kD, [.null, .null, .null, .null, .null, .int 0, .int 0, .int 0, .int 0]) := by rw [eF_1, va_up_ne _ _ (by omega)]; exact hF
  have f_3 : F_1 (1) = .inr (kR, [.null, .int 0]) := by rw [eF_1, va_up_self]
  refine lv_dup hx hb d_D_init_8 rfl ?_
  refine lv_sipush (v := 200) hx hb d_D_init_9 (by decide) ?_
  refine hp_goc (k := 1) (ks := 200) hV (va_runI S (c_Row_init l g z0 1 200 (by omega) F_1 f_3) (cwI 1 hts (tb_in cd_R_init) rfl rfl rfl (hts _ (List.mem_cons_of_mem _ tq_3)) (hts _ (List.mem_cons_of_mem _ tq_4)) (hts _ (List.mem_cons_of_mem _ tq_5)) rfl hd_R_init.2 (rc_ok (by omega) (by omega))) (hp_preC hK hV) rfl rfl hl.1 rfl (lv_room (Nat.le_of_ble_eq_true rfl)) d_D_init_12 ⟨(by first | (simp only [rc]; omega) | exact Nat.le_of_ble_eq_true rfl), (by first | (simp only [rc]; omega) | exact Nat.le_of_ble_eq_true rfl)⟩) (fun F_4 H locs hw hV => ?_)
  replace hV : hp_V g z0 (3) F_4 s.heap H locs := hV
  obtain ⟨hw_5a, hw_5b, hw_5c⟩ := hw
  have f_6 : F_4 (0) = .inr (kD, [.null, .null, .null, .null, .null, .int 0, .int 0, .int 0, .int 0]) := (by rw [hw_5c (0) (by omega)]; exact f_2)
  refine hp_putFV S hK hV (0) (by omega) f_6 rfl in_kD tyok_D nm_D 0 (by decide) (hts _ (List.mem_cons_of_mem _ tq_6)) rfl hnm rfl rfl rfl (Nat.le_of_ble_eq_true rfl) d_D_init_15 (fun H locs hV => ?_)
  obtain ⟨F_7, eF_7⟩ : ∃ z, z = va_up F_4 (0) (.inr (kD, [.ref (hp_ad z0 1), .null, .null, .null, .null, .int 0, .int 0, .int 0, .int 0])) := ⟨_, rfl⟩
  replace hV : hp_V g z0 (3) F_7 s.heap H locs := by rw [eF_7]; exact hV
  have f_8 : F_7 (0) = .inr (kD, [.ref (hp_ad z0 1), .null, .null, .null, .null, .int 0, .int 0, .int 0, .int 0]) := by rw [eF_7, va_up_self]
  have f_9 : F_7 (1) = .inr (kR, [.ref (hp_ad z0 2), .int 0]) := by rw [eF_7, va_up_ne _ _ (by omega)]; exact hw_5a
  have f_10 : F_7 (2) = .inl (g.2 0, 200, .inl (fun _ => 0)) := by rw [eF_7, va_up_ne _ _ (by omega)]; exact hw_5b
  refine lv_aload_n hx hb d_D_init_18 rfl (lv_at hl 0 rfl) ?_
  refine hp_new (ci := kR) (fs := [.null, .int 0]) S hK hV rfl in_kR tyok_R (hts _ (List.mem_cons_of_mem _ tq_1)) (hts _ (List.mem_cons_of_mem _ tq_2)) (hts _ (List.mem_cons_of_mem _ tq_3)) (fun j hj => by rcases (show j = 0 ∨ j = 1 by omega) with rfl | rfl <;> rfl) (by first | (simp only [rc]; omega) | exact Nat.le_of_ble_eq_true rfl) (by first | (simp only [rc]; omega) | exact Nat.le_of_ble_eq_true rfl) d_D_init_19 (fun H hV => ?_)
  obtain ⟨F_11, eF_11⟩ : ∃ z, z = va_up F_7 (3) (.inr (kR, [.null, .int 0])) := ⟨_, rfl⟩
  replace hV : hp_V g z0 (4) F_11 s.heap H locs := by rw [eF_11]; exact hV
  have f_12 : F_11 (0) = .inr (kD, [.ref (hp_ad z0 1), .null, .null, .null, .null, .int 0, .int 0, .int 0, .int 0]) := by rw [eF_11, va_up_ne _ _ (by omega)]; exact f_8
  have f_13 : F_11 (1) = .inr (kR, [.ref (hp_ad z0 2), .int 0]) := by rw [eF_11, va_up_ne _ _ (by omega)]; exact f_9
  have f_14 : F_11 (2) = .inl (g.2 0, 200, .inl (fun _ => 0)) := by rw [eF_11, va_up_ne _ _ (by omega)]; exact f_10
  have f_15 : F_11 (3) = .inr (kR, [.null, .int 0]) := by rw [eF_11, va_up_self]
  refine lv_dup hx hb d_D_init_22 rfl ?_
  refine lv_bipush (v := 100) hx hb d_D_init_23 (by decide) ?_
  refine hp_goc (k := 1) (ks := 100) hV (va_runI S (c_Row_init l g z0 3 100 (by omega) F_11 f_15) (cwI 1 hts (tb_in cd_R_init) rfl rfl rfl (hts _ (List.mem_cons_of_mem _ tq_3)) (hts _ (List.mem_cons_of_mem _ tq_4)) (hts _ (List.mem_cons_of_mem _ tq_5)) rfl hd_R_init.2 (rc_ok (by omega) (by omega))) (hp_preC hK hV) rfl rfl hl.1 rfl (lv_room (Nat.le_of_ble_eq_true rfl)) d_D_init_25 ⟨(by first | (simp only [rc]; omega) | exact Nat.le_of_ble_eq_true rfl), (by first | (simp only [rc]; omega) | exact Nat.le_of_ble_eq_true rfl)⟩) (fun F_16 H locs hw hV => ?_)
  replace hV : hp_V g z0 (5) F_16 s.heap H locs := hV
  obtain ⟨hw_17a, hw_17b, hw_17c⟩ := hw
  have f_18 : F_16 (0) = .inr (kD, [.ref (hp_ad z0 1), .null, .null, .null, .null, .int 0, .int 0, .int 0, .int 0]) := (by rw [hw_17c (0) (by omega)]; exact f_12)
  have f_19 : F_16 (1) = .inr (kR, [.ref (hp_ad z0 2), .int 0]) := (by rw [hw_17c (1) (by omega)]; exact f_13)
  have f_20 : F_16 (2) = .inl (g.2 0, 200, .inl (fun _ => 0)) := (by rw [hw_17c (2) (by omega)]; exact f_14)
  refine hp_putFV S hK hV (0) (by omega) f_18 rfl in_kD tyok_D nm_D 1 (by decide) (hts _ (List.mem_cons_of_mem _ tq_7)) rfl hnm rfl rfl rfl (Nat.le_of_ble_eq_true rfl) d_D_init_28 (fun H locs hV => ?_)
  obtain ⟨F_21, eF_21⟩ : ∃ z, z = va_up F_16 (0) (.inr (kD, [.ref (hp_ad z0 1), .ref (hp_ad z0 3), .null, .null, .null, .int 0, .int 0, .int 0, .int 0])) := ⟨_, rfl⟩
  replace hV : hp_V g z0 (5) F_21 s.heap H locs := by rw [eF_21]; exact hV
  have f_22 : F_21 (0) = .inr (kD, [.ref (hp_ad z0 1), .ref (hp_ad z0 3), .null, .null, .null, .int 0, .int 0, .int 0, .int 0]) := by rw [eF_21, va_up_self]
  have f_23 : F_21 (1) = .inr (kR, [.ref (hp_ad z0 2), .int 0]) := by rw [eF_21, va_up_ne _ _ (by omega)]; exact f_19
  have f_24 : F_21 (2) = .inl (g.2 0, 200, .inl (fun _ => 0)) := by rw [eF_21, va_up_ne _ _ (by omega)]; exact f_20
  have f_25 : F_21 (3) = .inr (kR, [.ref (hp_ad z0 4), .int 0]) := by rw [eF_21, va_up_ne _ _ (by omega)]; exact hw_17a
  have f_26 : F_21 (4) = .inl (g.2 0, 100, .inl (fun _ => 0)) := by rw [eF_21, va_up_ne _ _ (by omega)]; exact hw_17b
  refine lv_aload_n hx hb d_D_init_31 rfl (lv_at hl 0 rfl) ?_
  refine hp_new (ci := kR) (fs := [.null, .int 0]) S hK hV rfl in_kR tyok_R (hts _ (List.mem_cons_of_mem _ tq_1)) (hts _ (List.mem_cons_of_mem _ tq_2)) (hts _ (List.mem_cons_of_mem _ tq_3)) (fun j hj => by rcases (show j = 0 ∨ j = 1 by omega) with rfl | rfl <;> rfl) (by first | (simp only [rc]; omega) | exact Nat.le_of_ble_eq_true rfl) (by first | (simp only [rc]; omega) | exact Nat.le_of_ble_eq_true rfl) d_D_init_32 (fun H hV => ?_)
  obtain ⟨F_27, eF_27⟩ : ∃ z, z = va_up F_21 (5) (.inr (kR, [.null, .int 0])) := ⟨_, rfl⟩
  replace hV : hp_V g z0 (6) F_27 s.heap H locs := by rw [eF_27]; exact hV
  have f_28 : F_27 (0) = .inr (kD, [.ref (hp_ad z0 1), .ref (hp_ad z0 3), .null, .null, .null, .int 0, .int 0, .int 0, .int 0]) := by rw [eF_27, va_up_ne _ _ (by omega)]; exact f_22
  have f_29 : F_27 (1) = .inr (kR, [.ref (hp_ad z0 2), .int 0]) := by rw [eF_27, va_up_ne _ _ (by omega)]; exact f_23
  have f_30 : F_27 (2) = .inl (g.2 0, 200, .inl (fun _ => 0)) := by rw [eF_27, va_up_ne _ _ (by omega)]; exact f_24
  have f_31 : F_27 (3) = .inr (kR, [.ref (hp_ad z0 4), .int 0]) := by rw [eF_27, va_up_ne _ _ (by omega)]; exact f_25
  have f_32 : F_27 (4) = .inl (g.2 0, 100, .inl (fun _ => 0)) := by rw [eF_27, va_up_ne _ _ (by omega)]; exact f_26
  have f_33 : F_27 (5) = .inr (kR, [.null, .int 0]) := by rw [eF_27, va_up_self]
  refine lv_dup hx hb d_D_init_35 rfl ?_
  refine lv_sipush (v := 300) hx hb d_D_init_36 (by decide) ?_
  refine hp_goc (k := 1) (ks := 300) hV (va_runI S (c_Row_init l g z0 5 300 (by omega) F_27 f_33) (cwI 1 hts (tb_in cd_R_init) rfl rfl rfl (hts _ (List.mem_cons_of_mem _ tq_3)) (hts _ (List.mem_cons_of_mem _ tq_4)) (hts _ (List.mem_cons_of_mem _ tq_5)) rfl hd_R_init.2 (rc_ok (by omega) (by omega))) (hp_preC hK hV) rfl rfl hl.1 rfl (lv_room (Nat.le_of_ble_eq_true rfl)) d_D_init_39 ⟨(by first | (simp only [rc]; omega) | exact Nat.le_of_ble_eq_true rfl), (by first | (simp only [rc]; omega) | exact Nat.le_of_ble_eq_true rfl)⟩) (fun F_34 H locs hw hV => ?_)
  replace hV : hp_V g z0 (7) F_34 s.heap H locs := hV
  obtain ⟨hw_35a, hw_35b, hw_35c⟩ := hw
  have f_36 : F_34 (0) = .inr (kD, [.ref (hp_ad z0 1), .ref (hp_ad z0 3), .null, .null, .null, .int 0, .int 0, .int 0, .int 0]) := (by rw [hw_35c (0) (by omega)]; exact f_28)
  have f_37 : F_34 (1) = .inr (kR, [.ref (hp_ad z0 2), .int 0]) := (by rw [hw_35c (1) (by omega)]; exact f_29)
  have f_38 : F_34 (2) = .inl (g.2 0, 200, .inl (fun _ => 0)) := (by rw [hw_35c (2) (by omega)]; exact f_30)
  have f_39 : F_34 (3) = .inr (kR, [.ref (hp_ad z0 4), .int 0]) := (by rw [hw_35c (3) (by omega)]; exact f_31)
  have f_40 : F_34 (4) = .inl (g.2 0, 100, .inl (fun _ => 0)) := (by rw [hw_35c (4) (by omega)]; exact f_32)
  refine hp_putFV S hK hV (0) (by omega) f_36 rfl in_kD tyok_D nm_D 2 (by decide) (hts _ (List.mem_cons_of_mem _ tq_8)) rfl hnm rfl rfl rfl (Nat.le_of_ble_eq_true rfl) d_D_init_42 (fun H locs hV => ?_)
  obtain ⟨F_41, eF_41⟩ : ∃ z, z = va_up F_34 (0) (.inr (kD, [.ref (hp_ad z0 1), .ref (hp_ad z0 3), .ref (hp_ad z0 5), .null, .null, .int 0, .int 0, .int 0, .int 0])) := ⟨_, rfl⟩
  replace hV : hp_V g z0 (7) F_41 s.heap H locs := by rw [eF_41]; exact hV
  have f_42 : F_41 (0) = .inr (kD, [.ref (hp_ad z0 1), .ref (hp_ad z0 3), .ref (hp_ad z0 5), .null, .null, .int 0, .int 0, .int 0, .int 0]) := by rw [eF_41, va_up_self]
  have f_43 : F_41 (1) = .inr (kR, [.ref (hp_ad z0 2), .int 0]) := by rw [eF_41, va_up_ne _ _ (by omega)]; exact f_37
  have f_44 : F_41 (2) = .inl (g.2 0, 200, .inl (fun _ => 0)) := by rw [eF_41, va_up_ne _ _ (by omega)]; exact f_38
  have f_45 : F_41 (3) = .inr (kR, [.ref (hp_ad z0 4), .int 0]) := by rw [eF_41, va_up_ne _ _ (by omega)]; exact f_39
  have f_46 : F_41 (4) = .inl (g.2 0, 100, .inl (fun _ => 0)) := by rw [eF_41, va_up_ne _ _ (by omega)]; exact f_40
  have f_47 : F_41 (5) = .inr (kR, [.ref (hp_ad z0 6), .int 0]) := by rw [eF_41, va_up_ne _ _ (by omega)]; exact hw_35a
  have f_48 : F_41 (6) = .inl (g.2 0, 300, .inl (fun _ => 0)) := by rw [eF_41, va_up_ne _ _ (by omega)]; exact hw_35b
  refine lv_aload_n hx hb d_D_init_45 rfl (lv_at hl 0 rfl) ?_
  refine lv_bipush (v := 26) hx hb d_D_init_46 (by decide) ?_
  refine hp_newq (N' := 26) S hK hV rfl (hts _ (List.mem_cons_of_mem _ tq_9)) (va_AO.use hK.2.2.2) (show ¬ (26 : Int32) < 0 from by decide) (show (26 : Int32).toNatClampNeg = 26 from by decide) (by omega) (by first | (simp only [rc]; omega) | exact Nat.le_of_ble_eq_true rfl) (by first | (simp only [rc]; omega) | exact Nat.le_of_ble_eq_true rfl) d_D_init_48 (fun H hV => ?_)
  obtain ⟨F_49, eF_49⟩ : ∃ z, z = va_up F_41 (7) (.inl (g.2 1, 26, .inr (.inr (.inr (.inr (fun _ => none)))))) := ⟨_, rfl⟩
  replace hV : hp_V g z0 (8) F_49 s.heap H locs := by rw [eF_49]; exact hV
  have f_50 : F_49 (0) = .inr (kD, [.ref (hp_ad z0 1), .ref (hp_ad z0 3), .ref (hp_ad z0 5), .null, .null, .int 0, .int 0, .int 0, .int 0]) := by rw [eF_49, va_up_ne _ _ (by omega)]; exact f_42
  have f_51 : F_49 (1) = .inr (kR, [.ref (hp_ad z0 2), .int 0]) := by rw [eF_49, va_up_ne _ _ (by omega)]; exact f_43
  have f_52 : F_49 (2) = .inl (g.2 0, 200, .inl (fun _ => 0)) := by rw [eF_49, va_up_ne _ _ (by omega)]; exact f_44
  have f_53 : F_49 (3) = .inr (kR, [.ref (hp_ad z0 4), .int 0]) := by rw [eF_49, va_up_ne _ _ (by omega)]; exact f_45
  have f_54 : F_49 (4) = .inl (g.2 0, 100, .inl (fun _ => 0)) := by rw [eF_49, va_up_ne _ _ (by omega)]; exact f_46
  have f_55 : F_49 (5) = .inr (kR, [.ref (hp_ad z0 6), .int 0]) := by rw [eF_49, va_up_ne _ _ (by omega)]; exact f_47
  have f_56 : F_49 (6) = .inl (g.2 0, 300, .inl (fun _ => 0)) := by rw [eF_49, va_up_ne _ _ (by omega)]; exact f_48
  have f_57 : F_49 (7) = .inl (g.2 1, 26, .inr (.inr (.inr (.inr (fun _ => none))))) := by rw [eF_49, va_up_self]
  refine hp_putFV S hK hV (0) (by omega) f_50 rfl in_kD tyok_D nm_D 3 (by decide) (hts _ (List.mem_cons_of_mem _ tq_10)) rfl hnm rfl rfl rfl (Nat.le_of_ble_eq_true rfl) d_D_init_51 (fun H locs hV => ?_)
  obtain ⟨F_58, eF_58⟩ : ∃ z, z = va_up F_49 (0) (.inr (kD, [.ref (hp_ad z0 1), .ref (hp_ad z0 3), .ref (hp_ad z0 5), .ref (hp_ad z0 7), .null, .int 0, .int 0, .int 0, .int 0])) := ⟨_, rfl⟩
  replace hV : hp_V g z0 (8) F_58 s.heap H locs := by rw [eF_58]; exact hV
  have f_59 : F_58 (0) = .inr (kD, [.ref (hp_ad z0 1), .ref (hp_ad z0 3), .ref (hp_ad z0 5), .ref (hp_ad z0 7), .null, .int 0, .int 0, .int 0, .int 0]) := by rw [eF_58, va_up_self]
  have f_60 : F_58 (1) = .inr (kR, [.ref (hp_ad z0 2), .int 0]) := by rw [eF_58, va_up_ne _ _ (by omega)]; exact f_51
  have f_61 : F_58 (2) = .inl (g.2 0, 200, .inl (fun _ => 0)) := by rw [eF_58, va_up_ne _ _ (by omega)]; exact f_52
  have f_62 : F_58 (3) = .inr (kR, [.ref (hp_ad z0 4), .int 0]) := by rw [eF_58, va_up_ne _ _ (by omega)]; exact f_53
  have f_63 : F_58 (4) = .inl (g.2 0, 100, .inl (fun _ => 0)) := by rw [eF_58, va_up_ne _ _ (by omega)]; exact f_54
  have f_64 : F_58 (5) = .inr (kR, [.ref (hp_ad z0 6), .int 0]) := by rw [eF_58, va_up_ne _ _ (by omega)]; exact f_55
  have f_65 : F_58 (6) = .inl (g.2 0, 300, .inl (fun _ => 0)) := by rw [eF_58, va_up_ne _ _ (by omega)]; exact f_56
  have f_66 : F_58 (7) = .inl (g.2 1, 26, .inr (.inr (.inr (.inr (fun _ => none))))) := by rw [eF_58, va_up_ne _ _ (by omega)]; exact f_57
  refine lv_iconst (v := 0) hx hb d_D_init_54 (by decide) ?_
  refine lv_istore_n (lv' := [(1, .int 0), (0, .ref (hp_ad z0 0))]) hx hb d_D_init_55 rfl hl (by decide) rfl (fun ls hl => ?_)
  have hC : cSt g z0 F_58 0 := ⟨f_59, f_60, f_61, f_62, f_63, f_64, f_65, ⟨_, f_66, fun k hk => absurd hk (Nat.not_lt_zero _)⟩, fun k hk => absurd hk (Nat.not_lt_zero _)⟩
  refine W.cs (cells' := 7 + 3 * 0) (slots' := 632 + 105 * 0) (by omega) (by omega) ?_
  exact lp_D_init l g z0 S hr hlk hnm hK 27 0 F_58 (by omega) (by omega) hC H locs ls hV (lv_sub hl [1, 0] rfl)

/-! ValueDeskModel(), at place 87 -/
set_option maxHeartbeats 400000 in
set_option maxRecDepth 100000 in
theorem m_init (l : Launch) (g : hp_G) (z0 : Nat) (F : Nat → va_E) (hF : F 87 = .inr (kM, [.int 0, .null, .int 0, .null, .null, .null, .null, .int 0, .int 0, .int 0, .int 0, .int 0, .null, .null, .int 0, .int 0, .int 0, .int 0, .int 0, .null, .int 0])) : hp_Mc l g z0 (88) y_M_init ws_M_init (rc 1 8 3413) [.ref (hp_ad z0 87)] F 8 3413 (fun F' => mS g (hp_ad z0) F' [] (fun _ => false) (fun _ => []) [] [] [] (fun _ => 0) 0 (-1) 0 0 0 0 0 0 0 ∧ mFr F F') := by
  refine hp_enterV (cc := cc_M_init) (maxL := 1) (ret := none) (by decide) rfl (Nat.le_of_ble_eq_true rfl) ?_
  intro p e s m below meth c S hr hlk hnm hK hV ls hl
  have hl : lv_has ls 1 [(0, .ref (hp_ad z0 87))] := hl
  obtain ⟨hx, hb, hml, hown, hts⟩ := id S
  have in_kM : ∀ w ∈ u_ws R_M T_M 21, w ∈ ws_M_init := fun w h => List.mem_cons_of_mem _ (in0_M w h)
  refine lv_aload_n hx hb d_M_init_0 rfl (lv_at hl 0 rfl) ?_
  refine W.objInit hx hb hown (hts _ (List.mem_cons_of_mem _ tq_95)) (hts _ (List.mem_cons_of_mem _ tq_oi)) (hts _ (List.mem_cons_of_mem _ tq_oc)) rfl (by rw [hml]; exact hl.1) rfl d_M_init_1 (by simp only [rc]; omega) (by show 2 * 0 + 0 + 12 ≤ _; simp only [rc]; omega) ?_
  refine W.eq (g2 := F0 m 4 ls []) rfl ?_
  refine lv_aload_n hx hb d_M_init_4 rfl (lv_at hl 0 rfl) ?_
  refine lv_iconst (v := 0) hx hb d_M_init_5 (by decide) ?_
  refine hp_putV S hK hV (87) (by omega) hF rfl in_kM tyok_M nm_M 0 (by decide) (hts _ (List.mem_cons_of_mem _ tq_96)) rfl rfl rfl (Nat.le_of_ble_eq_true rfl) d_M_init_6 (fun H locs hV => ?_)
  obtain ⟨F_1, eF_1⟩ : ∃ z, z = va_up F (87) (.inr (kM, [.int 0, .null, .int 0, .null, .null, .null, .null, .int 0, .int 0, .int 0, .int 0, .int 0, .null, .null, .int 0, .int 0, .int 0, .int 0, .int 0, .null, .int 0])) := ⟨_, rfl⟩
  replace hV : hp_V g z0 (88) F_1 s.heap H locs := by rw [eF_1]; exact hV
  have f_2 : F_1 (87) = .inr (kM, [.int 0, .null, .int 0, .null, .null, .null, .null, .int 0, .int 0, .int 0, .int 0, .int 0, .null, .null, .int 0, .int 0, .int 0, .int 0, .int 0, .null, .int 0]) := by rw [eF_1, va_up_self]
  refine lv_aload_n hx hb d_M_init_9 rfl (lv_at hl 0 rfl) ?_
  refine lv_sipush (v := 200) hx hb d_M_init_10 (by decide) ?_
  refine hp_newi (N' := 200) S hK hV (hts _ (List.mem_cons_of_mem _ tq_ai)) (show ¬ (200 : Int32) < 0 from by decide) (show (200 : Int32).toNatClampNeg = 200 from by decide) (by omega) (by first | (simp only [rc]; omega) | exact Nat.le_of_ble_eq_true rfl) (by first | (simp only [rc]; omega) | exact Nat.le_of_ble_eq_true rfl) d_M_init_13 (fun H hV => ?_)
  obtain ⟨F_3, eF_3⟩ : ∃ z, z = va_up F_1 (88) (.inl (g.2 0, 200, .inl (fun _ => 0))) := ⟨_, rfl⟩
  replace hV : hp_V g z0 (89) F_3 s.heap H locs := by rw [eF_3]; exact hV
  have f_4 : F_3 (87) = .inr (kM, [.int 0, .null, .int 0, .null, .null, .null, .null, .int 0, .int 0, .int 0, .int 0, .int 0, .null, .null, .int 0, .int 0, .int 0, .int 0, .int 0, .null, .int 0]) := by rw [eF_3, va_up_ne _ _ (by omega)]; exact f_2
  have f_5 : F_3 (88) = .inl (g.2 0, 200, .inl (fun _ => 0)) := by rw [eF_3, va_up_self]
  refine hp_putFV S hK hV (87) (by omega) f_4 rfl in_kM tyok_M nm_M 1 (by decide) (hts _ (List.mem_cons_of_mem _ tq_97)) rfl hnm rfl rfl rfl (Nat.le_of_ble_eq_true rfl) d_M_init_15 (fun H locs hV => ?_)
  obtain ⟨F_6, eF_6⟩ : ∃ z, z = va_up F_3 (87) (.inr (kM, [.int 0, .ref (hp_ad z0 88), .int 0, .null, .null, .null, .null, .int 0, .int 0, .int 0, .int 0, .int 0, .null, .null, .int 0, .int 0, .int 0, .int 0, .int 0, .null, .int 0])) := ⟨_, rfl⟩
  replace hV : hp_V g z0 (89) F_6 s.heap H locs := by rw [eF_6]; exact hV
  have f_7 : F_6 (87) = .inr (kM, [.int 0, .ref (hp_ad z0 88), .int 0, .null, .null, .null, .null, .int 0, .int 0, .int 0, .int 0, .int 0, .null, .null, .int 0, .int 0, .int 0, .int 0, .int 0, .null, .int 0]) := by rw [eF_6, va_up_self]
  have f_8 : F_6 (88) = .inl (g.2 0, 200, .inl (fun _ => 0)) := by rw [eF_6, va_up_ne _ _ (by omega)]; exact f_5
  refine lv_aload_n hx hb d_M_init_18 rfl (lv_at hl 0 rfl) ?_
  refine lv_iconst (v := 0) hx hb d_M_init_19 (by decide) ?_
  refine hp_putV S hK hV (87) (by omega) f_7 rfl in_kM tyok_M nm_M 2 (by decide) (hts _ (List.mem_cons_of_mem _ tq_98)) rfl rfl rfl (Nat.le_of_ble_eq_true rfl) d_M_init_20 (fun H locs hV => ?_)
  obtain ⟨F_9, eF_9⟩ : ∃ z, z = va_up F_6 (87) (.inr (kM, [.int 0, .ref (hp_ad z0 88), .int 0, .null, .null, .null, .null, .int 0, .int 0, .int 0, .int 0, .int 0, .null, .null, .int 0, .int 0, .int 0, .int 0, .int 0, .null, .int 0])) := ⟨_, rfl⟩
  replace hV : hp_V g z0 (89) F_9 s.heap H locs := by rw [eF_9]; exact hV
  have f_10 : F_9 (87) = .inr (kM, [.int 0, .ref (hp_ad z0 88), .int 0, .null, .null, .null, .null, .int 0, .int 0, .int 0, .int 0, .int 0, .null, .null, .int 0, .int 0, .int 0, .int 0, .int 0, .null, .int 0]) := by rw [eF_9, va_up_self]
  have f_11 : F_9 (88) = .inl (g.2 0, 200, .inl (fun _ => 0)) := by rw [eF_9, va_up_ne _ _ (by omega)]; exact f_8
  refine lv_aload_n hx hb d_M_init_23 rfl (lv_at hl 0 rfl) ?_
  refine lv_bipush (v := 26) hx hb d_M_init_24 (by decide) ?_
  refine hp_newz (N' := 26) S hK hV (hts _ (List.mem_cons_of_mem _ tq_az)) (show ¬ (26 : Int32) < 0 from by decide) (show (26 : Int32).toNatClampNeg = 26 from by decide) (by omega) (by first | (simp only [rc]; omega) | exact Nat.le_of_ble_eq_true rfl) (by first | (simp only [rc]; omega) | exact Nat.le_of_ble_eq_true rfl) d_M_init_26 (fun H hV => ?_)
  obtain ⟨F_12, eF_12⟩ : ∃ z, z = va_up F_9 (89) (.inl (g.2 2, 26, .inl (fun _ => 0))) := ⟨_, rfl⟩
  replace hV : hp_V g z0 (90) F_12 s.heap H locs := by rw [eF_12]; exact hV
  have f_13 : F_12 (87) = .inr (kM, [.int 0, .ref (hp_ad z0 88), .int 0, .null, .null, .null, .null, .int 0, .int 0, .int 0, .int 0, .int 0, .null, .null, .int 0, .int 0, .int 0, .int 0, .int 0, .null, .int 0]) := by rw [eF_12, va_up_ne _ _ (by omega)]; exact f_10
  have f_14 : F_12 (88) = .inl (g.2 0, 200, .inl (fun _ => 0)) := by rw [eF_12, va_up_ne _ _ (by omega)]; exact f_11
  have f_15 : F_12 (89) = .inl (g.2 2, 26, .inl (fun _ => 0)) := by rw [eF_12, va_up_self]
  refine hp_putFV S hK hV (87) (by omega) f_13 rfl in_kM tyok_M nm_M 3 (by decide) (hts _ (List.mem_cons_of_mem _ tq_99)) rfl hnm rfl rfl rfl (Nat.le_of_ble_eq_true rfl) d_M_init_28 (fun H locs hV => ?_)
  obtain ⟨F_16, eF_16⟩ : ∃ z, z = va_up F_12 (87) (.inr (kM, [.int 0, .ref (hp_ad z0 88), .int 0, .ref (hp_ad z0 89), .null, .null, .null, .int 0, .int 0, .int 0, .int 0, .int 0, .null, .null, .int 0, .int 0, .int 0, .int 0, .int 0, .null, .int 0])) := ⟨_, rfl⟩
  replace hV : hp_V g z0 (90) F_16 s.heap H locs := by rw [eF_16]; exact hV
  have f_17 : F_16 (87) = .inr (kM, [.int 0, .ref (hp_ad z0 88), .int 0, .ref (hp_ad z0 89), .null, .null, .null, .int 0, .int 0, .int 0, .int 0, .int 0, .null, .null, .int 0, .int 0, .int 0, .int 0, .int 0, .null, .int 0]) := by rw [eF_16, va_up_self]
  have f_18 : F_16 (88) = .inl (g.2 0, 200, .inl (fun _ => 0)) := by rw [eF_16, va_up_ne _ _ (by omega)]; exact f_14
  have f_19 : F_16 (89) = .inl (g.2 2, 26, .inl (fun _ => 0)) := by rw [eF_16, va_up_ne _ _ (by omega)]; exact f_15
  refine lv_aload_n hx hb d_M_init_31 rfl (lv_at hl 0 rfl) ?_
  refine lv_bipush (v := 26) hx hb d_M_init_32 (by decide) ?_
  refine hp_newi (N' := 26) S hK hV (hts _ (List.mem_cons_of_mem _ tq_ai)) (show ¬ (26 : Int32) < 0 from by decide) (show (26 : Int32).toNatClampNeg = 26 from by decide) (by omega) (by first | (simp only [rc]; omega) | exact Nat.le_of_ble_eq_true rfl) (by first | (simp only [rc]; omega) | exact Nat.le_of_ble_eq_true rfl) d_M_init_34 (fun H hV => ?_)
  obtain ⟨F_20, eF_20⟩ : ∃ z, z = va_up F_16 (90) (.inl (g.2 0, 26, .inl (fun _ => 0))) := ⟨_, rfl⟩
  replace hV : hp_V g z0 (91) F_20 s.heap H locs := by rw [eF_20]; exact hV
  have f_21 : F_20 (87) = .inr (kM, [.int 0, .ref (hp_ad z0 88), .int 0, .ref (hp_ad z0 89), .null, .null, .null, .int 0, .int 0, .int 0, .int 0, .int 0, .null, .null, .int 0, .int 0, .int 0, .int 0, .int 0, .null, .int 0]) := by rw [eF_20, va_up_ne _ _ (by omega)]; exact f_17
  have f_22 : F_20 (88) = .inl (g.2 0, 200, .inl (fun _ => 0)) := by rw [eF_20, va_up_ne _ _ (by omega)]; exact f_18
  have f_23 : F_20 (89) = .inl (g.2 2, 26, .inl (fun _ => 0)) := by rw [eF_20, va_up_ne _ _ (by omega)]; exact f_19
  have f_24 : F_20 (90) = .inl (g.2 0, 26, .inl (fun _ => 0)) := by rw [eF_20, va_up_self]
  refine hp_putFV S hK hV (87) (by omega) f_21 rfl in_kM tyok_M nm_M 4 (by decide) (hts _ (List.mem_cons_of_mem _ tq_100)) rfl hnm rfl rfl rfl (Nat.le_of_ble_eq_true rfl) d_M_init_36 (fun H locs hV => ?_)
  obtain ⟨F_25, eF_25⟩ : ∃ z, z = va_up F_20 (87) (.inr (kM, [.int 0, .ref (hp_ad z0 88), .int 0, .ref (hp_ad z0 89), .ref (hp_ad z0 90), .null, .null, .int 0, .int 0, .int 0, .int 0, .int 0, .null, .null, .int 0, .int 0, .int 0, .int 0, .int 0, .null, .int 0])) := ⟨_, rfl⟩
  replace hV : hp_V g z0 (91) F_25 s.heap H locs := by rw [eF_25]; exact hV
  have f_26 : F_25 (87) = .inr (kM, [.int 0, .ref (hp_ad z0 88), .int 0, .ref (hp_ad z0 89), .ref (hp_ad z0 90), .null, .null, .int 0, .int 0, .int 0, .int 0, .int 0, .null, .null, .int 0, .int 0, .int 0, .int 0, .int 0, .null, .int 0]) := by rw [eF_25, va_up_self]
  have f_27 : F_25 (88) = .inl (g.2 0, 200, .inl (fun _ => 0)) := by rw [eF_25, va_up_ne _ _ (by omega)]; exact f_22
  have f_28 : F_25 (89) = .inl (g.2 2, 26, .inl (fun _ => 0)) := by rw [eF_25, va_up_ne _ _ (by omega)]; exact f_23
  have f_29 : F_25 (90) = .inl (g.2 0, 26, .inl (fun _ => 0)) := by rw [eF_25, va_up_ne _ _ (by omega)]; exact f_24
  refine lv_aload_n hx hb d_M_init_39 rfl (lv_at hl 0 rfl) ?_
  refine lv_sipush (v := 2600) hx hb d_M_init_40 (by decide) ?_
  refine hp_newi (N' := 2600) S hK hV (hts _ (List.mem_cons_of_mem _ tq_ai)) (show ¬ (2600 : Int32) < 0 from by decide) (show (2600 : Int32).toNatClampNeg = 2600 from by decide) (by omega) (by first | (simp only [rc]; omega) | exact Nat.le_of_ble_eq_true rfl) (by first | (simp only [rc]; omega) | exact Nat.le_of_ble_eq_true rfl) d_M_init_43 (fun H hV => ?_)
  obtain ⟨F_30, eF_30⟩ : ∃ z, z = va_up F_25 (91) (.inl (g.2 0, 2600, .inl (fun _ => 0))) := ⟨_, rfl⟩
  replace hV : hp_V g z0 (92) F_30 s.heap H locs := by rw [eF_30]; exact hV
  have f_31 : F_30 (87) = .inr (kM, [.int 0, .ref (hp_ad z0 88), .int 0, .ref (hp_ad z0 89), .ref (hp_ad z0 90), .null, .null, .int 0, .int 0, .int 0, .int 0, .int 0, .null, .null, .int 0, .int 0, .int 0, .int 0, .int 0, .null, .int 0]) := by rw [eF_30, va_up_ne _ _ (by omega)]; exact f_26
  have f_32 : F_30 (88) = .inl (g.2 0, 200, .inl (fun _ => 0)) := by rw [eF_30, va_up_ne _ _ (by omega)]; exact f_27
  have f_33 : F_30 (89) = .inl (g.2 2, 26, .inl (fun _ => 0)) := by rw [eF_30, va_up_ne _ _ (by omega)]; exact f_28
  have f_34 : F_30 (90) = .inl (g.2 0, 26, .inl (fun _ => 0)) := by rw [eF_30, va_up_ne _ _ (by omega)]; exact f_29
  have f_35 : F_30 (91) = .inl (g.2 0, 2600, .inl (fun _ => 0)) := by rw [eF_30, va_up_self]
  refine hp_putFV S hK hV (87) (by omega) f_31 rfl in_kM tyok_M nm_M 5 (by decide) (hts _ (List.mem_cons_of_mem _ tq_101)) rfl hnm rfl rfl rfl (Nat.le_of_ble_eq_true rfl) d_M_init_45 (fun H locs hV => ?_)
  obtain ⟨F_36, eF_36⟩ : ∃ z, z = va_up F_30 (87) (.inr (kM, [.int 0, .ref (hp_ad z0 88), .int 0, .ref (hp_ad z0 89), .ref (hp_ad z0 90), .ref (hp_ad z0 91), .null, .int 0, .int 0, .int 0, .int 0, .int 0, .null, .null, .int 0, .int 0, .int 0, .int 0, .int 0, .null, .int 0])) := ⟨_, rfl⟩
  replace hV : hp_V g z0 (92) F_36 s.heap H locs := by rw [eF_36]; exact hV
  have f_37 : F_36 (87) = .inr (kM, [.int 0, .ref (hp_ad z0 88), .int 0, .ref (hp_ad z0 89), .ref (hp_ad z0 90), .ref (hp_ad z0 91), .null, .int 0, .int 0, .int 0, .int 0, .int 0, .null, .null, .int 0, .int 0, .int 0, .int 0, .int 0, .null, .int 0]) := by rw [eF_36, va_up_self]
  have f_38 : F_36 (88) = .inl (g.2 0, 200, .inl (fun _ => 0)) := by rw [eF_36, va_up_ne _ _ (by omega)]; exact f_32
  have f_39 : F_36 (89) = .inl (g.2 2, 26, .inl (fun _ => 0)) := by rw [eF_36, va_up_ne _ _ (by omega)]; exact f_33
  have f_40 : F_36 (90) = .inl (g.2 0, 26, .inl (fun _ => 0)) := by rw [eF_36, va_up_ne _ _ (by omega)]; exact f_34
  have f_41 : F_36 (91) = .inl (g.2 0, 2600, .inl (fun _ => 0)) := by rw [eF_36, va_up_ne _ _ (by omega)]; exact f_35
  refine lv_aload_n hx hb d_M_init_48 rfl (lv_at hl 0 rfl) ?_
  refine lv_sipush (v := 301) hx hb d_M_init_49 (by decide) ?_
  refine hp_newi (N' := 301) S hK hV (hts _ (List.mem_cons_of_mem _ tq_ai)) (show ¬ (301 : Int32) < 0 from by decide) (show (301 : Int32).toNatClampNeg = 301 from by decide) (by omega) (by first | (simp only [rc]; omega) | exact Nat.le_of_ble_eq_true rfl) (by first | (simp only [rc]; omega) | exact Nat.le_of_ble_eq_true rfl) d_M_init_52 (fun H hV => ?_)
  obtain ⟨F_42, eF_42⟩ : ∃ z, z = va_up F_36 (92) (.inl (g.2 0, 301, .inl (fun _ => 0))) := ⟨_, rfl⟩
  replace hV : hp_V g z0 (93) F_42 s.heap H locs := by rw [eF_42]; exact hV
  have f_43 : F_42 (87) = .inr (kM, [.int 0, .ref (hp_ad z0 88), .int 0, .ref (hp_ad z0 89), .ref (hp_ad z0 90), .ref (hp_ad z0 91), .null, .int 0, .int 0, .int 0, .int 0, .int 0, .null, .null, .int 0, .int 0, .int 0, .int 0, .int 0, .null, .int 0]) := by rw [eF_42, va_up_ne _ _ (by omega)]; exact f_37
  have f_44 : F_42 (88) = .inl (g.2 0, 200, .inl (fun _ => 0)) := by rw [eF_42, va_up_ne _ _ (by omega)]; exact f_38
  have f_45 : F_42 (89) = .inl (g.2 2, 26, .inl (fun _ => 0)) := by rw [eF_42, va_up_ne _ _ (by omega)]; exact f_39
  have f_46 : F_42 (90) = .inl (g.2 0, 26, .inl (fun _ => 0)) := by rw [eF_42, va_up_ne _ _ (by omega)]; exact f_40
  have f_47 : F_42 (91) = .inl (g.2 0, 2600, .inl (fun _ => 0)) := by rw [eF_42, va_up_ne _ _ (by omega)]; exact f_41
  have f_48 : F_42 (92) = .inl (g.2 0, 301, .inl (fun _ => 0)) := by rw [eF_42, va_up_self]
  refine hp_putFV S hK hV (87) (by omega) f_43 rfl in_kM tyok_M nm_M 6 (by decide) (hts _ (List.mem_cons_of_mem _ tq_102)) rfl hnm rfl rfl rfl (Nat.le_of_ble_eq_true rfl) d_M_init_54 (fun H locs hV => ?_)
  obtain ⟨F_49, eF_49⟩ : ∃ z, z = va_up F_42 (87) (.inr (kM, [.int 0, .ref (hp_ad z0 88), .int 0, .ref (hp_ad z0 89), .ref (hp_ad z0 90), .ref (hp_ad z0 91), .ref (hp_ad z0 92), .int 0, .int 0, .int 0, .int 0, .int 0, .null, .null, .int 0, .int 0, .int 0, .int 0, .int 0, .null, .int 0])) := ⟨_, rfl⟩
  replace hV : hp_V g z0 (93) F_49 s.heap H locs := by rw [eF_49]; exact hV
  have f_50 : F_49 (87) = .inr (kM, [.int 0, .ref (hp_ad z0 88), .int 0, .ref (hp_ad z0 89), .ref (hp_ad z0 90), .ref (hp_ad z0 91), .ref (hp_ad z0 92), .int 0, .int 0, .int 0, .int 0, .int 0, .null, .null, .int 0, .int 0, .int 0, .int 0, .int 0, .null, .int 0]) := by rw [eF_49, va_up_self]
  have f_51 : F_49 (88) = .inl (g.2 0, 200, .inl (fun _ => 0)) := by rw [eF_49, va_up_ne _ _ (by omega)]; exact f_44
  have f_52 : F_49 (89) = .inl (g.2 2, 26, .inl (fun _ => 0)) := by rw [eF_49, va_up_ne _ _ (by omega)]; exact f_45
  have f_53 : F_49 (90) = .inl (g.2 0, 26, .inl (fun _ => 0)) := by rw [eF_49, va_up_ne _ _ (by omega)]; exact f_46
  have f_54 : F_49 (91) = .inl (g.2 0, 2600, .inl (fun _ => 0)) := by rw [eF_49, va_up_ne _ _ (by omega)]; exact f_47
  have f_55 : F_49 (92) = .inl (g.2 0, 301, .inl (fun _ => 0)) := by rw [eF_49, va_up_ne _ _ (by omega)]; exact f_48
  refine lv_aload_n hx hb d_M_init_57 rfl (lv_at hl 0 rfl) ?_
  refine lv_iconst (v := 0) hx hb d_M_init_58 (by decide) ?_
  refine hp_putV S hK hV (87) (by omega) f_50 rfl in_kM tyok_M nm_M 7 (by decide) (hts _ (List.mem_cons_of_mem _ tq_103)) rfl rfl rfl (Nat.le_of_ble_eq_true rfl) d_M_init_59 (fun H locs hV => ?_)
  obtain ⟨F_56, eF_56⟩ : ∃ z, z = va_up F_49 (87) (.inr (kM, [.int 0, .ref (hp_ad z0 88), .int 0, .ref (hp_ad z0 89), .ref (hp_ad z0 90), .ref (hp_ad z0 91), .ref (hp_ad z0 92), .int 0, .int 0, .int 0, .int 0, .int 0, .null, .null, .int 0, .int 0, .int 0, .int 0, .int 0, .null, .int 0])) := ⟨_, rfl⟩
  replace hV : hp_V g z0 (93) F_56 s.heap H locs := by rw [eF_56]; exact hV
  have f_57 : F_56 (87) = .inr (kM, [.int 0, .ref (hp_ad z0 88), .int 0, .ref (hp_ad z0 89), .ref (hp_ad z0 90), .ref (hp_ad z0 91), .ref (hp_ad z0 92), .int 0, .int 0, .int 0, .int 0, .int 0, .null, .null, .int 0, .int 0, .int 0, .int 0, .int 0, .null, .int 0]) := by rw [eF_56, va_up_self]
  have f_58 : F_56 (88) = .inl (g.2 0, 200, .inl (fun _ => 0)) := by rw [eF_56, va_up_ne _ _ (by omega)]; exact f_51
  have f_59 : F_56 (89) = .inl (g.2 2, 26, .inl (fun _ => 0)) := by rw [eF_56, va_up_ne _ _ (by omega)]; exact f_52
  have f_60 : F_56 (90) = .inl (g.2 0, 26, .inl (fun _ => 0)) := by rw [eF_56, va_up_ne _ _ (by omega)]; exact f_53
  have f_61 : F_56 (91) = .inl (g.2 0, 2600, .inl (fun _ => 0)) := by rw [eF_56, va_up_ne _ _ (by omega)]; exact f_54
  have f_62 : F_56 (92) = .inl (g.2 0, 301, .inl (fun _ => 0)) := by rw [eF_56, va_up_ne _ _ (by omega)]; exact f_55
  refine lv_aload_n hx hb d_M_init_62 rfl (lv_at hl 0 rfl) ?_
  refine lv_iconst (v := (-1)) hx hb d_M_init_63 (by decide) ?_
  refine hp_putV S hK hV (87) (by omega) f_57 rfl in_kM tyok_M nm_M 8 (by decide) (hts _ (List.mem_cons_of_mem _ tq_104)) rfl rfl rfl (Nat.le_of_ble_eq_true rfl) d_M_init_64 (fun H locs hV => ?_)
  obtain ⟨F_63, eF_63⟩ : ∃ z, z = va_up F_56 (87) (.inr (kM, [.int 0, .ref (hp_ad z0 88), .int 0, .ref (hp_ad z0 89), .ref (hp_ad z0 90), .ref (hp_ad z0 91), .ref (hp_ad z0 92), .int 0, .int (-1), .int 0, .int 0, .int 0, .null, .null, .int 0, .int 0, .int 0, .int 0, .int 0, .null, .int 0])) := ⟨_, rfl⟩
  replace hV : hp_V g z0 (93) F_63 s.heap H locs := by rw [eF_63]; exact hV
  have f_64 : F_63 (87) = .inr (kM, [.int 0, .ref (hp_ad z0 88), .int 0, .ref (hp_ad z0 89), .ref (hp_ad z0 90), .ref (hp_ad z0 91), .ref (hp_ad z0 92), .int 0, .int (-1), .int 0, .int 0, .int 0, .null, .null, .int 0, .int 0, .int 0, .int 0, .int 0, .null, .int 0]) := by rw [eF_63, va_up_self]
  have f_65 : F_63 (88) = .inl (g.2 0, 200, .inl (fun _ => 0)) := by rw [eF_63, va_up_ne _ _ (by omega)]; exact f_58
  have f_66 : F_63 (89) = .inl (g.2 2, 26, .inl (fun _ => 0)) := by rw [eF_63, va_up_ne _ _ (by omega)]; exact f_59
  have f_67 : F_63 (90) = .inl (g.2 0, 26, .inl (fun _ => 0)) := by rw [eF_63, va_up_ne _ _ (by omega)]; exact f_60
  have f_68 : F_63 (91) = .inl (g.2 0, 2600, .inl (fun _ => 0)) := by rw [eF_63, va_up_ne _ _ (by omega)]; exact f_61
  have f_69 : F_63 (92) = .inl (g.2 0, 301, .inl (fun _ => 0)) := by rw [eF_63, va_up_ne _ _ (by omega)]; exact f_62
  refine lv_aload_n hx hb d_M_init_67 rfl (lv_at hl 0 rfl) ?_
  refine lv_iconst (v := 0) hx hb d_M_init_68 (by decide) ?_
  refine hp_putV S hK hV (87) (by omega) f_64 rfl in_kM tyok_M nm_M 9 (by decide) (hts _ (List.mem_cons_of_mem _ tq_105)) rfl rfl rfl (Nat.le_of_ble_eq_true rfl) d_M_init_69 (fun H locs hV => ?_)
  obtain ⟨F_70, eF_70⟩ : ∃ z, z = va_up F_63 (87) (.inr (kM, [.int 0, .ref (hp_ad z0 88), .int 0, .ref (hp_ad z0 89), .ref (hp_ad z0 90), .ref (hp_ad z0 91), .ref (hp_ad z0 92), .int 0, .int (-1), .int 0, .int 0, .int 0, .null, .null, .int 0, .int 0, .int 0, .int 0, .int 0, .null, .int 0])) := ⟨_, rfl⟩
  replace hV : hp_V g z0 (93) F_70 s.heap H locs := by rw [eF_70]; exact hV
  have f_71 : F_70 (87) = .inr (kM, [.int 0, .ref (hp_ad z0 88), .int 0, .ref (hp_ad z0 89), .ref (hp_ad z0 90), .ref (hp_ad z0 91), .ref (hp_ad z0 92), .int 0, .int (-1), .int 0, .int 0, .int 0, .null, .null, .int 0, .int 0, .int 0, .int 0, .int 0, .null, .int 0]) := by rw [eF_70, va_up_self]
  have f_72 : F_70 (88) = .inl (g.2 0, 200, .inl (fun _ => 0)) := by rw [eF_70, va_up_ne _ _ (by omega)]; exact f_65
  have f_73 : F_70 (89) = .inl (g.2 2, 26, .inl (fun _ => 0)) := by rw [eF_70, va_up_ne _ _ (by omega)]; exact f_66
  have f_74 : F_70 (90) = .inl (g.2 0, 26, .inl (fun _ => 0)) := by rw [eF_70, va_up_ne _ _ (by omega)]; exact f_67
  have f_75 : F_70 (91) = .inl (g.2 0, 2600, .inl (fun _ => 0)) := by rw [eF_70, va_up_ne _ _ (by omega)]; exact f_68
  have f_76 : F_70 (92) = .inl (g.2 0, 301, .inl (fun _ => 0)) := by rw [eF_70, va_up_ne _ _ (by omega)]; exact f_69
  refine lv_aload_n hx hb d_M_init_72 rfl (lv_at hl 0 rfl) ?_
  refine lv_iconst (v := 0) hx hb d_M_init_73 (by decide) ?_
  refine hp_putV S hK hV (87) (by omega) f_71 rfl in_kM tyok_M nm_M 10 (by decide) (hts _ (List.mem_cons_of_mem _ tq_106)) rfl rfl rfl (Nat.le_of_ble_eq_true rfl) d_M_init_74 (fun H locs hV => ?_)
  obtain ⟨F_77, eF_77⟩ : ∃ z, z = va_up F_70 (87) (.inr (kM, [.int 0, .ref (hp_ad z0 88), .int 0, .ref (hp_ad z0 89), .ref (hp_ad z0 90), .ref (hp_ad z0 91), .ref (hp_ad z0 92), .int 0, .int (-1), .int 0, .int 0, .int 0, .null, .null, .int 0, .int 0, .int 0, .int 0, .int 0, .null, .int 0])) := ⟨_, rfl⟩
  replace hV : hp_V g z0 (93) F_77 s.heap H locs := by rw [eF_77]; exact hV
  have f_78 : F_77 (87) = .inr (kM, [.int 0, .ref (hp_ad z0 88), .int 0, .ref (hp_ad z0 89), .ref (hp_ad z0 90), .ref (hp_ad z0 91), .ref (hp_ad z0 92), .int 0, .int (-1), .int 0, .int 0, .int 0, .null, .null, .int 0, .int 0, .int 0, .int 0, .int 0, .null, .int 0]) := by rw [eF_77, va_up_self]
  have f_79 : F_77 (88) = .inl (g.2 0, 200, .inl (fun _ => 0)) := by rw [eF_77, va_up_ne _ _ (by omega)]; exact f_72
  have f_80 : F_77 (89) = .inl (g.2 2, 26, .inl (fun _ => 0)) := by rw [eF_77, va_up_ne _ _ (by omega)]; exact f_73
  have f_81 : F_77 (90) = .inl (g.2 0, 26, .inl (fun _ => 0)) := by rw [eF_77, va_up_ne _ _ (by omega)]; exact f_74
  have f_82 : F_77 (91) = .inl (g.2 0, 2600, .inl (fun _ => 0)) := by rw [eF_77, va_up_ne _ _ (by omega)]; exact f_75
  have f_83 : F_77 (92) = .inl (g.2 0, 301, .inl (fun _ => 0)) := by rw [eF_77, va_up_ne _ _ (by omega)]; exact f_76
  refine lv_aload_n hx hb d_M_init_77 rfl (lv_at hl 0 rfl) ?_
  refine lv_iconst (v := 0) hx hb d_M_init_78 (by decide) ?_
  refine hp_putV S hK hV (87) (by omega) f_78 rfl in_kM tyok_M nm_M 11 (by decide) (hts _ (List.mem_cons_of_mem _ tq_107)) rfl rfl rfl (Nat.le_of_ble_eq_true rfl) d_M_init_79 (fun H locs hV => ?_)
  obtain ⟨F_84, eF_84⟩ : ∃ z, z = va_up F_77 (87) (.inr (kM, [.int 0, .ref (hp_ad z0 88), .int 0, .ref (hp_ad z0 89), .ref (hp_ad z0 90), .ref (hp_ad z0 91), .ref (hp_ad z0 92), .int 0, .int (-1), .int 0, .int 0, .int 0, .null, .null, .int 0, .int 0, .int 0, .int 0, .int 0, .null, .int 0])) := ⟨_, rfl⟩
  replace hV : hp_V g z0 (93) F_84 s.heap H locs := by rw [eF_84]; exact hV
  have f_85 : F_84 (87) = .inr (kM, [.int 0, .ref (hp_ad z0 88), .int 0, .ref (hp_ad z0 89), .ref (hp_ad z0 90), .ref (hp_ad z0 91), .ref (hp_ad z0 92), .int 0, .int (-1), .int 0, .int 0, .int 0, .null, .null, .int 0, .int 0, .int 0, .int 0, .int 0, .null, .int 0]) := by rw [eF_84, va_up_self]
  have f_86 : F_84 (88) = .inl (g.2 0, 200, .inl (fun _ => 0)) := by rw [eF_84, va_up_ne _ _ (by omega)]; exact f_79
  have f_87 : F_84 (89) = .inl (g.2 2, 26, .inl (fun _ => 0)) := by rw [eF_84, va_up_ne _ _ (by omega)]; exact f_80
  have f_88 : F_84 (90) = .inl (g.2 0, 26, .inl (fun _ => 0)) := by rw [eF_84, va_up_ne _ _ (by omega)]; exact f_81
  have f_89 : F_84 (91) = .inl (g.2 0, 2600, .inl (fun _ => 0)) := by rw [eF_84, va_up_ne _ _ (by omega)]; exact f_82
  have f_90 : F_84 (92) = .inl (g.2 0, 301, .inl (fun _ => 0)) := by rw [eF_84, va_up_ne _ _ (by omega)]; exact f_83
  refine lv_aload_n hx hb d_M_init_82 rfl (lv_at hl 0 rfl) ?_
  refine lv_bipush (v := 28) hx hb d_M_init_83 (by decide) ?_
  refine hp_newi (N' := 28) S hK hV (hts _ (List.mem_cons_of_mem _ tq_ai)) (show ¬ (28 : Int32) < 0 from by decide) (show (28 : Int32).toNatClampNeg = 28 from by decide) (by omega) (by first | (simp only [rc]; omega) | exact Nat.le_of_ble_eq_true rfl) (by first | (simp only [rc]; omega) | exact Nat.le_of_ble_eq_true rfl) d_M_init_85 (fun H hV => ?_)
  obtain ⟨F_91, eF_91⟩ : ∃ z, z = va_up F_84 (93) (.inl (g.2 0, 28, .inl (fun _ => 0))) := ⟨_, rfl⟩
  replace hV : hp_V g z0 (94) F_91 s.heap H locs := by rw [eF_91]; exact hV
  have f_92 : F_91 (87) = .inr (kM, [.int 0, .ref (hp_ad z0 88), .int 0, .ref (hp_ad z0 89), .ref (hp_ad z0 90), .ref (hp_ad z0 91), .ref (hp_ad z0 92), .int 0, .int (-1), .int 0, .int 0, .int 0, .null, .null, .int 0, .int 0, .int 0, .int 0, .int 0, .null, .int 0]) := by rw [eF_91, va_up_ne _ _ (by omega)]; exact f_85
  have f_93 : F_91 (88) = .inl (g.2 0, 200, .inl (fun _ => 0)) := by rw [eF_91, va_up_ne _ _ (by omega)]; exact f_86
  have f_94 : F_91 (89) = .inl (g.2 2, 26, .inl (fun _ => 0)) := by rw [eF_91, va_up_ne _ _ (by omega)]; exact f_87
  have f_95 : F_91 (90) = .inl (g.2 0, 26, .inl (fun _ => 0)) := by rw [eF_91, va_up_ne _ _ (by omega)]; exact f_88
  have f_96 : F_91 (91) = .inl (g.2 0, 2600, .inl (fun _ => 0)) := by rw [eF_91, va_up_ne _ _ (by omega)]; exact f_89
  have f_97 : F_91 (92) = .inl (g.2 0, 301, .inl (fun _ => 0)) := by rw [eF_91, va_up_ne _ _ (by omega)]; exact f_90
  have f_98 : F_91 (93) = .inl (g.2 0, 28, .inl (fun _ => 0)) := by rw [eF_91, va_up_self]
  refine hp_putFV S hK hV (87) (by omega) f_92 rfl in_kM tyok_M nm_M 12 (by decide) (hts _ (List.mem_cons_of_mem _ tq_108)) rfl hnm rfl rfl rfl (Nat.le_of_ble_eq_true rfl) d_M_init_87 (fun H locs hV => ?_)
  obtain ⟨F_99, eF_99⟩ : ∃ z, z = va_up F_91 (87) (.inr (kM, [.int 0, .ref (hp_ad z0 88), .int 0, .ref (hp_ad z0 89), .ref (hp_ad z0 90), .ref (hp_ad z0 91), .ref (hp_ad z0 92), .int 0, .int (-1), .int 0, .int 0, .int 0, .ref (hp_ad z0 93), .null, .int 0, .int 0, .int 0, .int 0, .int 0, .null, .int 0])) := ⟨_, rfl⟩
  replace hV : hp_V g z0 (94) F_99 s.heap H locs := by rw [eF_99]; exact hV
  have f_100 : F_99 (87) = .inr (kM, [.int 0, .ref (hp_ad z0 88), .int 0, .ref (hp_ad z0 89), .ref (hp_ad z0 90), .ref (hp_ad z0 91), .ref (hp_ad z0 92), .int 0, .int (-1), .int 0, .int 0, .int 0, .ref (hp_ad z0 93), .null, .int 0, .int 0, .int 0, .int 0, .int 0, .null, .int 0]) := by rw [eF_99, va_up_self]
  have f_101 : F_99 (88) = .inl (g.2 0, 200, .inl (fun _ => 0)) := by rw [eF_99, va_up_ne _ _ (by omega)]; exact f_93
  have f_102 : F_99 (89) = .inl (g.2 2, 26, .inl (fun _ => 0)) := by rw [eF_99, va_up_ne _ _ (by omega)]; exact f_94
  have f_103 : F_99 (90) = .inl (g.2 0, 26, .inl (fun _ => 0)) := by rw [eF_99, va_up_ne _ _ (by omega)]; exact f_95
  have f_104 : F_99 (91) = .inl (g.2 0, 2600, .inl (fun _ => 0)) := by rw [eF_99, va_up_ne _ _ (by omega)]; exact f_96
  have f_105 : F_99 (92) = .inl (g.2 0, 301, .inl (fun _ => 0)) := by rw [eF_99, va_up_ne _ _ (by omega)]; exact f_97
  have f_106 : F_99 (93) = .inl (g.2 0, 28, .inl (fun _ => 0)) := by rw [eF_99, va_up_ne _ _ (by omega)]; exact f_98
  refine lv_aload_n hx hb d_M_init_90 rfl (lv_at hl 0 rfl) ?_
  refine lv_bipush (v := 28) hx hb d_M_init_91 (by decide) ?_
  refine hp_newi (N' := 28) S hK hV (hts _ (List.mem_cons_of_mem _ tq_ai)) (show ¬ (28 : Int32) < 0 from by decide) (show (28 : Int32).toNatClampNeg = 28 from by decide) (by omega) (by first | (simp only [rc]; omega) | exact Nat.le_of_ble_eq_true rfl) (by first | (simp only [rc]; omega) | exact Nat.le_of_ble_eq_true rfl) d_M_init_93 (fun H hV => ?_)
  obtain ⟨F_107, eF_107⟩ : ∃ z, z = va_up F_99 (94) (.inl (g.2 0, 28, .inl (fun _ => 0))) := ⟨_, rfl⟩
  replace hV : hp_V g z0 (95) F_107 s.heap H locs := by rw [eF_107]; exact hV
  have f_108 : F_107 (87) = .inr (kM, [.int 0, .ref (hp_ad z0 88), .int 0, .ref (hp_ad z0 89), .ref (hp_ad z0 90), .ref (hp_ad z0 91), .ref (hp_ad z0 92), .int 0, .int (-1), .int 0, .int 0, .int 0, .ref (hp_ad z0 93), .null, .int 0, .int 0, .int 0, .int 0, .int 0, .null, .int 0]) := by rw [eF_107, va_up_ne _ _ (by omega)]; exact f_100
  have f_109 : F_107 (88) = .inl (g.2 0, 200, .inl (fun _ => 0)) := by rw [eF_107, va_up_ne _ _ (by omega)]; exact f_101
  have f_110 : F_107 (89) = .inl (g.2 2, 26, .inl (fun _ => 0)) := by rw [eF_107, va_up_ne _ _ (by omega)]; exact f_102
  have f_111 : F_107 (90) = .inl (g.2 0, 26, .inl (fun _ => 0)) := by rw [eF_107, va_up_ne _ _ (by omega)]; exact f_103
  have f_112 : F_107 (91) = .inl (g.2 0, 2600, .inl (fun _ => 0)) := by rw [eF_107, va_up_ne _ _ (by omega)]; exact f_104
  have f_113 : F_107 (92) = .inl (g.2 0, 301, .inl (fun _ => 0)) := by rw [eF_107, va_up_ne _ _ (by omega)]; exact f_105
  have f_114 : F_107 (93) = .inl (g.2 0, 28, .inl (fun _ => 0)) := by rw [eF_107, va_up_ne _ _ (by omega)]; exact f_106
  have f_115 : F_107 (94) = .inl (g.2 0, 28, .inl (fun _ => 0)) := by rw [eF_107, va_up_self]
  refine hp_putFV S hK hV (87) (by omega) f_108 rfl in_kM tyok_M nm_M 13 (by decide) (hts _ (List.mem_cons_of_mem _ tq_109)) rfl hnm rfl rfl rfl (Nat.le_of_ble_eq_true rfl) d_M_init_95 (fun H locs hV => ?_)
  obtain ⟨F_116, eF_116⟩ : ∃ z, z = va_up F_107 (87) (.inr (kM, [.int 0, .ref (hp_ad z0 88), .int 0, .ref (hp_ad z0 89), .ref (hp_ad z0 90), .ref (hp_ad z0 91), .ref (hp_ad z0 92), .int 0, .int (-1), .int 0, .int 0, .int 0, .ref (hp_ad z0 93), .ref (hp_ad z0 94), .int 0, .int 0, .int 0, .int 0, .int 0, .null, .int 0])) := ⟨_, rfl⟩
  replace hV : hp_V g z0 (95) F_116 s.heap H locs := by rw [eF_116]; exact hV
  have f_117 : F_116 (87) = .inr (kM, [.int 0, .ref (hp_ad z0 88), .int 0, .ref (hp_ad z0 89), .ref (hp_ad z0 90), .ref (hp_ad z0 91), .ref (hp_ad z0 92), .int 0, .int (-1), .int 0, .int 0, .int 0, .ref (hp_ad z0 93), .ref (hp_ad z0 94), .int 0, .int 0, .int 0, .int 0, .int 0, .null, .int 0]) := by rw [eF_116, va_up_self]
  have f_118 : F_116 (88) = .inl (g.2 0, 200, .inl (fun _ => 0)) := by rw [eF_116, va_up_ne _ _ (by omega)]; exact f_109
  have f_119 : F_116 (89) = .inl (g.2 2, 26, .inl (fun _ => 0)) := by rw [eF_116, va_up_ne _ _ (by omega)]; exact f_110
  have f_120 : F_116 (90) = .inl (g.2 0, 26, .inl (fun _ => 0)) := by rw [eF_116, va_up_ne _ _ (by omega)]; exact f_111
  have f_121 : F_116 (91) = .inl (g.2 0, 2600, .inl (fun _ => 0)) := by rw [eF_116, va_up_ne _ _ (by omega)]; exact f_112
  have f_122 : F_116 (92) = .inl (g.2 0, 301, .inl (fun _ => 0)) := by rw [eF_116, va_up_ne _ _ (by omega)]; exact f_113
  have f_123 : F_116 (93) = .inl (g.2 0, 28, .inl (fun _ => 0)) := by rw [eF_116, va_up_ne _ _ (by omega)]; exact f_114
  have f_124 : F_116 (94) = .inl (g.2 0, 28, .inl (fun _ => 0)) := by rw [eF_116, va_up_ne _ _ (by omega)]; exact f_115
  refine lv_aload_n hx hb d_M_init_98 rfl (lv_at hl 0 rfl) ?_
  refine lv_iconst (v := 0) hx hb d_M_init_99 (by decide) ?_
  refine hp_putV S hK hV (87) (by omega) f_117 rfl in_kM tyok_M nm_M 14 (by decide) (hts _ (List.mem_cons_of_mem _ tq_110)) rfl rfl rfl (Nat.le_of_ble_eq_true rfl) d_M_init_100 (fun H locs hV => ?_)
  obtain ⟨F_125, eF_125⟩ : ∃ z, z = va_up F_116 (87) (.inr (kM, [.int 0, .ref (hp_ad z0 88), .int 0, .ref (hp_ad z0 89), .ref (hp_ad z0 90), .ref (hp_ad z0 91), .ref (hp_ad z0 92), .int 0, .int (-1), .int 0, .int 0, .int 0, .ref (hp_ad z0 93), .ref (hp_ad z0 94), .int 0, .int 0, .int 0, .int 0, .int 0, .null, .int 0])) := ⟨_, rfl⟩
  replace hV : hp_V g z0 (95) F_125 s.heap H locs := by rw [eF_125]; exact hV
  have f_126 : F_125 (87) = .inr (kM, [.int 0, .ref (hp_ad z0 88), .int 0, .ref (hp_ad z0 89), .ref (hp_ad z0 90), .ref (hp_ad z0 91), .ref (hp_ad z0 92), .int 0, .int (-1), .int 0, .int 0, .int 0, .ref (hp_ad z0 93), .ref (hp_ad z0 94), .int 0, .int 0, .int 0, .int 0, .int 0, .null, .int 0]) := by rw [eF_125, va_up_self]
  have f_127 : F_125 (88) = .inl (g.2 0, 200, .inl (fun _ => 0)) := by rw [eF_125, va_up_ne _ _ (by omega)]; exact f_118
  have f_128 : F_125 (89) = .inl (g.2 2, 26, .inl (fun _ => 0)) := by rw [eF_125, va_up_ne _ _ (by omega)]; exact f_119
  have f_129 : F_125 (90) = .inl (g.2 0, 26, .inl (fun _ => 0)) := by rw [eF_125, va_up_ne _ _ (by omega)]; exact f_120
  have f_130 : F_125 (91) = .inl (g.2 0, 2600, .inl (fun _ => 0)) := by rw [eF_125, va_up_ne _ _ (by omega)]; exact f_121
  have f_131 : F_125 (92) = .inl (g.2 0, 301, .inl (fun _ => 0)) := by rw [eF_125, va_up_ne _ _ (by omega)]; exact f_122
  have f_132 : F_125 (93) = .inl (g.2 0, 28, .inl (fun _ => 0)) := by rw [eF_125, va_up_ne _ _ (by omega)]; exact f_123
  have f_133 : F_125 (94) = .inl (g.2 0, 28, .inl (fun _ => 0)) := by rw [eF_125, va_up_ne _ _ (by omega)]; exact f_124
  refine lv_aload_n hx hb d_M_init_103 rfl (lv_at hl 0 rfl) ?_
  refine lv_iconst (v := 0) hx hb d_M_init_104 (by decide) ?_
  refine hp_putV S hK hV (87) (by omega) f_126 rfl in_kM tyok_M nm_M 15 (by decide) (hts _ (List.mem_cons_of_mem _ tq_111)) rfl rfl rfl (Nat.le_of_ble_eq_true rfl) d_M_init_105 (fun H locs hV => ?_)
  obtain ⟨F_134, eF_134⟩ : ∃ z, z = va_up F_125 (87) (.inr (kM, [.int 0, .ref (hp_ad z0 88), .int 0, .ref (hp_ad z0 89), .ref (hp_ad z0 90), .ref (hp_ad z0 91), .ref (hp_ad z0 92), .int 0, .int (-1), .int 0, .int 0, .int 0, .ref (hp_ad z0 93), .ref (hp_ad z0 94), .int 0, .int 0, .int 0, .int 0, .int 0, .null, .int 0])) := ⟨_, rfl⟩
  replace hV : hp_V g z0 (95) F_134 s.heap H locs := by rw [eF_134]; exact hV
  have f_135 : F_134 (87) = .inr (kM, [.int 0, .ref (hp_ad z0 88), .int 0, .ref (hp_ad z0 89), .ref (hp_ad z0 90), .ref (hp_ad z0 91), .ref (hp_ad z0 92), .int 0, .int (-1), .int 0, .int 0, .int 0, .ref (hp_ad z0 93), .ref (hp_ad z0 94), .int 0, .int 0, .int 0, .int 0, .int 0, .null, .int 0]) := by rw [eF_134, va_up_self]
  have f_136 : F_134 (88) = .inl (g.2 0, 200, .inl (fun _ => 0)) := by rw [eF_134, va_up_ne _ _ (by omega)]; exact f_127
  have f_137 : F_134 (89) = .inl (g.2 2, 26, .inl (fun _ => 0)) := by rw [eF_134, va_up_ne _ _ (by omega)]; exact f_128
  have f_138 : F_134 (90) = .inl (g.2 0, 26, .inl (fun _ => 0)) := by rw [eF_134, va_up_ne _ _ (by omega)]; exact f_129
  have f_139 : F_134 (91) = .inl (g.2 0, 2600, .inl (fun _ => 0)) := by rw [eF_134, va_up_ne _ _ (by omega)]; exact f_130
  have f_140 : F_134 (92) = .inl (g.2 0, 301, .inl (fun _ => 0)) := by rw [eF_134, va_up_ne _ _ (by omega)]; exact f_131
  have f_141 : F_134 (93) = .inl (g.2 0, 28, .inl (fun _ => 0)) := by rw [eF_134, va_up_ne _ _ (by omega)]; exact f_132
  have f_142 : F_134 (94) = .inl (g.2 0, 28, .inl (fun _ => 0)) := by rw [eF_134, va_up_ne _ _ (by omega)]; exact f_133
  refine lv_aload_n hx hb d_M_init_108 rfl (lv_at hl 0 rfl) ?_
  refine lv_iconst (v := 0) hx hb d_M_init_109 (by decide) ?_
  refine hp_putV S hK hV (87) (by omega) f_135 rfl in_kM tyok_M nm_M 16 (by decide) (hts _ (List.mem_cons_of_mem _ tq_112)) rfl rfl rfl (Nat.le_of_ble_eq_true rfl) d_M_init_110 (fun H locs hV => ?_)
  obtain ⟨F_143, eF_143⟩ : ∃ z, z = va_up F_134 (87) (.inr (kM, [.int 0, .ref (hp_ad z0 88), .int 0, .ref (hp_ad z0 89), .ref (hp_ad z0 90), .ref (hp_ad z0 91), .ref (hp_ad z0 92), .int 0, .int (-1), .int 0, .int 0, .int 0, .ref (hp_ad z0 93), .ref (hp_ad z0 94), .int 0, .int 0, .int 0, .int 0, .int 0, .null, .int 0])) := ⟨_, rfl⟩
  replace hV : hp_V g z0 (95) F_143 s.heap H locs := by rw [eF_143]; exact hV
  have f_144 : F_143 (87) = .inr (kM, [.int 0, .ref (hp_ad z0 88), .int 0, .ref (hp_ad z0 89), .ref (hp_ad z0 90), .ref (hp_ad z0 91), .ref (hp_ad z0 92), .int 0, .int (-1), .int 0, .int 0, .int 0, .ref (hp_ad z0 93), .ref (hp_ad z0 94), .int 0, .int 0, .int 0, .int 0, .int 0, .null, .int 0]) := by rw [eF_143, va_up_self]
  have f_145 : F_143 (88) = .inl (g.2 0, 200, .inl (fun _ => 0)) := by rw [eF_143, va_up_ne _ _ (by omega)]; exact f_136
  have f_146 : F_143 (89) = .inl (g.2 2, 26, .inl (fun _ => 0)) := by rw [eF_143, va_up_ne _ _ (by omega)]; exact f_137
  have f_147 : F_143 (90) = .inl (g.2 0, 26, .inl (fun _ => 0)) := by rw [eF_143, va_up_ne _ _ (by omega)]; exact f_138
  have f_148 : F_143 (91) = .inl (g.2 0, 2600, .inl (fun _ => 0)) := by rw [eF_143, va_up_ne _ _ (by omega)]; exact f_139
  have f_149 : F_143 (92) = .inl (g.2 0, 301, .inl (fun _ => 0)) := by rw [eF_143, va_up_ne _ _ (by omega)]; exact f_140
  have f_150 : F_143 (93) = .inl (g.2 0, 28, .inl (fun _ => 0)) := by rw [eF_143, va_up_ne _ _ (by omega)]; exact f_141
  have f_151 : F_143 (94) = .inl (g.2 0, 28, .inl (fun _ => 0)) := by rw [eF_143, va_up_ne _ _ (by omega)]; exact f_142
  refine lv_aload_n hx hb d_M_init_113 rfl (lv_at hl 0 rfl) ?_
  refine lv_iconst (v := 0) hx hb d_M_init_114 (by decide) ?_
  refine hp_putV S hK hV (87) (by omega) f_144 rfl in_kM tyok_M nm_M 17 (by decide) (hts _ (List.mem_cons_of_mem _ tq_113)) rfl rfl rfl (Nat.le_of_ble_eq_true rfl) d_M_init_115 (fun H locs hV => ?_)
  obtain ⟨F_152, eF_152⟩ : ∃ z, z = va_up F_143 (87) (.inr (kM, [.int 0, .ref (hp_ad z0 88), .int 0, .ref (hp_ad z0 89), .ref (hp_ad z0 90), .ref (hp_ad z0 91), .ref (hp_ad z0 92), .int 0, .int (-1), .int 0, .int 0, .int 0, .ref (hp_ad z0 93), .ref (hp_ad z0 94), .int 0, .int 0, .int 0, .int 0, .int 0, .null, .int 0])) := ⟨_, rfl⟩
  replace hV : hp_V g z0 (95) F_152 s.heap H locs := by rw [eF_152]; exact hV
  have f_153 : F_152 (87) = .inr (kM, [.int 0, .ref (hp_ad z0 88), .int 0, .ref (hp_ad z0 89), .ref (hp_ad z0 90), .ref (hp_ad z0 91), .ref (hp_ad z0 92), .int 0, .int (-1), .int 0, .int 0, .int 0, .ref (hp_ad z0 93), .ref (hp_ad z0 94), .int 0, .int 0, .int 0, .int 0, .int 0, .null, .int 0]) := by rw [eF_152, va_up_self]
  have f_154 : F_152 (88) = .inl (g.2 0, 200, .inl (fun _ => 0)) := by rw [eF_152, va_up_ne _ _ (by omega)]; exact f_145
  have f_155 : F_152 (89) = .inl (g.2 2, 26, .inl (fun _ => 0)) := by rw [eF_152, va_up_ne _ _ (by omega)]; exact f_146
  have f_156 : F_152 (90) = .inl (g.2 0, 26, .inl (fun _ => 0)) := by rw [eF_152, va_up_ne _ _ (by omega)]; exact f_147
  have f_157 : F_152 (91) = .inl (g.2 0, 2600, .inl (fun _ => 0)) := by rw [eF_152, va_up_ne _ _ (by omega)]; exact f_148
  have f_158 : F_152 (92) = .inl (g.2 0, 301, .inl (fun _ => 0)) := by rw [eF_152, va_up_ne _ _ (by omega)]; exact f_149
  have f_159 : F_152 (93) = .inl (g.2 0, 28, .inl (fun _ => 0)) := by rw [eF_152, va_up_ne _ _ (by omega)]; exact f_150
  have f_160 : F_152 (94) = .inl (g.2 0, 28, .inl (fun _ => 0)) := by rw [eF_152, va_up_ne _ _ (by omega)]; exact f_151
  refine lv_aload_n hx hb d_M_init_118 rfl (lv_at hl 0 rfl) ?_
  refine lv_iconst (v := 0) hx hb d_M_init_119 (by decide) ?_
  refine hp_putV S hK hV (87) (by omega) f_153 rfl in_kM tyok_M nm_M 18 (by decide) (hts _ (List.mem_cons_of_mem _ tq_114)) rfl rfl rfl (Nat.le_of_ble_eq_true rfl) d_M_init_120 (fun H locs hV => ?_)
  obtain ⟨F_161, eF_161⟩ : ∃ z, z = va_up F_152 (87) (.inr (kM, [.int 0, .ref (hp_ad z0 88), .int 0, .ref (hp_ad z0 89), .ref (hp_ad z0 90), .ref (hp_ad z0 91), .ref (hp_ad z0 92), .int 0, .int (-1), .int 0, .int 0, .int 0, .ref (hp_ad z0 93), .ref (hp_ad z0 94), .int 0, .int 0, .int 0, .int 0, .int 0, .null, .int 0])) := ⟨_, rfl⟩
  replace hV : hp_V g z0 (95) F_161 s.heap H locs := by rw [eF_161]; exact hV
  have f_162 : F_161 (87) = .inr (kM, [.int 0, .ref (hp_ad z0 88), .int 0, .ref (hp_ad z0 89), .ref (hp_ad z0 90), .ref (hp_ad z0 91), .ref (hp_ad z0 92), .int 0, .int (-1), .int 0, .int 0, .int 0, .ref (hp_ad z0 93), .ref (hp_ad z0 94), .int 0, .int 0, .int 0, .int 0, .int 0, .null, .int 0]) := by rw [eF_161, va_up_self]
  have f_163 : F_161 (88) = .inl (g.2 0, 200, .inl (fun _ => 0)) := by rw [eF_161, va_up_ne _ _ (by omega)]; exact f_154
  have f_164 : F_161 (89) = .inl (g.2 2, 26, .inl (fun _ => 0)) := by rw [eF_161, va_up_ne _ _ (by omega)]; exact f_155
  have f_165 : F_161 (90) = .inl (g.2 0, 26, .inl (fun _ => 0)) := by rw [eF_161, va_up_ne _ _ (by omega)]; exact f_156
  have f_166 : F_161 (91) = .inl (g.2 0, 2600, .inl (fun _ => 0)) := by rw [eF_161, va_up_ne _ _ (by omega)]; exact f_157
  have f_167 : F_161 (92) = .inl (g.2 0, 301, .inl (fun _ => 0)) := by rw [eF_161, va_up_ne _ _ (by omega)]; exact f_158
  have f_168 : F_161 (93) = .inl (g.2 0, 28, .inl (fun _ => 0)) := by rw [eF_161, va_up_ne _ _ (by omega)]; exact f_159
  have f_169 : F_161 (94) = .inl (g.2 0, 28, .inl (fun _ => 0)) := by rw [eF_161, va_up_ne _ _ (by omega)]; exact f_160
  refine lv_aload_n hx hb d_M_init_123 rfl (lv_at hl 0 rfl) ?_
  refine lv_sipush (v := 204) hx hb d_M_init_124 (by decide) ?_
  refine hp_newi (N' := 204) S hK hV (hts _ (List.mem_cons_of_mem _ tq_ai)) (show ¬ (204 : Int32) < 0 from by decide) (show (204 : Int32).toNatClampNeg = 204 from by decide) (by omega) (by first | (simp only [rc]; omega) | exact Nat.le_of_ble_eq_true rfl) (by first | (simp only [rc]; omega) | exact Nat.le_of_ble_eq_true rfl) d_M_init_127 (fun H hV => ?_)
  obtain ⟨F_170, eF_170⟩ : ∃ z, z = va_up F_161 (95) (.inl (g.2 0, 204, .inl (fun _ => 0))) := ⟨_, rfl⟩
  replace hV : hp_V g z0 (96) F_170 s.heap H locs := by rw [eF_170]; exact hV
  have f_171 : F_170 (87) = .inr (kM, [.int 0, .ref (hp_ad z0 88), .int 0, .ref (hp_ad z0 89), .ref (hp_ad z0 90), .ref (hp_ad z0 91), .ref (hp_ad z0 92), .int 0, .int (-1), .int 0, .int 0, .int 0, .ref (hp_ad z0 93), .ref (hp_ad z0 94), .int 0, .int 0, .int 0, .int 0, .int 0, .null, .int 0]) := by rw [eF_170, va_up_ne _ _ (by omega)]; exact f_162
  have f_172 : F_170 (88) = .inl (g.2 0, 200, .inl (fun _ => 0)) := by rw [eF_170, va_up_ne _ _ (by omega)]; exact f_163
  have f_173 : F_170 (89) = .inl (g.2 2, 26, .inl (fun _ => 0)) := by rw [eF_170, va_up_ne _ _ (by omega)]; exact f_164
  have f_174 : F_170 (90) = .inl (g.2 0, 26, .inl (fun _ => 0)) := by rw [eF_170, va_up_ne _ _ (by omega)]; exact f_165
  have f_175 : F_170 (91) = .inl (g.2 0, 2600, .inl (fun _ => 0)) := by rw [eF_170, va_up_ne _ _ (by omega)]; exact f_166
  have f_176 : F_170 (92) = .inl (g.2 0, 301, .inl (fun _ => 0)) := by rw [eF_170, va_up_ne _ _ (by omega)]; exact f_167
  have f_177 : F_170 (93) = .inl (g.2 0, 28, .inl (fun _ => 0)) := by rw [eF_170, va_up_ne _ _ (by omega)]; exact f_168
  have f_178 : F_170 (94) = .inl (g.2 0, 28, .inl (fun _ => 0)) := by rw [eF_170, va_up_ne _ _ (by omega)]; exact f_169
  have f_179 : F_170 (95) = .inl (g.2 0, 204, .inl (fun _ => 0)) := by rw [eF_170, va_up_self]
  refine hp_putFV S hK hV (87) (by omega) f_171 rfl in_kM tyok_M nm_M 19 (by decide) (hts _ (List.mem_cons_of_mem _ tq_115)) rfl hnm rfl rfl rfl (Nat.le_of_ble_eq_true rfl) d_M_init_129 (fun H locs hV => ?_)
  obtain ⟨F_180, eF_180⟩ : ∃ z, z = va_up F_170 (87) (.inr (kM, [.int 0, .ref (hp_ad z0 88), .int 0, .ref (hp_ad z0 89), .ref (hp_ad z0 90), .ref (hp_ad z0 91), .ref (hp_ad z0 92), .int 0, .int (-1), .int 0, .int 0, .int 0, .ref (hp_ad z0 93), .ref (hp_ad z0 94), .int 0, .int 0, .int 0, .int 0, .int 0, .ref (hp_ad z0 95), .int 0])) := ⟨_, rfl⟩
  replace hV : hp_V g z0 (96) F_180 s.heap H locs := by rw [eF_180]; exact hV
  have f_181 : F_180 (87) = .inr (kM, [.int 0, .ref (hp_ad z0 88), .int 0, .ref (hp_ad z0 89), .ref (hp_ad z0 90), .ref (hp_ad z0 91), .ref (hp_ad z0 92), .int 0, .int (-1), .int 0, .int 0, .int 0, .ref (hp_ad z0 93), .ref (hp_ad z0 94), .int 0, .int 0, .int 0, .int 0, .int 0, .ref (hp_ad z0 95), .int 0]) := by rw [eF_180, va_up_self]
  have f_182 : F_180 (88) = .inl (g.2 0, 200, .inl (fun _ => 0)) := by rw [eF_180, va_up_ne _ _ (by omega)]; exact f_172
  have f_183 : F_180 (89) = .inl (g.2 2, 26, .inl (fun _ => 0)) := by rw [eF_180, va_up_ne _ _ (by omega)]; exact f_173
  have f_184 : F_180 (90) = .inl (g.2 0, 26, .inl (fun _ => 0)) := by rw [eF_180, va_up_ne _ _ (by omega)]; exact f_174
  have f_185 : F_180 (91) = .inl (g.2 0, 2600, .inl (fun _ => 0)) := by rw [eF_180, va_up_ne _ _ (by omega)]; exact f_175
  have f_186 : F_180 (92) = .inl (g.2 0, 301, .inl (fun _ => 0)) := by rw [eF_180, va_up_ne _ _ (by omega)]; exact f_176
  have f_187 : F_180 (93) = .inl (g.2 0, 28, .inl (fun _ => 0)) := by rw [eF_180, va_up_ne _ _ (by omega)]; exact f_177
  have f_188 : F_180 (94) = .inl (g.2 0, 28, .inl (fun _ => 0)) := by rw [eF_180, va_up_ne _ _ (by omega)]; exact f_178
  have f_189 : F_180 (95) = .inl (g.2 0, 204, .inl (fun _ => 0)) := by rw [eF_180, va_up_ne _ _ (by omega)]; exact f_179
  refine lv_aload_n hx hb d_M_init_132 rfl (lv_at hl 0 rfl) ?_
  refine lv_iconst (v := 0) hx hb d_M_init_133 (by decide) ?_
  refine hp_putV S hK hV (87) (by omega) f_181 rfl in_kM tyok_M nm_M 20 (by decide) (hts _ (List.mem_cons_of_mem _ tq_116)) rfl rfl rfl (Nat.le_of_ble_eq_true rfl) d_M_init_134 (fun H locs hV => ?_)
  obtain ⟨F_190, eF_190⟩ : ∃ z, z = va_up F_180 (87) (.inr (kM, [.int 0, .ref (hp_ad z0 88), .int 0, .ref (hp_ad z0 89), .ref (hp_ad z0 90), .ref (hp_ad z0 91), .ref (hp_ad z0 92), .int 0, .int (-1), .int 0, .int 0, .int 0, .ref (hp_ad z0 93), .ref (hp_ad z0 94), .int 0, .int 0, .int 0, .int 0, .int 0, .ref (hp_ad z0 95), .int 0])) := ⟨_, rfl⟩
  replace hV : hp_V g z0 (96) F_190 s.heap H locs := by rw [eF_190]; exact hV
  have f_191 : F_190 (87) = .inr (kM, [.int 0, .ref (hp_ad z0 88), .int 0, .ref (hp_ad z0 89), .ref (hp_ad z0 90), .ref (hp_ad z0 91), .ref (hp_ad z0 92), .int 0, .int (-1), .int 0, .int 0, .int 0, .ref (hp_ad z0 93), .ref (hp_ad z0 94), .int 0, .int 0, .int 0, .int 0, .int 0, .ref (hp_ad z0 95), .int 0]) := by rw [eF_190, va_up_self]
  have f_192 : F_190 (88) = .inl (g.2 0, 200, .inl (fun _ => 0)) := by rw [eF_190, va_up_ne _ _ (by omega)]; exact f_182
  have f_193 : F_190 (89) = .inl (g.2 2, 26, .inl (fun _ => 0)) := by rw [eF_190, va_up_ne _ _ (by omega)]; exact f_183
  have f_194 : F_190 (90) = .inl (g.2 0, 26, .inl (fun _ => 0)) := by rw [eF_190, va_up_ne _ _ (by omega)]; exact f_184
  have f_195 : F_190 (91) = .inl (g.2 0, 2600, .inl (fun _ => 0)) := by rw [eF_190, va_up_ne _ _ (by omega)]; exact f_185
  have f_196 : F_190 (92) = .inl (g.2 0, 301, .inl (fun _ => 0)) := by rw [eF_190, va_up_ne _ _ (by omega)]; exact f_186
  have f_197 : F_190 (93) = .inl (g.2 0, 28, .inl (fun _ => 0)) := by rw [eF_190, va_up_ne _ _ (by omega)]; exact f_187
  have f_198 : F_190 (94) = .inl (g.2 0, 28, .inl (fun _ => 0)) := by rw [eF_190, va_up_ne _ _ (by omega)]; exact f_188
  have f_199 : F_190 (95) = .inl (g.2 0, 204, .inl (fun _ => 0)) := by rw [eF_190, va_up_ne _ _ (by omega)]; exact f_189
  refine W.cs (cells' := 8) (slots' := 3413) (by omega) (by omega) ?_
  exact hp_retc S hK hV hr hlk d_M_init_137 (⟨⟨fun _ => 0, fun _ => 0, fun _ => 0, fun _ => 0, fun _ => 0, fun _ => 0, fun _ => 0, ⟨f_191, f_192, f_193, f_194, f_195, f_196, f_197, f_198, f_199⟩, ⟨Nat.zero_le _, mL_nil _ _⟩, fun k hk => ⟨rfl, fun z => by cases z⟩, ⟨Nat.zero_le _, mL_nil _ _⟩, ⟨Nat.zero_le _, fun i h => absurd h (Nat.not_lt_zero _), fun k h => absurd h List.not_mem_nil⟩, Nat.zero_le _, mL_nil _ _⟩, fun x hx => by rw [eF_190, va_up_ne _ _ (by omega), eF_180, va_up_ne _ _ (by omega), eF_170, va_up_ne _ _ (by omega), eF_161, va_up_ne _ _ (by omega), eF_152, va_up_ne _ _ (by omega), eF_143, va_up_ne _ _ (by omega), eF_134, va_up_ne _ _ (by omega), eF_125, va_up_ne _ _ (by omega), eF_116, va_up_ne _ _ (by omega), eF_107, va_up_ne _ _ (by omega), eF_99, va_up_ne _ _ (by omega), eF_91, va_up_ne _ _ (by omega), eF_84, va_up_ne _ _ (by omega), eF_77, va_up_ne _ _ (by omega), eF_70, va_up_ne _ _ (by omega), eF_63, va_up_ne _ _ (by omega), eF_56, va_up_ne _ _ (by omega), eF_49, va_up_ne _ _ (by omega), eF_42, va_up_ne _ _ (by omega), eF_36, va_up_ne _ _ (by omega), eF_30, va_up_ne _ _ (by omega), eF_25, va_up_ne _ _ (by omega), eF_20, va_up_ne _ _ (by omega), eF_16, va_up_ne _ _ (by omega), eF_12, va_up_ne _ _ (by omega), eF_9, va_up_ne _ _ (by omega), eF_6, va_up_ne _ _ (by omega), eF_3, va_up_ne _ _ (by omega), eF_1, va_up_ne _ _ (by omega)]⟩)
