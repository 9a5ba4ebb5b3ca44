/-! Row(n), at place r, the last one -/
set_option maxHeartbeats 400000 in
set_option maxRecDepth 100000 in
theorem c_Row_init (l : Launch) (g : hp_G) (z0 : Nat) (r n : Nat) (hn : n ≤ 1000) (F : Nat → va_E) (hF : F r = .inr (kR, [.null, .int 0])) : hp_Mc l g z0 (r + 1) y_R_init ws_R_init (rc 1 1 n) [.ref (hp_ad z0 r), .int (nI n)] F 1 n (fun F' => F' r = .inr (kR, [.ref (hp_ad z0 (r + 1)), .int 0]) ∧ F' (r + 1) = .inl (g.2 0, n, .inl (fun _ => 0)) ∧ ∀ x, x < r → F' x = F x) := by
  refine hp_enterV (cc := cc_R_init) (maxL := 2) (ret := none) (by decide) rfl (Nat.le_of_ble_eq_true rfl) ?_
  intro p e s m below meth c S hr hlk hnm hK hV ls hl
  have hl : lv_has ls 2 [(0, .ref (hp_ad z0 r)), (1, .int (nI n))] := hl
  obtain ⟨hx, hb, hml, hown, hts⟩ := id S
  have in_kR : ∀ w ∈ u_ws R_R T_R 2, w ∈ ws_R_init := fun w h => List.mem_cons_of_mem _ (in0_R w h)
  refine lv_aload_n hx hb d_R_init_0 rfl (lv_at hl 0 rfl) ?_
  refine W.objInit hx hb hown (hts _ (List.mem_cons_of_mem _ tq_191)) (hts _ (List.mem_cons_of_mem _ tq_oi)) (hts _ (List.mem_cons_of_mem _ tq_oc)) rfl (by rw [hml]; exact hl.1) rfl d_R_init_1 (by simp only [rc]; omega) (by show 2 * 0 + 0 + 12 ≤ _; simp only [rc]; omega) ?_
  refine W.eq (g2 := F0 m 4 ls []) rfl ?_
  refine lv_aload_n hx hb d_R_init_4 rfl (lv_at hl 0 rfl) ?_
  refine lv_iload_n hx hb d_R_init_5 rfl (lv_at hl 1 rfl) ?_
  refine lv_iconst (v := 0) hx hb d_R_init_6 (by decide) ?_
  refine va_mmax hx hb (hml.trans hl.1.symm) hown (hts _ (List.mem_cons_of_mem _ tq_192)) (hts _ (List.mem_cons_of_mem _ tq_ms)) (hts _ (List.mem_cons_of_mem _ tq_mi)) (hts _ (List.mem_cons_of_mem _ tq_mc)) (by simp only [rc]; omega) (by show 1 + 0 + 13 ≤ _; simp only [rc]; omega) (Nat.zero_le _) (Nat.zero_le _) d_R_init_7 ?_
  rw [show (if nI n < 0 then 0 else nI n) = nI n from if_neg (nI_pos (by omega))]
  refine hp_newi (N' := n) S hK hV (hts _ (List.mem_cons_of_mem _ tq_ai)) (show ¬ ((nI n) : Int32) < 0 from nI_pos (by omega)) (show ((nI n) : Int32).toNatClampNeg = n from nI_clamp (by omega)) (by omega) (by first | (simp only [rc]; omega) | exact Nat.le_of_ble_eq_true rfl) (by first | (simp only [rc]; omega) | exact Nat.le_of_ble_eq_true rfl) d_R_init_10 (fun H hV => ?_)
  obtain ⟨F_1, eF_1⟩ : ∃ z, z = va_up F (r + 1) (.inl (g.2 0, n, .inl (fun _ => 0))) := ⟨_, rfl⟩
  replace hV : hp_V g z0 (r + 2) F_1 s.heap H [] := by rw [eF_1]; exact hV
  have f_2 : F_1 (r) = .inr (kR, [.null, .int 0]) := by rw [eF_1, va_up_ne _ _ (by omega)]; exact hF
  have f_3 : F_1 (r + 1) = .inl (g.2 0, n, .inl (fun _ => 0)) := by rw [eF_1, va_up_self]
  refine hp_putFV S hK hV (r) (by omega) f_2 rfl in_kR tyok_R nm_R 0 (by decide) (hts _ (List.mem_cons_of_mem _ tq_193)) rfl hnm rfl rfl rfl (Nat.le_of_ble_eq_true rfl) d_R_init_12 (fun H locs hV => ?_)
  obtain ⟨F_4, eF_4⟩ : ∃ z, z = va_up F_1 (r) (.inr (kR, [.ref (hp_ad z0 (r + 1)), .int 0])) := ⟨_, rfl⟩
  replace hV : hp_V g z0 (r + 2) F_4 s.heap H locs := by rw [eF_4]; exact hV
  have f_5 : F_4 (r) = .inr (kR, [.ref (hp_ad z0 (r + 1)), .int 0]) := by rw [eF_4, va_up_self]
  have f_6 : F_4 (r + 1) = .inl (g.2 0, n, .inl (fun _ => 0)) := by rw [eF_4, va_up_ne _ _ (by omega)]; exact f_3
  refine W.cs (cells' := 1) (slots' := n) (by omega) (by omega) ?_
  exact hp_retc S hK hV hr hlk d_R_init_15 (⟨f_5, f_6, fun x hx => by rw [eF_4, va_up_ne _ _ (by omega), eF_1, va_up_ne _ _ (by omega)]⟩)

/-! Entity(), at place q, the last one -/
set_option maxHeartbeats 400000 in
set_option maxRecDepth 100000 in
theorem c_Ent_init (l : Launch) (g : hp_G) (z0 : Nat) (q : Nat) (F : Nat → va_E) (hF : F q = .inr (kE, [.null, .int 0, .int 0])) : hp_Mc l g z0 (q + 1) y_E_init ws_E_init (rc 2 2 102) [.ref (hp_ad z0 q)] F 2 102 (fun F' => F' q = .inr (kE, [.ref (hp_ad z0 (q + 1)), .int 0, .int 0]) ∧ F' (q + 1) = .inr (kR, [.ref (hp_ad z0 (q + 2)), .int 0]) ∧ F' (q + 2) = .inl (g.2 0, 100, .inl (fun _ => 0)) ∧ ∀ x, x < q → F' x = F x) := by
  refine hp_enterV (cc := cc_E_init) (maxL := 1) (ret := none) (by decide) rfl (Nat.le_of_ble_eq_true rfl) ?_
  intro p e s m below meth c S hr hlk hnm hK hV ls hl
  have hl : lv_has ls 1 [(0, .ref (hp_ad z0 q))] := hl
  obtain ⟨hx, hb, hml, hown, hts⟩ := id S
  have in_kE : ∀ w ∈ u_ws R_E T_E 3, w ∈ ws_E_init := fun w h => List.mem_cons_of_mem _ (in0_E w h)
  have in_kR : ∀ w ∈ u_ws R_R T_R 2, w ∈ ws_E_init := fun w h => List.mem_cons_of_mem _ (in0_R w h)
  refine lv_aload_n hx hb d_E_init_0 rfl (lv_at hl 0 rfl) ?_
  refine W.objInit hx hb hown (hts _ (List.mem_cons_of_mem _ tq_165)) (hts _ (List.mem_cons_of_mem _ tq_oi)) (hts _ (List.mem_cons_of_mem _ tq_oc)) rfl (by rw [hml]; exact hl.1) rfl d_E_init_1 (by simp only [rc]; omega) (by show 2 * 0 + 0 + 12 ≤ _; simp only [rc]; omega) ?_
  refine W.eq (g2 := F0 m 4 ls []) rfl ?_
  refine lv_aload_n hx hb d_E_init_4 rfl (lv_at hl 0 rfl) ?_
  refine hp_new (ci := kR) (fs := [.null, .int 0]) S hK hV rfl in_kR tyok_R (hts _ (List.mem_cons_of_mem _ tq_166)) (hts _ (List.mem_cons_of_mem _ tq_2)) (hts _ (List.mem_cons_of_mem _ tq_3)) (fun j hj => by rcases (show j = 0 ∨ j = 1 by omega) with rfl | rfl <;> rfl) (by first | (simp only [rc]; omega) | exact Nat.le_of_ble_eq_true rfl) (by first | (simp only [rc]; omega) | exact Nat.le_of_ble_eq_true rfl) d_E_init_5 (fun H hV => ?_)
  obtain ⟨F_1, eF_1⟩ : ∃ z, z = va_up F (q + 1) (.inr (kR, [.null, .int 0])) := ⟨_, rfl⟩
  replace hV : hp_V g z0 (q + 2) F_1 s.heap H [] := by rw [eF_1]; exact hV
  have f_2 : F_1 (q) = .inr (kE, [.null, .int 0, .int 0]) := by rw [eF_1, va_up_ne _ _ (by omega)]; exact hF
  have f_3 : F_1 (q + 1) = .inr (kR, [.null, .int 0]) := by rw [eF_1, va_up_self]
  refine lv_dup hx hb d_E_init_8 rfl ?_
  refine lv_bipush (v := 100) hx hb d_E_init_9 (by decide) ?_
  refine hp_goc (k := 1) (ks := 100) hV (va_runI S (c_Row_init l g z0 (q + 1) 100 (by omega) F_1 f_3) (cwI 1 hts (tb_in cd_R_init) rfl rfl rfl (hts _ (List.mem_cons_of_mem _ tq_3)) (hts _ (List.mem_cons_of_mem _ tq_167)) (hts _ (List.mem_cons_of_mem _ tq_5)) rfl hd_R_init.2 (rc_ok (by omega) (by omega))) (hp_preC hK hV) rfl rfl hl.1 rfl (lv_room (Nat.le_of_ble_eq_true rfl)) d_E_init_11 ⟨(by first | (simp only [rc]; omega) | exact Nat.le_of_ble_eq_true rfl), (by first | (simp only [rc]; omega) | exact Nat.le_of_ble_eq_true rfl)⟩) (fun F_4 H locs hw hV => ?_)
  replace hV : hp_V g z0 (q + 3) F_4 s.heap H locs := hV
  obtain ⟨hw_5a, hw_5b, hw_5c⟩ := hw
  have f_6 : F_4 (q) = .inr (kE, [.null, .int 0, .int 0]) := (by rw [hw_5c (q) (by omega)]; exact f_2)
  refine hp_putFV S hK hV (q) (by omega) f_6 rfl in_kE tyok_E nm_E 0 (by decide) (hts _ (List.mem_cons_of_mem _ tq_168)) rfl hnm rfl rfl rfl (Nat.le_of_ble_eq_true rfl) d_E_init_14 (fun H locs hV => ?_)
  obtain ⟨F_7, eF_7⟩ : ∃ z, z = va_up F_4 (q) (.inr (kE, [.ref (hp_ad z0 (q + 1)), .int 0, .int 0])) := ⟨_, rfl⟩
  replace hV : hp_V g z0 (q + 3) F_7 s.heap H locs := by rw [eF_7]; exact hV
  have f_8 : F_7 (q) = .inr (kE, [.ref (hp_ad z0 (q + 1)), .int 0, .int 0]) := by rw [eF_7, va_up_self]
  have f_9 : F_7 (q + 1) = .inr (kR, [.ref (hp_ad z0 (q + 2)), .int 0]) := by rw [eF_7, va_up_ne _ _ (by omega)]; exact hw_5a
  have f_10 : F_7 (q + 2) = .inl (g.2 0, 100, .inl (fun _ => 0)) := by rw [eF_7, va_up_ne _ _ (by omega)]; exact hw_5b
  refine W.cs (cells' := 2) (slots' := 102) (by omega) (by omega) ?_
  exact hp_retc S hK hV hr hlk d_E_init_17 (⟨f_8, f_9, f_10, fun x hx => by rw [eF_7, va_up_ne _ _ (by omega), hw_5c x (by omega), eF_1, va_up_ne _ _ (by omega)]⟩)

/-! Reference() -/
set_option maxHeartbeats 400000 in
set_option maxRecDepth 100000 in
theorem c_Ref_init (l : Launch) (g : hp_G) (z0 : Nat) (q : Nat) (F : Nat → va_E) (hF : F q = .inr (kF, [.int 0, .int 0, .int 0, .int 0])) : hp_Mc l g z0 (q + 1) y_F_init ws_F_init (rc 1 0 0) [.ref (hp_ad z0 q)] F 0 0 (fun F' => F' = F) := by
  refine hp_enterV (cc := cc_F_init) (maxL := 1) (ret := none) (by decide) rfl (Nat.le_of_ble_eq_true rfl) ?_
  intro p e s m below meth c S hr hlk hnm hK hV ls hl
  have hl : lv_has ls 1 [(0, .ref (hp_ad z0 q))] := hl
  obtain ⟨hx, hb, hml, hown, hts⟩ := id S
  have in_kF : ∀ w ∈ u_ws R_F T_F 4, w ∈ ws_F_init := fun w h => List.mem_cons_of_mem _ (in0_F w h)
  refine lv_aload_n hx hb d_F_init_0 rfl (lv_at hl 0 rfl) ?_
  refine W.objInit hx hb hown (hts _ (List.mem_cons_of_mem _ tq_174)) (hts _ (List.mem_cons_of_mem _ tq_oi)) (hts _ (List.mem_cons_of_mem _ tq_oc)) rfl (by rw [hml]; exact hl.1) rfl d_F_init_1 (by simp only [rc]; omega) (by show 2 * 0 + 0 + 12 ≤ _; simp only [rc]; omega) ?_
  refine W.eq (g2 := F0 m 4 ls []) rfl ?_
  refine W.cs (cells' := 0) (slots' := 0) (by omega) (by omega) ?_
  exact hp_retc S hK hV hr hlk d_F_init_4 (rfl)
