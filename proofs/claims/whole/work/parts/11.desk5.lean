theorem md_nu_f (m : Nat) (a : List Int32) (nu : Int32) : (md_nu m a nu).2 ≤ 8 := by unfold md_nu md_ad; split <;> (try split) <;> simp
theorem md_dit_f (xs : List Int32) (k : Nat) (a : List Int32) : (md_dit xs k a).2.1 ≤ 8 := by
  unfold md_dit
  split
  · split
    · split
      · show (md_3 _ _ _ _).2 ≤ 8
        unfold md_3
        split <;> simp
      · exact md_nu_f _ _ _
    · simp
  · split
    · show (md_ad _ _ _).2 ≤ 8
      unfold md_ad
      split <;> simp
    · simp
theorem md_df_f (xs : List Int32) : ∀ (n i : Nat) (a : List Int32), (md_df xs n i a).2.1 ≤ 8
  | 0, _, _ => by simp [md_df]
  | n + 1, i, a => by
    unfold md_df
    split
    · split
      · exact md_df_f xs n _ _
      · exact md_dit_f xs i a
    · simp

/-! readDraft: its loop -/
set_option maxHeartbeats 400000 in
set_option maxRecDepth 100000 in
theorem lp_readDraft {p : Program} {e : Env} {s : State} {m : MethodId} {args : Array Value} {below : List Frame} {meth : Method} {c : Code} (l : Launch) (g : hp_G) (z0 N : Nat) (ad : Nat → Nat)  (Fz : Nat → va_E) (hN : 87 ≤ N) (rs : Nat → List Int32) (kn op : Nat → Bool) (fp lm me dp : Int32) (xs : List Int32) (hxl : xs.length ≤ 200) (R : List Int32 × Nat × Nat) (S : CallFix p m c cc_D_readDraft 4 s args ws_D_readDraft R_D) (hr : meth.sig.returnType = (some .int)) (hlk : meth.locks = false) (hK : hp_K g s) : ∀ (j : Nat) (k b n : Nat) (a : List Int32) (F : Nat → va_E) (rs1 : Nat → List Int32) (wh te nu en : Int32), k ≤ xs.length → xs.length + 1 ≤ k + j → b ≤ 300 → xs.length ≤ max k b + n → R = md_df xs n (max k b) a → vSt g ad F rs1 kn op fp lm me dp wh te nu en → rs1 1 = xs → rs1 3 = a → (∀ j, j ≠ 3 → rs1 j = rs j) → vFr Fz F → ∀ (H : Heap) (locs : List Loc) (ls : Array Slot), hp_W g z0 N ad F s.heap H locs → lv_has ls 4 [(0, .ref (ad 0)), (1, .int (nI b)), (2, .int (nI k))] → W p l e (rk 4) s m args below meth c H locs 0 0 (MQ below (va_Qi (fun v F' => v = nI R.2.1 ∧ (∃ (rs2 : Nat → List Int32) (wh te nu en : Int32), vSt g ad F' rs2 kn op (pf R.2.1 fp (nI R.2.2)) lm me dp wh te nu en ∧ (∀ j, j ≠ 3 → rs2 j = rs j) ∧ (R.2.1 = 0 → rs2 3 = R.1)) ∧ vFr Fz F') (hp_B g z0 N ad) (hp_A z0)) args s 0 0 (hp_A z0)) (F0 m 11 ls []) := by
  obtain ⟨hx, hb, hml, hown, hts⟩ := id S
  have in_kD : ∀ w ∈ u_ws R_D T_D 9, w ∈ ws_D_readDraft := fun w h => List.mem_cons_of_mem _ (in0_D w h)
  have in_kF : ∀ w ∈ u_ws R_F T_F 4, w ∈ ws_D_readDraft := fun w h => List.mem_cons_of_mem _ (in0_F w h)
  intro j
  induction j with
  | zero =>
    intro k b n a F rs1 wh te nu en hk hj hb0 hn hR hS h1 h3 hoth hfr H locs ls hW hl
    exact absurd hj (by omega)
  | succ j ih =>
    intro k b n a F rs1 wh te nu en hk hj hb0 hn hR hS h1 h3 hoth hfr H locs ls hW hl
    refine lv_iload_n hx hb d_D_readDraft_11 rfl (lv_at hl 2 rfl) ?_
    refine lv_aload_n hx hb d_D_readDraft_12 rfl (lv_at hl 0 rfl) ?_
    refine hp_get S hK hW (0) (by omega) rfl hS.1 rfl in_kD 0 (by decide) (hts _ (List.mem_cons_of_mem _ tq_6)) rfl d_D_readDraft_13 ?_
    refine hp_goi hW (va_runV S (s_size l g z0 N ad F hN rs1 kn op fp lm me dp wh te nu en hS 1 rowp_1) (cwV 0 hts (tb_V cd_R_size tq_20 tq_21 tq_22 tq_3) rfl rfl rfl hd_R_size (rk_ok (by omega) (by omega))) (hp_preV hK hW (by omega) rfl (hS.row rowp_1).obj rfl) rfl rfl hl.1 rfl (lv_room (Nat.le_of_ble_eq_true rfl)) d_D_readDraft_16 ⟨Nat.zero_le _, Nat.zero_le _⟩) (fun r_1 F_2 H locs hw hW => ?_)
    obtain ⟨hvq, hFq⟩ := hw
    rw [hFq] at hW
    rw [hvq]
    rw [h1]
    refine lv_icmp_ge (tgt := 90) hx hb d_D_readDraft_19 (by decide) (fun c_19 => ?_) (fun c_19 => ?_)
    · have c_19i := c_19
      replace c_19 : xs.length ≤ k := (nI_leI (a := xs.length) (b := k) (by omega) (by omega)).mp c_19
      refine lv_iconst (v := 0) hx hb d_D_readDraft_90 (by decide) ?_
      have hR1 : R = (a, 0, 0) := by rw [hR]; exact md_df_end (by omega)
      exact hp_reti S hK hW hr hlk d_D_readDraft_91 (⟨by rw [hR1]; rfl, ⟨rs1, _, _, _, _, by rw [hR1]; exact hS, hoth, fun _ => by rw [hR1]; exact h3⟩, hfr⟩)
    · have c_19i := c_19
      replace c_19 : ¬ xs.length ≤ k := fun zz9 => c_19 ((nI_leI (a := xs.length) (b := k) (by omega) (by omega)).mpr zz9)
      refine lv_iload_n hx hb d_D_readDraft_22 rfl (lv_at hl 2 rfl) ?_
      refine lv_iload_n hx hb d_D_readDraft_23 rfl (lv_at hl 1 rfl) ?_
      refine lv_icmp_ge (tgt := 30) hx hb d_D_readDraft_24 (by decide) (fun c_24 => ?_) (fun c_24 => ?_)
      · have c_24i := c_24
        replace c_24 : b ≤ k := (nI_leI (a := b) (b := k) (by omega) (by omega)).mp c_24
        refine lv_aload_n hx hb d_D_readDraft_30 rfl (lv_at hl 0 rfl) ?_
        refine hp_get S hK hW (0) (by omega) rfl hS.1 rfl in_kD 0 (by decide) (hts _ (List.mem_cons_of_mem _ tq_6)) rfl d_D_readDraft_31 ?_
        refine lv_iload_n hx hb d_D_readDraft_34 rfl (lv_at hl 2 rfl) ?_
        refine hp_goi hW (va_runV S (s_at l g z0 N ad F hN rs1 kn op fp lm me dp wh te nu en hS 1 rowp_1 k (by omega)) (cwV 1 hts (tb_V cd_R_at tq_59 tq_60 tq_61 tq_3) rfl rfl rfl hd_R_at (rk_ok (by omega) (by omega))) (hp_preV hK hW (by omega) rfl (hS.row rowp_1).obj rfl) rfl rfl hl.1 rfl (lv_room (Nat.le_of_ble_eq_true rfl)) d_D_readDraft_35 ⟨Nat.zero_le _, Nat.zero_le _⟩) (fun r_3 F_4 H locs hw hW => ?_)
        obtain ⟨hvq, hFq⟩ := hw
        rw [hFq] at hW
        rw [hvq]
        rw [h1]
        refine lv_bipush (v := 38) hx hb d_D_readDraft_38 (by decide) ?_
        refine lv_icmp_ne (tgt := 72) hx hb d_D_readDraft_40 (by decide) (fun c_40 => ?_) (fun c_40 => ?_)
        · have c_40i := c_40
          refine lv_aload_n hx hb d_D_readDraft_72 rfl (lv_at hl 0 rfl) ?_
          refine lv_iload_n hx hb d_D_readDraft_73 rfl (lv_at hl 2 rfl) ?_
          refine hp_goi hW (va_runV S (c_draftByte l g z0 N ad F hN rs1 kn op fp lm me dp wh te nu en hS k (by omega)) (cwV 1 hts (tb_V cd_D_draftByte tq_68 tq_69 tq_70 tq_27) rfl rfl rfl hd_D_draftByte (rk_ok (by omega) (by omega))) (hp_preV hK hW (by omega) rfl hS.1 rfl) rfl rfl hl.1 rfl (lv_room (Nat.le_of_ble_eq_true rfl)) d_D_readDraft_74 ⟨Nat.zero_le _, Nat.zero_le _⟩) (fun r_5 F_6 H locs hw hW => ?_)
          obtain ⟨hv2, hS2, hf2⟩ := hw
          rw [h1, h3] at hv2 hS2
          have hD : (md_dit xs k a) = ((if md_ch (md_at xs k) = true then md_ad 100 a (md_at xs k) else (a, 1)).1, (if md_ch (md_at xs k) = true then md_ad 100 a (md_at xs k) else (a, 1)).2, k) := by unfold md_dit; rw [if_neg c_40i]; split <;> rfl
          replace hv2 : r_5 = nI (md_dit xs k a).2.1 := by rw [hD]; exact hv2
          replace hS2 : vSt g ad F_6 (va_up rs1 3 (md_dit xs k a).1) kn op (pf (md_dit xs k a).2.1 fp (nI (md_dit xs k a).2.2)) lm me dp wh te nu en := by rw [hD]; exact hS2
          obtain ⟨d2, hS2, hd2⟩ : ∃ d, vSt g ad F_6 (va_up rs1 3 d) kn op (pf (md_dit xs k a).2.1 fp (nI (md_dit xs k a).2.2)) lm me dp wh te nu en ∧ ((md_dit xs k a).2.1 = 0 → d = (md_dit xs k a).1) := ⟨_, hS2, fun _ => rfl⟩
          rw [hv2]
          have hnx : md_nx xs k = k + 1 := if_neg c_40i
          refine lv_istore_n (lv' := [(3, .int (nI (md_dit xs k a).2.1)), (0, .ref (ad 0)), (1, .int (nI b)), (2, .int (nI k))]) hx hb d_D_readDraft_77 rfl hl (by decide) rfl (fun ls hl => ?_)
          refine lv_iload_n hx hb d_D_readDraft_78 rfl (lv_at hl 0 rfl) ?_
          have hdl := md_dit_f xs k a
          refine lv_if_eq (tgt := 84) hx hb d_D_readDraft_79 (by decide) (fun c_79 => ?_) (fun c_79 => ?_)
          · have c_79i := c_79
            replace c_79 : (md_dit xs k a).2.1 = 0 := (nI_eq (a := (md_dit xs k a).2.1) (b := 0) (by omega) (by omega)).mp c_79
            refine lv_iinc (v := (nI (k + 1))) (lv' := [(2, .int (nI (k + 1))), (3, .int (nI (md_dit xs k a).2.1)), (0, .ref (ad 0)), (1, .int (nI b))]) hx hb d_D_readDraft_84 hl (k := 3) rfl ((nI_succ (k)).symm) (by decide) rfl (fun ls hl => ?_)
            refine lv_goto (tgt := 11) hx hb d_D_readDraft_87 (by decide) ?_
            have ek : max k b = k := by omega
            have en : max (k + 1) (b) = md_nx xs k := by rw [hnx]; omega
            obtain ⟨n1, rfl⟩ : ∃ n1, n = n1 + 1 := ⟨n - 1, by omega⟩
            rw [ek] at hR
            have hR2 : R = md_df xs n1 (max (k + 1) (b)) (md_dit xs k a).1 := by rw [en, hR]; exact md_df_go (by omega) c_79
            rw [c_79, pf_0 rfl, hd2 c_79] at hS2
            exact ih (k + 1) (b) n1 (md_dit xs k a).1 F_6 (va_up rs1 3 (md_dit xs k a).1) _ _ _ _ (by omega) (by omega) (by have := (md_ref_end xs k).2; omega) (by have := md_nx_ge xs k; rw [en]; omega) hR2 hS2 ((va_up_ne _ _ (by omega)).trans h1) (va_up_self _ _ _) (fun j hj => (va_up_ne _ _ hj).trans (hoth j hj)) (hfr.tr hf2) H locs ls hW (lv_sub hl [2, 3, 0] rfl)
          · have c_79i := c_79
            replace c_79 : ¬ (md_dit xs k a).2.1 = 0 := fun zz9 => c_79 ((nI_eq (a := (md_dit xs k a).2.1) (b := 0) (by omega) (by omega)).mpr zz9)
            refine lv_iload_n hx hb d_D_readDraft_82 rfl (lv_at hl 0 rfl) ?_
            have ek : max k b = k := by omega
            obtain ⟨n1, rfl⟩ : ∃ n1, n = n1 + 1 := ⟨n - 1, by omega⟩
            rw [ek] at hR
            have hR1 : R = (md_dit xs k a) := by rw [hR]; exact md_df_no (by omega) c_79
            exact hp_reti S hK hW hr hlk d_D_readDraft_83 (⟨by rw [hR1], ⟨va_up rs1 3 d2, _, _, _, _, by rw [hR1]; exact hS2, fun j hj => (va_up_ne _ _ hj).trans (hoth j hj), fun z => absurd z (by rw [hR1]; exact c_79)⟩, hfr.tr hf2⟩)
        · have c_40i := c_40
          refine lv_aload_n hx hb d_D_readDraft_43 rfl (lv_at hl 0 rfl) ?_
          refine hp_get S hK hW (0) (by omega) rfl hS.1 rfl in_kD 4 (by decide) (hts _ (List.mem_cons_of_mem _ tq_18)) rfl d_D_readDraft_44 ?_
          refine lv_aload_n hx hb d_D_readDraft_47 rfl (lv_at hl 0 rfl) ?_
          refine hp_get S hK hW (0) (by omega) rfl hS.1 rfl in_kD 0 (by decide) (hts _ (List.mem_cons_of_mem _ tq_6)) rfl d_D_readDraft_48 ?_
          refine lv_iload_n hx hb d_D_readDraft_51 rfl (lv_at hl 2 rfl) ?_
          refine hp_gov hW (va_runV S (s_read l g z0 N ad F hN rs1 kn op fp lm me dp wh te nu en hS 1 rowp_1 k (by omega)) (cwV 2 hts (tb_V cd_F_read tq_62 tq_63 tq_64 tq_16) rfl rfl rfl hd_F_read (rk_ok (by omega) (by omega))) (hp_preV hK hW (by omega) rfl hS.2.2.2.2 rfl) rfl rfl hl.1 rfl (lv_room (Nat.le_of_ble_eq_true rfl)) d_D_readDraft_52 ⟨Nat.zero_le _, Nat.zero_le _⟩) (fun F_8 H locs hw hW => ?_)
          obtain ⟨nu1, hS1, hnu1, hf1⟩ := hw
          rw [h1] at hS1 hnu1
          refine lv_aload_n hx hb d_D_readDraft_55 rfl (lv_at hl 0 rfl) ?_
          refine hp_get S hK hW (0) (by omega) rfl hS1.1 rfl in_kD 4 (by decide) (hts _ (List.mem_cons_of_mem _ tq_18)) rfl d_D_readDraft_56 ?_
          refine hp_getN S hK hW (86) (by omega) rfl hS1.2.2.2.2 rfl in_kF 3 (by decide) (List.mem_of_getElem? (i := 6) rfl) rfl d_D_readDraft_59 ?_
          refine lv_istore_n (lv' := [(1, .int (nI (md_ref xs k).2.2.2)), (0, .ref (ad 0)), (2, .int (nI k))]) hx hb d_D_readDraft_62 rfl hl (by decide) rfl (fun ls hl => ?_)
          refine lv_aload_n hx hb d_D_readDraft_63 rfl (lv_at hl 1 rfl) ?_
          refine lv_iload_n hx hb d_D_readDraft_64 rfl (lv_at hl 2 rfl) ?_
          refine hp_goi hW (va_runV S (c_draftReference l g z0 N ad F_8 hN rs1 kn op fp lm me dp (b2 (md_ref xs k).1) (b2 (md_ref xs k).2.1) nu1 (nI (md_ref xs k).2.2.2) hS1 k (by omega) xs a h1 h3 (by first | exact c_40i | exact not_not.mp c_40i) rfl rfl rfl hnu1) (cwV 1 hts (tb_V cd_D_draftReference tq_65 tq_66 tq_67 tq_27) rfl rfl rfl hd_D_draftReference (rk_ok (by omega) (by omega))) (hp_preV hK hW (by omega) rfl hS1.1 rfl) rfl rfl hl.1 rfl (lv_room (Nat.le_of_ble_eq_true rfl)) d_D_readDraft_65 ⟨Nat.zero_le _, Nat.zero_le _⟩) (fun r_9 F_10 H locs hw hW => ?_)
          obtain ⟨hv2, ⟨d2, hS2, hd2⟩, hf2⟩ := hw
          rw [hv2]
          have hnx : md_nx xs k = (md_ref xs k).2.2.2 := if_pos (by first | exact c_40i | exact not_not.mp c_40i)
          refine lv_istore_n (lv' := [(3, .int (nI (md_dit xs k a).2.1)), (1, .int (nI (md_ref xs k).2.2.2)), (0, .ref (ad 0)), (2, .int (nI k))]) hx hb d_D_readDraft_68 rfl hl (by decide) rfl (fun ls hl => ?_)
          refine lv_goto (tgt := 78) hx hb d_D_readDraft_69 (by decide) ?_
          refine lv_iload_n hx hb d_D_readDraft_78 rfl (lv_at hl 0 rfl) ?_
          have hdl := md_dit_f xs k a
          refine lv_if_eq (tgt := 84) hx hb d_D_readDraft_79 (by decide) (fun c_79 => ?_) (fun c_79 => ?_)
          · have c_79i := c_79
            replace c_79 : (md_dit xs k a).2.1 = 0 := (nI_eq (a := (md_dit xs k a).2.1) (b := 0) (by omega) (by omega)).mp c_79
            refine lv_iinc (v := (nI (k + 1))) (lv' := [(2, .int (nI (k + 1))), (3, .int (nI (md_dit xs k a).2.1)), (1, .int (nI (md_ref xs k).2.2.2)), (0, .ref (ad 0))]) hx hb d_D_readDraft_84 hl (k := 3) rfl ((nI_succ (k)).symm) (by decide) rfl (fun ls hl => ?_)
            refine lv_goto (tgt := 11) hx hb d_D_readDraft_87 (by decide) ?_
            have ek : max k b = k := by omega
            have en : max (k + 1) ((md_ref xs k).2.2.2) = md_nx xs k := by have := (md_ref_end xs k).1; rw [hnx]; omega
            obtain ⟨n1, rfl⟩ : ∃ n1, n = n1 + 1 := ⟨n - 1, by omega⟩
            rw [ek] at hR
            have hR2 : R = md_df xs n1 (max (k + 1) ((md_ref xs k).2.2.2)) (md_dit xs k a).1 := by rw [en, hR]; exact md_df_go (by omega) c_79
            rw [c_79, pf_0 rfl, hd2 c_79] at hS2
            exact ih (k + 1) ((md_ref xs k).2.2.2) n1 (md_dit xs k a).1 F_10 (va_up rs1 3 (md_dit xs k a).1) _ _ _ _ (by omega) (by omega) (by have := (md_ref_end xs k).2; omega) (by have := md_nx_ge xs k; rw [en]; omega) hR2 hS2 ((va_up_ne _ _ (by omega)).trans h1) (va_up_self _ _ _) (fun j hj => (va_up_ne _ _ hj).trans (hoth j hj)) (hfr.tr (hf1.tr hf2)) H locs ls hW (lv_sub hl [3, 2, 0] rfl)
          · have c_79i := c_79
            replace c_79 : ¬ (md_dit xs k a).2.1 = 0 := fun zz9 => c_79 ((nI_eq (a := (md_dit xs k a).2.1) (b := 0) (by omega) (by omega)).mpr zz9)
            refine lv_iload_n hx hb d_D_readDraft_82 rfl (lv_at hl 0 rfl) ?_
            have ek : max k b = k := by omega
            obtain ⟨n1, rfl⟩ : ∃ n1, n = n1 + 1 := ⟨n - 1, by omega⟩
            rw [ek] at hR
            have hR1 : R = (md_dit xs k a) := by rw [hR]; exact md_df_no (by omega) c_79
            exact hp_reti S hK hW hr hlk d_D_readDraft_83 (⟨by rw [hR1], ⟨va_up rs1 3 d2, _, _, _, _, by rw [hR1]; exact hS2, fun j hj => (va_up_ne _ _ hj).trans (hoth j hj), fun z => absurd z (by rw [hR1]; exact c_79)⟩, hfr.tr (hf1.tr hf2)⟩)
      · have c_24i := c_24
        replace c_24 : ¬ b ≤ k := fun zz9 => c_24 ((nI_leI (a := b) (b := k) (by omega) (by omega)).mpr zz9)
        refine lv_goto (tgt := 84) hx hb d_D_readDraft_27 (by decide) ?_
        refine lv_iinc (v := (nI (k + 1))) (lv' := [(2, .int (nI (k + 1))), (0, .ref (ad 0)), (1, .int (nI b))]) hx hb d_D_readDraft_84 hl (k := 2) rfl ((nI_succ (k)).symm) (by decide) rfl (fun ls hl => ?_)
        refine lv_goto (tgt := 11) hx hb d_D_readDraft_87 (by decide) ?_
        exact ih (k + 1) b n a F rs1 wh te nu en (by omega) (by omega) hb0 (by omega) (by rw [show max (k + 1) b = max k b by omega]; exact hR) hS h1 h3 hoth hfr H locs ls hW (lv_sub hl [1, 2, 0] rfl)

/-! readDraft() -/
set_option maxHeartbeats 400000 in
set_option maxRecDepth 100000 in
theorem c_readDraft (l : Launch) (g : hp_G) (z0 N : Nat) (ad : Nat → Nat) (F : Nat → va_E) (hN : 87 ≤ N) (rs : Nat → List Int32) (kn op : Nat → Bool) (fp lm me dp wh te nu en : Int32) (hS : vSt g ad F rs kn op fp lm me dp wh te nu en) : hp_Mi l g z0 N ad y_D_readDraft ws_D_readDraft (rk 4) [.ref (ad 0)] F (fun v F' => v = nI (md_df (rs 1) (rs 1).length 0 []).2.1 ∧ (∃ (rs2 : Nat → List Int32) (wh te nu en : Int32), vSt g ad F' rs2 kn op (pf (md_df (rs 1) (rs 1).length 0 []).2.1 fp (nI (md_df (rs 1) (rs 1).length 0 []).2.2)) lm me dp wh te nu en ∧ (∀ j, j ≠ 3 → rs2 j = rs j) ∧ ((md_df (rs 1) (rs 1).length 0 []).2.1 = 0 → rs2 3 = (md_df (rs 1) (rs 1).length 0 []).1)) ∧ vFr F F') := by
  refine hp_enter (cc := cc_D_readDraft) (maxL := 4) (ret := (some .int)) (by decide) rfl (Nat.le_of_ble_eq_true rfl) ?_
  intro p e s m below meth c S hr hlk hnm hK hW ls hl
  have hl : lv_has ls 4 [(0, .ref (ad 0))] := hl
  obtain ⟨hx, hb, hml, hown, hts⟩ := id S
  have in_kD : ∀ w ∈ u_ws R_D T_D 9, w ∈ ws_D_readDraft := fun w h => List.mem_cons_of_mem _ (in0_D w h)
  refine lv_aload_n hx hb d_D_readDraft_0 rfl (lv_at hl 0 rfl) ?_
  refine hp_get S hK hW (0) (by omega) rfl hS.1 rfl in_kD 1 (by decide) (hts _ (List.mem_cons_of_mem _ tq_7)) rfl d_D_readDraft_1 ?_
  refine hp_gov hW (va_runV S (s_empty l g z0 N ad F hN rs kn op fp lm me dp wh te nu en hS 3 rowp_3) (cwV 0 hts (tb_V cd_R_empty tq_33 tq_34 tq_35 tq_3) rfl rfl rfl hd_R_empty (rk_ok (by omega) (by omega))) (hp_preV hK hW (by omega) rfl (hS.row rowp_3).obj rfl) rfl rfl hl.1 rfl (lv_room (Nat.le_of_ble_eq_true rfl)) d_D_readDraft_4 ⟨Nat.zero_le _, Nat.zero_le _⟩) (fun F_2 H locs hw hW => ?_)
  obtain ⟨hS1, hf1⟩ := hw
  refine lv_iconst (v := 0) hx hb d_D_readDraft_7 (by decide) ?_
  refine lv_istore_n (lv' := [(1, .int 0), (0, .ref (ad 0))]) hx hb d_D_readDraft_8 rfl hl (by decide) rfl (fun ls hl => ?_)
  refine lv_iconst (v := 0) hx hb d_D_readDraft_9 (by decide) ?_
  refine lv_istore_n (lv' := [(2, .int 0), (1, .int 0), (0, .ref (ad 0))]) hx hb d_D_readDraft_10 rfl hl (by decide) rfl (fun ls hl => ?_)
  have hlen := (hS.row rowp_1).len
  rw [cap_1] at hlen
  exact lp_readDraft l g z0 N ad F hN rs kn op fp lm me dp (rs 1) hlen _ S hr hlk hK ((rs 1).length + 1) 0 0 (rs 1).length [] F_2 (va_up rs 3 []) _ _ _ _ (by omega) (by omega) (by omega) (by omega) rfl hS1 (va_up_ne _ _ (by omega)) (va_up_self _ _ _) (fun j hj => va_up_ne _ _ hj) hf1 _ _ ls hW (lv_sub hl [2, 1, 0] rfl)

/-! define(k), no such entity -/
set_option maxHeartbeats 400000 in
set_option maxRecDepth 100000 in
theorem c_define_out (l : Launch) (g : hp_G) (z0 N : Nat) (ad : Nat → Nat) (F : Nat → va_E) (hN : 87 ≤ N) (rs : Nat → List Int32) (kn op : Nat → Bool) (fp lm me dp wh te nu en : Int32) (hS : vSt g ad F rs kn op fp lm me dp wh te nu en) (k : Int32) (hk : ¬ (0 ≤ k ∧ k < 26)) : hp_Mi l g z0 N ad y_D_define ws_D_define (rk 5) [.ref (ad 0), .int k] F (fun v F' => v = -10 ∧ F' = F) := by
  refine hp_enter (cc := cc_D_define) (maxL := 4) (ret := (some .int)) (by decide) rfl (Nat.le_of_ble_eq_true rfl) ?_
  intro p e s m below meth c S hr hlk hnm hK hW ls hl
  have hl : lv_has ls 4 [(0, .ref (ad 0)), (1, .int k)] := hl
  obtain ⟨hx, hb, hml, hown, hts⟩ := id S
  have in_kD : ∀ w ∈ u_ws R_D T_D 9, w ∈ ws_D_define := fun w h => List.mem_cons_of_mem _ (in0_D w h)
  refine lv_aload_n hx hb d_D_define_0 rfl (lv_at hl 0 rfl) ?_
  refine lv_iload_n hx hb d_D_define_1 rfl (lv_at hl 1 rfl) ?_
  refine hp_goq hW (va_runV S (c_entityOf l g z0 N ad F hN rs kn op fp lm me dp wh te nu en hS k) (cwV 1 hts (tb_V cd_D_entityOf tq_26 tq_28 tq_29 tq_27) rfl rfl rfl hd_D_entityOf (rk_ok (by omega) (by omega))) (hp_preV hK hW (by omega) rfl hS.1 rfl) rfl rfl hl.1 rfl (lv_room (Nat.le_of_ble_eq_true rfl)) d_D_define_2 ⟨Nat.zero_le _, Nat.zero_le _⟩) (fun r_1 F_2 H locs hw hW => ?_)
  obtain ⟨hv, hF⟩ := hw
  rw [hF] at hW
  rw [hv, show entA ad k = none from if_neg hk, va_rf_none]
  refine lv_astore_nN (lv' := [(2, .null), (0, .ref (ad 0)), (1, .int k)]) hx hb d_D_define_5 rfl hl (by decide) rfl (fun ls hl => ?_)
  refine lv_aload_nN hx hb d_D_define_6 rfl (lv_at hl 0 rfl) ?_
  refine lv_ifnonnullN hx hb d_D_define_7 ?_
  refine lv_bipush (v := (-10)) hx hb d_D_define_10 (by decide) ?_
  exact hp_reti S hK hW hr hlk d_D_define_12 (⟨rfl, rfl⟩)

/-! define(k) -/
set_option maxHeartbeats 400000 in
set_option maxRecDepth 100000 in
theorem c_define_in (l : Launch) (g : hp_G) (z0 N : Nat) (ad : Nat → Nat) (F : Nat → va_E) (hN : 87 ≤ N) (rs : Nat → List Int32) (kn op : Nat → Bool) (fp lm me dp wh te nu en : Int32) (hS : vSt g ad F rs kn op fp lm me dp wh te nu en) (i : Nat) (hi : i < 26) : hp_Mi l g z0 N ad y_D_define ws_D_define (rk 5) [.ref (ad 0), .int (nI i)] F (fun v F' => v = (if (md_df (rs 1) (rs 1).length 0 []).2.1 = 0 then if kn i = true then -9 else nI (md_df (rs 1) (rs 1).length 0 []).1.length else -nI (md_df (rs 1) (rs 1).length 0 []).2.1) ∧ (∃ (rs2 : Nat → List Int32) (wh te nu en : Int32), vSt g ad F' rs2 (if (md_df (rs 1) (rs 1).length 0 []).2.1 = 0 then va_up kn i true else kn) op (pf (md_df (rs 1) (rs 1).length 0 []).2.1 (-1) (nI (md_df (rs 1) (rs 1).length 0 []).2.2)) lm me dp wh te nu en ∧ rs2 1 = [] ∧ rs2 5 = rs 5 ∧ (∀ k, k ≠ i → rs2 (9 + 3 * k) = rs (9 + 3 * k)) ∧ rs2 (9 + 3 * i) = (if (md_df (rs 1) (rs 1).length 0 []).2.1 = 0 ∧ kn i = false then (md_df (rs 1) (rs 1).length 0 []).1 else rs (9 + 3 * i))) ∧ vFr F F') := by
  refine hp_enter (cc := cc_D_define) (maxL := 4) (ret := (some .int)) (by decide) rfl (Nat.le_of_ble_eq_true rfl) ?_
  intro p e s m below meth c S hr hlk hnm hK hW ls hl
  have hl : lv_has ls 4 [(0, .ref (ad 0)), (1, .int (nI i))] := hl
  obtain ⟨hx, hb, hml, hown, hts⟩ := id S
  have in_kD : ∀ w ∈ u_ws R_D T_D 9, w ∈ ws_D_define := fun w h => List.mem_cons_of_mem _ (in0_D w h)
  have in_kE : ∀ w ∈ u_ws R_E T_E 3, w ∈ ws_D_define := fun w h => List.mem_cons_of_mem _ (in0_E w h)
  refine lv_aload_n hx hb d_D_define_0 rfl (lv_at hl 0 rfl) ?_
  refine lv_iload_n hx hb d_D_define_1 rfl (lv_at hl 1 rfl) ?_
  refine hp_goq hW (va_runV S (c_entityOf l g z0 N ad F hN rs kn op fp lm me dp wh te nu en hS (nI i)) (cwV 1 hts (tb_V cd_D_entityOf tq_26 tq_28 tq_29 tq_27) rfl rfl rfl hd_D_entityOf (rk_ok (by omega) (by omega))) (hp_preV hK hW (by omega) rfl hS.1 rfl) rfl rfl hl.1 rfl (lv_room (Nat.le_of_ble_eq_true rfl)) d_D_define_2 ⟨Nat.zero_le _, Nat.zero_le _⟩) (fun r_1 F_2 H locs hw hW => ?_)
  obtain ⟨hv, hF⟩ := hw
  rw [hF] at hW
  rw [hv, entA_in hi, va_rf_some]
  refine lv_astore_n (lv' := [(2, .ref (ad (8 + 3 * i))), (0, .ref (ad 0)), (1, .int (nI i))]) hx hb d_D_define_5 rfl hl (by decide) rfl (fun ls hl => ?_)
  refine lv_aload_n hx hb d_D_define_6 rfl (lv_at hl 0 rfl) ?_
  refine lv_ifnonnull (tgt := 13) hx hb d_D_define_7 (by decide) ?_
  refine lv_aload_n hx hb d_D_define_13 rfl (lv_at hl 1 rfl) ?_
  refine lv_iconst (v := (-1)) hx hb d_D_define_14 (by decide) ?_
  refine hp_put S hK hW (0) (by omega) rfl hS.1 rfl in_kD tyok_D nm_D 5 (by decide) (hts _ (List.mem_cons_of_mem _ tq_19)) rfl rfl rfl (Nat.le_of_ble_eq_true rfl) d_D_define_15 (fun H locs hW => ?_)
  obtain ⟨F_3, eF_3⟩ : ∃ z, z = va_up F (0) (.inr (kD, [.ref (ad 1), .ref (ad 3), .ref (ad 5), .ref (ad 7), .ref (ad 86), .int (-1), .int lm, .int me, .int dp])) := ⟨_, rfl⟩
  replace hW : hp_W g z0 N ad F_3 s.heap H locs := by rw [eF_3]; exact hW
  have f_4 : F_3 (0) = .inr (kD, [.ref (ad 1), .ref (ad 3), .ref (ad 5), .ref (ad 7), .ref (ad 86), .int (-1), .int lm, .int me, .int dp]) := by rw [eF_3, va_up_self]
  have f_5 : F_3 (86) = .inr (kF, [.int wh, .int te, .int nu, .int en]) := by rw [eF_3, va_up_ne _ _ (by omega)]; exact hS.2.2.2.2
  have hS0 := hS.desk f_4 (fun x hx => by rw [eF_3, va_up_ne _ _ hx])
  have hf0 : vFr F F_3 := fun x hx => by rw [eF_3, va_up_ne _ _ (by omega)]
  refine lv_aload_n hx hb d_D_define_18 rfl (lv_at hl 1 rfl) ?_
  refine hp_goi hW (va_runV S (c_readDraft l g z0 N ad F_3 hN rs kn op ((-1)) lm me dp wh te nu en hS0) (cwV 0 hts (tb_V cd_D_readDraft tq_30 tq_31 tq_32 tq_27) rfl rfl rfl hd_D_readDraft (rk_ok (by omega) (by omega))) (hp_preV hK hW (by omega) rfl hS0.1 rfl) rfl rfl hl.1 rfl (lv_room (Nat.le_of_ble_eq_true rfl)) d_D_define_19 ⟨Nat.zero_le _, Nat.zero_le _⟩) (fun r_6 F_7 H locs hw hW => ?_)
  obtain ⟨hv1, ⟨rs2, wh2, te2, nu2, en2, hS1, ho1, hd1⟩, hf1⟩ := hw
  rw [hv1]
  refine lv_istore_n (lv' := [(3, .int (nI (md_df (rs 1) (rs 1).length 0 []).2.1)), (2, .ref (ad (8 + 3 * i))), (0, .ref (ad 0)), (1, .int (nI i))]) hx hb d_D_define_22 rfl hl (by decide) rfl (fun ls hl => ?_)
  refine lv_aload_n hx hb d_D_define_23 rfl (lv_at hl 2 rfl) ?_
  refine hp_get S hK hW (0) (by omega) rfl hS1.1 rfl in_kD 0 (by decide) (hts _ (List.mem_cons_of_mem _ tq_6)) rfl d_D_define_24 ?_
  refine hp_gov hW (va_runV S (s_empty l g z0 N ad F_7 hN rs2 kn op (pf (md_df (rs 1) (rs 1).length 0 []).2.1 (-1) (nI (md_df (rs 1) (rs 1).length 0 []).2.2)) lm me dp wh2 te2 nu2 en2 hS1 1 rowp_1) (cwV 0 hts (tb_V cd_R_empty tq_33 tq_34 tq_35 tq_3) rfl rfl rfl hd_R_empty (rk_ok (by omega) (by omega))) (hp_preV hK hW (by omega) rfl (hS1.row rowp_1).obj rfl) rfl rfl hl.1 rfl (lv_room (Nat.le_of_ble_eq_true rfl)) d_D_define_27 ⟨Nat.zero_le _, Nat.zero_le _⟩) (fun F_9 H locs hw hW => ?_)
  obtain ⟨hS2, hf2⟩ := hw
  have hRl := md_df_f (rs 1) (rs 1).length 0 []
  refine lv_iload_n hx hb d_D_define_30 rfl (lv_at hl 0 rfl) ?_
  refine lv_if_eq (tgt := 37) hx hb d_D_define_31 (by decide) (fun c_31 => ?_) (fun c_31 => ?_)
  · have c_31i := c_31
    replace c_31 : (md_df (rs 1) (rs 1).length 0 []).2.1 = 0 := (nI_eq (a := (md_df (rs 1) (rs 1).length 0 []).2.1) (b := 0) (by omega) (by omega)).mp c_31
    refine lv_aload_n hx hb d_D_define_37 rfl (lv_at hl 1 rfl) ?_
    refine hp_getN S hK hW (8 + 3 * i) (by omega) rfl (hS2.2.2.2.1 i hi) rfl in_kE 1 (by decide) (List.mem_of_getElem? (i := 1) rfl) rfl d_D_define_38 ?_
    refine lv_if_eq (tgt := 47) hx hb d_D_define_41 (by decide) (fun c_41 => ?_) (fun c_41 => ?_)
    · have c_41i := c_41
      refine lv_aload_n hx hb d_D_define_47 rfl (lv_at hl 1 rfl) ?_
      refine lv_aload_n hx hb d_D_define_48 rfl (lv_at hl 2 rfl) ?_
      refine hp_get S hK hW (0) (by omega) rfl hS2.1 rfl in_kD 1 (by decide) (hts _ (List.mem_cons_of_mem _ tq_7)) rfl d_D_define_49 ?_
      refine hp_gov hW (va_runV S (c_learn l g z0 N ad F_9 hN (va_up rs2 1 []) kn op (pf (md_df (rs 1) (rs 1).length 0 []).2.1 (-1) (nI (md_df (rs 1) (rs 1).length 0 []).2.2)) lm me dp wh2 te2 nu2 en2 hS2 i hi (by have := (hS2.row rowp_3).len; rw [cap_3] at this; exact this)) (cwV 1 hts (tb_V cd_E_learn tq_36 tq_37 tq_38 tq_12) rfl rfl rfl hd_E_learn (rk_ok (by omega) (by omega))) (hp_preV hK hW (by omega) rfl (hS2.2.2.2.1 i hi) rfl) rfl rfl hl.1 rfl (lv_room (Nat.le_of_ble_eq_true rfl)) d_D_define_52 ⟨Nat.zero_le _, Nat.zero_le _⟩) (fun F_11 H locs hw hW => ?_)
      obtain ⟨hS3, hf3⟩ := hw
      refine lv_aload_n hx hb d_D_define_55 rfl (lv_at hl 2 rfl) ?_
      refine hp_get S hK hW (0) (by omega) rfl hS3.1 rfl in_kD 1 (by decide) (hts _ (List.mem_cons_of_mem _ tq_7)) rfl d_D_define_56 ?_
      refine hp_goi hW (va_runV S (s_size l g z0 N ad F_11 hN (va_up (va_up rs2 1 []) (9 + 3 * i) ((va_up rs2 1 []) 3)) (va_up kn i true) op (pf (md_df (rs 1) (rs 1).length 0 []).2.1 (-1) (nI (md_df (rs 1) (rs 1).length 0 []).2.2)) lm me dp wh2 te2 nu2 en2 hS3 3 rowp_3) (cwV 0 hts (tb_V cd_R_size tq_20 tq_21 tq_22 tq_3) rfl rfl rfl hd_R_size (rk_ok (by omega) (by omega))) (hp_preV hK hW (by omega) rfl (hS3.row rowp_3).obj rfl) rfl rfl hl.1 rfl (lv_room (Nat.le_of_ble_eq_true rfl)) d_D_define_59 ⟨Nat.zero_le _, Nat.zero_le _⟩) (fun r_12 F_13 H locs hw hW => ?_)
      obtain ⟨hvq, hFq⟩ := hw
      rw [hFq] at hW
      rw [hvq]
      have e3 : ((va_up (va_up rs2 1 []) (9 + 3 * i) ((va_up rs2 1 []) 3)) 3) = (md_df (rs 1) (rs 1).length 0 []).1 := (va_up_ne _ _ (by omega)).trans ((va_up_ne _ _ (by omega)).trans (hd1 c_31))
      rw [e3]
      have h31 := c_31
      have hki : kn i = false := b2_0.mp c_41i
      exact hp_reti S hK hW hr hlk d_D_define_62 (by rw [if_pos h31, if_neg (by rw [hki]; exact fun z => by cases z), if_pos h31, if_pos ⟨h31, hki⟩]; exact ⟨rfl, ⟨_, _, _, _, _, hS3, by rw [va_up_ne _ _ (by omega)]; exact va_up_self _ _ _, (by rw [va_up_ne _ _ (by omega)]; rw [va_up_ne _ _ (by omega)]; exact ho1 5 (by omega)), (fun k hk => by rw [va_up_ne _ _ (by omega)]; rw [va_up_ne _ _ (by omega)]; exact ho1 _ (by omega)), by rw [va_up_self, va_up_ne _ _ (by omega)]; exact hd1 h31⟩, (((hf0.tr hf1).tr hf2).tr hf3)⟩)
    · have c_41i := c_41
      refine lv_bipush (v := (-9)) hx hb d_D_define_44 (by decide) ?_
      have h31 := c_31
      have hki : kn i = true := b2_n0.mp c_41i
      have hke : va_up kn i true = kn := by rw [← hki, va_up_eta]
      exact hp_reti S hK hW hr hlk d_D_define_46 (by rw [if_pos h31, if_pos hki, if_pos h31, hke, if_neg (fun z => by rw [hki] at z; cases z.2)]; exact ⟨rfl, ⟨_, _, _, _, _, hS2, va_up_self _ _ _, (by rw [va_up_ne _ _ (by omega)]; exact ho1 5 (by omega)), (fun k hk => by rw [va_up_ne _ _ (by omega)]; exact ho1 _ (by omega)), by rw [va_up_ne _ _ (by omega)]; exact ho1 _ (by omega)⟩, ((hf0.tr hf1).tr hf2)⟩)
  · have c_31i := c_31
    replace c_31 : ¬ (md_df (rs 1) (rs 1).length 0 []).2.1 = 0 := fun zz9 => c_31 ((nI_eq (a := (md_df (rs 1) (rs 1).length 0 []).2.1) (b := 0) (by omega) (by omega)).mpr zz9)
    refine lv_iload_n hx hb d_D_define_34 rfl (lv_at hl 0 rfl) ?_
    refine lv_ineg hx hb d_D_define_35 ?_
    have h31 := c_31
    exact hp_reti S hK hW hr hlk d_D_define_36 (by rw [if_neg h31, if_neg h31, if_neg (fun z => h31 z.1)]; exact ⟨rfl, ⟨_, _, _, _, _, hS2, va_up_self _ _ _, (by rw [va_up_ne _ _ (by omega)]; exact ho1 5 (by omega)), (fun k hk => by rw [va_up_ne _ _ (by omega)]; exact ho1 _ (by omega)), by rw [va_up_ne _ _ (by omega)]; exact ho1 _ (by omega)⟩, ((hf0.tr hf1).tr hf2)⟩)
