set_option maxHeartbeats 400000 in
set_option maxRecDepth 100000 in
theorem df_head {p : Program} {e : Env} {s : State} {m : MethodId} {args : Array Value} {below : List Frame} {meth : Method} {c : Code} {Q : State → Prop} (l : Launch) (g : hp_G) (z0 N : Nat) (ad : Nat → Nat) (hN : 96 ≤ N) (tape : List Int32) (kn : Nat → Bool) (rt : Nat → List Int32) (la : List Int32) (ap : Nat → Int32) (me dp ou x1 : Int32) (F : Nat → va_E) (mm1 : List Int32) (fp1 fa1 ki1 nu1 be1 x2 : Int32) (hfa : ¬ fa1 = 0) (hS : mS g ad F tape kn rt la mm1 [] ap 0 fp1 me dp fa1 ou ki1 nu1 be1) (S : CallFix p m c cc_M_define 5 s args ws_M_define R_M) (hK : hp_K g s) (kx : ∀ (H : Heap) (locs : List Loc) (ls : Array Slot), hp_W g z0 N ad F s.heap H locs → lv_has ls 5 [(0, .ref (ad 87)), (1, .int x1), (2, .int x2)] → W p l e (rk 3) s m args below meth c H locs 0 0 Q (F0 m 161 ls [])) (H : Heap) (locs : List Loc) (ls : Array Slot) (hW : hp_W g z0 N ad F s.heap H locs) (hl : lv_has ls 5 [(0, .ref (ad 87)), (1, .int x1), (2, .int x2)]) : W p l e (rk 3) s m args below meth c H locs 0 0 Q (F0 m 29 ls []) := by
  obtain ⟨hx, hb, hml, hown, hts⟩ := id S
  have in_kM : ∀ w ∈ u_ws R_M T_M 21, w ∈ ws_M_define := fun w h => List.mem_cons_of_mem _ (in0_M w h)
  obtain ⟨tp, hs, sz, tx, vl, ey, md, hR, ⟨htl, htp⟩, hT, ⟨hll, hvl⟩, hKs, hml0, hmd⟩ := id hS
  refine lv_iload_n hx hb d_M_define_29 rfl (lv_at hl 2 rfl) ?_
  refine lv_aload_n hx hb d_M_define_30 rfl (lv_at hl 0 rfl) ?_
  refine hp_get S hK hW (87) (by omega) rfl hR.1 rfl in_kM 2 (by decide) (hts _ (List.mem_cons_of_mem _ tq_98)) rfl d_M_define_31 ?_
  refine lv_icmp_ge (tgt := 161) hx hb d_M_define_34 (by decide) (fun c_34 => ?_) (fun c_34 => ?_)
  · have c_34i := c_34
    have c_34j := Int32.not_lt.mpr c_34
    exact kx H locs ls hW (lv_sub hl [0, 1, 2] rfl)
  · have c_34i := c_34
    have c_34j := Int32.not_le.mp c_34
    refine lv_aload_n hx hb d_M_define_37 rfl (lv_at hl 0 rfl) ?_
    refine hp_get S hK hW (87) (by omega) rfl hR.1 rfl in_kM 14 (by decide) (hts _ (List.mem_cons_of_mem _ tq_110)) rfl d_M_define_38 ?_
    refine lv_if_ne (tgt := 161) hx hb d_M_define_41 (by decide) (fun c_41 => ?_) (fun c_41 => absurd c_41 (show ¬ (fa1 : Int32) = 0 from hfa))
    exact kx H locs ls hW (lv_sub hl [0, 1, 2] rfl)

theorem dit_bad {xs : List Int32} {i : Nat} {a : List Int32} (h : md_at xs i = 38) (hL : ¬ lkf 0 xs.length (md_ref xs i) = 0) : md_dit xs i a = (a, lkf 0 xs.length (md_ref xs i), lkp i (md_ref xs i)) := by
  unfold md_dit lkp
  rw [if_pos h]
  unfold lkf at hL ⊢
  by_cases h1 : (md_ref xs i).1 = true
  · rw [if_pos h1] at hL
    rw [if_pos h1, if_pos h1, if_pos h1]
    have h2 : ¬ ((md_ref xs i).2.1 = true ∨ md_ch (md_ref xs i).2.2.1 = true) := fun z => hL (if_pos z)
    rw [if_neg (fun z => h2 (Or.inl z)), if_neg h2]
    unfold md_nu
    rw [if_neg (fun z => h2 (Or.inr z))]
  · rw [if_neg h1, if_neg h1, if_neg h1, if_pos (Or.inl rfl)]
theorem dit_num {xs : List Int32} {i : Nat} {a : List Int32} (h : md_at xs i = 38) (h1 : (md_ref xs i).1 = true) (h2 : (md_ref xs i).2.1 = false) (h3 : md_ch (md_ref xs i).2.2.1 = true) : md_dit xs i a = ((md_ad 100 a (md_ref xs i).2.2.1).1, (md_ad 100 a (md_ref xs i).2.2.1).2, i) := by
  unfold md_dit
  rw [if_pos h, if_pos h1, if_neg (by rw [h2]; exact fun z => by cases z)]
  unfold md_nu
  rw [if_pos h3]
theorem dit_ent {xs : List Int32} {i : Nat} {a : List Int32} (h : md_at xs i = 38) (h1 : (md_ref xs i).1 = true) (h2 : (md_ref xs i).2.1 = true) : md_dit xs i a = ((md_3 a (md_at xs i) (md_at xs (i + 1)) (md_at xs (i + 2))).1, (md_3 a (md_at xs i) (md_at xs (i + 1)) (md_at xs (i + 2))).2, i) := by
  unfold md_dit
  rw [if_pos h, if_pos h1, if_pos h2]
theorem dit_by {xs : List Int32} {i : Nat} {a : List Int32} {X : List Int32 × Nat × Nat} (h : ¬ md_at xs i = 38) (h1 : (if md_ch (md_at xs i) = true then ((md_ad 100 a (md_at xs i)).1, (md_ad 100 a (md_at xs i)).2, i) else (a, 1, i)) = X) : md_dit xs i a = X := (if_neg h).trans h1
theorem ent_len {xs : List Int32} {p : Nat} (h : (md_ref xs p).1 = true) (h2 : (md_ref xs p).2.1 = true) : p + 2 < xs.length := by
  unfold md_ref at h h2
  split at h
  · rename_i h1
    rw [if_pos h1] at h2
    rw [numX] at h2
    cases h2
  · rename_i h1
    split at h
    · rename_i h3
      rw [clX1] at h
      have h4 := of_decide_eq_true h
      rcases Nat.lt_or_ge (p + 2) xs.length with q | q
      · exact q
      · rw [md_at_ge q] at h4
        exact absurd h4 (by decide)
    · cases h
theorem app3 {a : List Int32} {x y z : Int32} : a ++ [x] ++ [y] ++ [z] = a ++ [x, y, z] := by simp

set_option maxHeartbeats 400000 in
set_option maxRecDepth 100000 in
theorem lp_m_define {p : Program} {e : Env} {s : State} {m : MethodId} {args : Array Value} {below : List Frame} {meth : Method} {c : Code} {Q : State → Prop} (l : Launch) (g : hp_G) (z0 N : Nat) (ad : Nat → Nat) (hN : 96 ≤ N) (tape : List Int32) (kn : Nat → Bool) (rt : Nat → List Int32) (la : List Int32) (ap : Nat → Int32) (me dp ou x1 : Int32) (S : CallFix p m c cc_M_define 5 s args ws_M_define R_M) (hK : hp_K g s) (Fz : Nat → va_E) : ∀ (n i : Nat) (a : List Int32) (ki nu be : Int32) (F : Nat → va_E), tape.length ≤ i + n → i ≤ 300 → mS g ad F tape kn rt la a [] ap 0 (-1) me dp 0 ou ki nu be → mFr Fz F → (∀ (F' : Nat → va_E) (mm' : List Int32) (ki nu be : Int32) (H : Heap) (locs : List Loc) (ls : Array Slot) (x2 : Int32), mS g ad F' tape kn rt la mm' [] ap 0 (pf (md_df tape n i a).2.1 (-1) (nI (md_df tape n i a).2.2)) me dp (nI (md_df tape n i a).2.1) ou ki nu be → ((md_df tape n i a).2.1 = 0 → mm' = (md_df tape n i a).1) → mFr Fz F' → hp_W g z0 N ad F' s.heap H locs → lv_has ls 5 [(0, .ref (ad 87)), (1, .int x1), (2, .int x2)] → W p l e (rk 3) s m args below meth c H locs 0 0 Q (F0 m 161 ls [])) → ∀ (H : Heap) (locs : List Loc) (ls : Array Slot), hp_W g z0 N ad F s.heap H locs → lv_has ls 5 [(0, .ref (ad 87)), (1, .int x1), (2, .int (nI i))] → W p l e (rk 3) s m args below meth c H locs 0 0 Q (F0 m 29 ls []) := by
  obtain ⟨hx, hb, hml, hown, hts⟩ := id S
  have in_kM : ∀ w ∈ u_ws R_M T_M 21, w ∈ ws_M_define := fun w h => List.mem_cons_of_mem _ (in0_M w h)
  intro n
  induction n with
  | zero =>
    intro i a ki nu be F hn hi hS hfr kx H locs ls hW hl
    have hge : tape.length ≤ i := by omega
    have hRe := md_df_end (n := 0) (a := a) hge
    rw [hRe] at kx
    have hcl := hS.cl
    obtain ⟨tp, hs, sz, tx, vl, ey, md, hR, ⟨htl, htp⟩, hT, ⟨hll, hvl⟩, hKs, hml0, hmd⟩ := id hS
    have hcl2 : tape.length ≤ 200 := htl
    refine lv_iload_n hx hb d_M_define_29 rfl (lv_at hl 2 rfl) ?_
    refine lv_aload_n hx hb d_M_define_30 rfl (lv_at hl 0 rfl) ?_
    refine hp_get S hK hW (87) (by omega) rfl hR.1 rfl in_kM 2 (by decide) (hts _ (List.mem_cons_of_mem _ tq_98)) rfl d_M_define_31 ?_
    refine lv_icmp_ge (tgt := 161) hx hb d_M_define_34 (by decide) (fun c_34 => ?_) (fun c_34 => absurd (show (nI tape.length) ≤ ((nI i) : Int32) from nI_le hge (by omega)) c_34)
    exact kx F a ki nu be H locs ls _ hS (fun _ => rfl) hfr hW (lv_sub hl [0, 1, 2] rfl)
  | succ n ih =>
    intro i a ki nu be F hn hi hS hfr kx H locs ls hW hl
    rcases Nat.lt_or_ge i tape.length with hlt | hge
    · have hre := md_ref_end tape i
      obtain ⟨tp, hs, sz, tx, vl, ey, md, hR, ⟨htl, htp⟩, hT, ⟨hll, hvl⟩, hKs, hml0, hmd⟩ := id hS
      refine lv_iload_n hx hb d_M_define_29 rfl (lv_at hl 2 rfl) ?_
      refine lv_aload_n hx hb d_M_define_30 rfl (lv_at hl 0 rfl) ?_
      refine hp_get S hK hW (87) (by omega) rfl hR.1 rfl in_kM 2 (by decide) (hts _ (List.mem_cons_of_mem _ tq_98)) rfl d_M_define_31 ?_
      refine lv_icmp_ge (tgt := 161) hx hb d_M_define_34 (by decide) (fun c_34 => absurd c_34 (show ¬ ((nI tape.length) ≤ ((nI i) : Int32)) from nI_ge hlt (by omega))) (fun c_34 => ?_)
      refine lv_aload_n hx hb d_M_define_37 rfl (lv_at hl 0 rfl) ?_
      refine hp_get S hK hW (87) (by omega) rfl hR.1 rfl in_kM 14 (by decide) (hts _ (List.mem_cons_of_mem _ tq_110)) rfl d_M_define_38 ?_
      refine lv_if_ne (tgt := 161) hx hb d_M_define_41 (by decide) (fun c_41 => absurd c_41 (show ¬ (¬ (0 : Int32) = 0) from fun z => z rfl)) (fun c_41 => ?_)
      refine lv_aload_n hx hb d_M_define_44 rfl (lv_at hl 0 rfl) ?_
      refine hp_get S hK hW (87) (by omega) rfl hR.1 rfl in_kM 1 (by decide) (hts _ (List.mem_cons_of_mem _ tq_97)) rfl d_M_define_45 ?_
      refine lv_iload_n hx hb d_M_define_48 rfl (lv_at hl 2 rfl) ?_
      refine hp_iald S hK hW (88) (by omega) rfl hR.2.1 (vp_in_nI (by omega) (by omega)) d_M_define_49 ?_
      rw [show (tp ((nI i) : Int32).toNatClampNeg) = (md_at tape i) from (by rw [nI_clamp (by omega)]; have := htp i hlt; rwa [Nat.zero_add] at this)]
      refine lv_istore_n (lv' := [(3, .int (md_at tape i)), (0, .ref (ad 87)), (1, .int x1), (2, .int (nI i))]) hx hb d_M_define_50 rfl hl (by decide) rfl (fun ls hl => ?_)
      refine lv_iload_n hx hb d_M_define_51 rfl (lv_at hl 0 rfl) ?_
      refine lv_bipush (v := 38) hx hb d_M_define_52 (by decide) ?_
      refine lv_icmp_ne (tgt := 133) hx hb d_M_define_54 (by decide) (fun c_54 => ?_) (fun c_54 => ?_)
      · have c_54i := c_54
        refine lv_iload_n hx hb d_M_define_133 rfl (lv_at hl 0 rfl) ?_
        refine hp_goi hW (va_runS S (m_isCharacter l g z0 N ad F (md_at tape i)) (va_cwS 1 hts (tb_S cd_M_isCharacter tq_132 tq_133 tq_118) rfl rfl rfl hd_M_isCharacter.2 (rk_ok (by omega) (by omega))) (hp_preS hK hW) rfl rfl hl.1 rfl (lv_room (Nat.le_of_ble_eq_true rfl)) d_M_define_134 ⟨Nat.zero_le _, Nat.zero_le _⟩) (fun r_1 F_2 H locs hw hW => ?_)
        obtain ⟨hvq, hFq⟩ := hw
        rw [hFq] at hW
        rw [hvq]
        refine lv_if_ne (tgt := 149) hx hb d_M_define_137 (by decide) (fun c_137 => ?_) (fun c_137 => ?_)
        · have c_137i := c_137
          refine lv_aload_n hx hb d_M_define_149 rfl (lv_at hl 1 rfl) ?_
          refine lv_iload_n hx hb d_M_define_150 rfl (lv_at hl 0 rfl) ?_
          refine lv_iload_n hx hb d_M_define_151 rfl (lv_at hl 3 rfl) ?_
          refine hp_gov hW (va_runV S (m_defining l g z0 N ad F hN tape kn rt la a (([] : List Nat)) ap 0 ((-1)) me dp 0 ou ki nu be hS (md_at tape i) (nI i)) (cwV 2 hts (tb_V cd_M_defining tq_149 tq_150 tq_151 tq_118) rfl rfl rfl hd_M_defining (rk_ok (by omega) (by omega))) (hp_preV hK hW (by omega) rfl hR.1 rfl) rfl rfl hl.1 rfl (lv_room (Nat.le_of_ble_eq_true rfl)) d_M_define_152 ⟨Nat.zero_le _, Nat.zero_le _⟩) (fun F_4 H locs hw hW => ?_)
          obtain ⟨hS1, hg1⟩ := hw
          rcases Nat.lt_or_ge (a).length 100 with hm1 | hm1
          · have hX1 : (md_ad 100 a (md_at tape i)) = (a ++ [(md_at tape i)], 0) := if_pos hm1
            rw [hX1, if80, if80] at hS1
            obtain ⟨tp, hs, sz, tx, vl, ey, md, hR, ⟨htl, htp⟩, hT, ⟨hll, hvl⟩, hKs, hml0, hmd⟩ := id hS1
            refine lv_iinc (v := (nI (i + 1))) (lv' := [(2, .int (nI (i + 1))), (3, .int (md_at tape i)), (0, .ref (ad 87)), (1, .int x1)]) hx hb d_M_define_155 hl (k := 3) rfl ((nI_succ (i)).symm) (by decide) rfl (fun ls hl => ?_)
            refine lv_goto (tgt := 29) hx hb d_M_define_158 (by decide) ?_
            have h38 := c_54i
            have hnx : md_nx tape i = i + 1 := if_neg h38
            have hD0 : (md_dit tape i a) = ((md_ad 100 a (md_at tape i)).1, (md_ad 100 a (md_at tape i)).2, i) := dit_by h38 (if_pos (b2_n0.mp c_137i))
            have hDt : (md_dit tape i a) = (a ++ [md_at tape i], 0, i) := by rw [hD0, hX1]
            rw [md_df_go hlt (by rw [hDt]), hDt, hnx] at kx
            exact ih (i + 1) (a ++ [md_at tape i]) _ _ _ F_4 (by omega) (by omega) hS1 (hfr.tr hg1) kx H locs ls hW (lv_sub hl [2, 3, 0] rfl)
          · have hX1 : (md_ad 100 a (md_at tape i)) = (a, 8) := if_neg (by omega)
            rw [hX1, if8 rfl, if8 rfl] at hS1
            replace hS1 : mS g ad F_4 tape kn rt la a [] ap 0 (nI i) me dp 8 ou ki nu be := hS1
            obtain ⟨tp, hs, sz, tx, vl, ey, md, hR, ⟨htl, htp⟩, hT, ⟨hll, hvl⟩, hKs, hml0, hmd⟩ := id hS1
            refine lv_iinc (v := (nI (i + 1))) (lv' := [(2, .int (nI (i + 1))), (3, .int (md_at tape i)), (0, .ref (ad 87)), (1, .int x1)]) hx hb d_M_define_155 hl (k := 3) rfl ((nI_succ (i)).symm) (by decide) rfl (fun ls hl => ?_)
            refine lv_goto (tgt := 29) hx hb d_M_define_158 (by decide) ?_
            have h38 := c_54i
            have hnx : md_nx tape i = i + 1 := if_neg h38
            have hD0 : (md_dit tape i a) = ((md_ad 100 a (md_at tape i)).1, (md_ad 100 a (md_at tape i)).2, i) := dit_by h38 (if_pos (b2_n0.mp c_137i))
            have hDt : (md_dit tape i a) = (a, 8, i) := by rw [hD0, hX1]
            have hDn : ¬ (md_dit tape i a).2.1 = 0 := by rw [hDt]; exact (by decide : ¬ (8 : Nat) = 0)
            rw [md_df_no hlt hDn, hDt] at kx
            exact df_head l g z0 N ad hN tape kn rt la ap me dp ou x1 F_4 a (nI i) 8 ki nu be ((nI (i + 1))) (by decide) hS1 S hK (fun H locs ls hW hl => kx F_4 a _ _ _ H locs ls _ (by rw [pf_n (by decide : ¬ (8 : Nat) = 0)]; exact hS1) (fun z => absurd z ((by decide : ¬ (8 : Nat) = 0))) (hfr.tr hg1) hW hl) H locs ls hW (lv_sub hl [2, 3, 0] rfl)
        · have c_137i := c_137
          refine lv_aload_n hx hb d_M_define_140 rfl (lv_at hl 1 rfl) ?_
          refine lv_iconst (v := 1) hx hb d_M_define_141 (by decide) ?_
          refine lv_iload_n hx hb d_M_define_142 rfl (lv_at hl 3 rfl) ?_
          refine hp_gov hW (va_runV S (m_fails l g z0 N ad F hN tape kn rt la a (([] : List Nat)) ap 0 ((-1)) me dp 0 ou ki nu be hS 1 (nI i)) (cwV 2 hts (tb_V cd_M_fails tq_121 tq_122 tq_123 tq_118) rfl rfl rfl hd_M_fails (rk_ok (by omega) (by omega))) (hp_preV hK hW (by omega) rfl hR.1 rfl) rfl rfl hl.1 rfl (lv_room (Nat.le_of_ble_eq_true rfl)) d_M_define_143 ⟨Nat.zero_le _, Nat.zero_le _⟩) (fun F_6 H locs hw hW => ?_)
          obtain ⟨hS2, hg2⟩ := hw
          replace hS2 : mS g ad F_6 tape kn rt la a [] ap 0 (nI i) me dp 1 ou ki nu be := hS2
          refine lv_goto (tgt := 158) hx hb d_M_define_146 (by decide) ?_
          refine lv_goto (tgt := 29) hx hb d_M_define_158 (by decide) ?_
          have h38 := c_54i
          have hnx : md_nx tape i = i + 1 := if_neg h38
          have hDt : (md_dit tape i a) = (a, 1, i) := dit_by h38 (if_neg (by rw [b2_0.mp c_137i]; exact fun z => by cases z))
          have hDn : ¬ (md_dit tape i a).2.1 = 0 := by rw [hDt]; exact (by decide : ¬ (1 : Nat) = 0)
          rw [md_df_no hlt hDn, hDt] at kx
          exact df_head l g z0 N ad hN tape kn rt la ap me dp ou x1 F_6 a (nI i) 1 ki nu be ((nI i)) (by decide) hS2 S hK (fun H locs ls hW hl => kx F_6 a _ _ _ H locs ls _ (by rw [pf_n (by decide : ¬ (1 : Nat) = 0)]; exact hS2) (fun z => absurd z ((by decide : ¬ (1 : Nat) = 0))) (hfr.tr hg2) hW hl) H locs ls hW (lv_sub hl [1, 2, 3] rfl)
      · have c_54i := c_54
        refine lv_aload_n hx hb d_M_define_57 rfl (lv_at hl 1 rfl) ?_
        refine lv_iload_n hx hb d_M_define_58 rfl (lv_at hl 3 rfl) ?_
        refine hp_gov hW (va_runV S (m_look l g z0 N ad F hN tape kn rt la a [] ap 0 (-1) me dp ou ki nu be hS i (by omega)) (cwV 1 hts (tb_V cd_M_look tq_137 tq_138 tq_139 tq_118) rfl rfl rfl hd_M_look (rk_ok (by omega) (by omega))) (hp_preV hK hW (by omega) rfl hR.1 rfl) rfl rfl hl.1 rfl (lv_room (Nat.le_of_ble_eq_true rfl)) d_M_define_59 ⟨Nat.zero_le _, Nat.zero_le _⟩) (fun F_8 H locs hw hW => ?_)
        obtain ⟨ki1, nu1, be1, hS1, hw1, hg1⟩ := hw
        replace hS1 : mS g ad F_8 tape kn rt la a [] ap 0 (pf (lkf 0 tape.length (md_ref tape i)) (-1) (nI (lkp i (md_ref tape i)))) me dp (nI (lkf 0 tape.length (md_ref tape i))) ou ki1 nu1 be1 := hS1
        replace hw1 : (md_ref tape i).1 = true → be1 = nI (md_ref tape i).2.2.2 ∧ nu1 = (md_ref tape i).2.2.1 ∧ ki1 = (if (md_ref tape i).2.1 = true then 1 else 2) := hw1
        have hLl : (lkf 0 tape.length (md_ref tape i)) ≤ 8 := lkf_le _ _ _
        obtain ⟨tp, hs, sz, tx, vl, ey, md, hR, ⟨htl, htp⟩, hT, ⟨hll, hvl⟩, hKs, hml0, hmd⟩ := id hS1
        refine lv_aload_n hx hb d_M_define_62 rfl (lv_at hl 1 rfl) ?_
        refine hp_get S hK hW (87) (by omega) rfl hR.1 rfl in_kM 14 (by decide) (hts _ (List.mem_cons_of_mem _ tq_110)) rfl d_M_define_63 ?_
        refine lv_if_ne (tgt := 89) hx hb d_M_define_66 (by decide) (fun c_66 => ?_) (fun c_66 => ?_)
        · have c_66i := c_66
          replace c_66 : ¬ (lkf 0 tape.length (md_ref tape i)) = 0 := fun zz9 => c_66 ((nI_eq (a := (lkf 0 tape.length (md_ref tape i))) (b := 0) (by omega) (by omega)).mpr zz9)
          have hL := c_66
          refine lv_aload_n hx hb d_M_define_89 rfl (lv_at hl 1 rfl) ?_
          refine hp_get S hK hW (87) (by omega) rfl hR.1 rfl in_kM 14 (by decide) (hts _ (List.mem_cons_of_mem _ tq_110)) rfl d_M_define_90 ?_
          refine lv_if_ne (tgt := 125) hx hb d_M_define_93 (by decide) (fun c_93 => ?_) (fun c_93 => absurd c_93 (show ¬ ((nI (lkf 0 tape.length (md_ref tape i))) : Int32) = 0 from c_66i))
          refine lv_aload_n hx hb d_M_define_125 rfl (lv_at hl 1 rfl) ?_
          refine hp_get S hK hW (87) (by omega) rfl hR.1 rfl in_kM 18 (by decide) (hts _ (List.mem_cons_of_mem _ tq_114)) rfl d_M_define_126 ?_
          refine lv_istore_n (lv' := [(2, .int be1), (3, .int (md_at tape i)), (0, .ref (ad 87)), (1, .int x1)]) hx hb d_M_define_129 rfl hl (by decide) rfl (fun ls hl => ?_)
          refine lv_goto (tgt := 158) hx hb d_M_define_130 (by decide) ?_
          refine lv_goto (tgt := 29) hx hb d_M_define_158 (by decide) ?_
          have h38 := c_54i
          have hnx : md_nx tape i = (md_ref tape i).2.2.2 := if_pos h38
          rw [pf_n hL] at hS1
          have hDt : (md_dit tape i a) = (a, (lkf 0 tape.length (md_ref tape i)), lkp i (md_ref tape i)) := dit_bad h38 hL
          have hDn : ¬ (md_dit tape i a).2.1 = 0 := by rw [hDt]; exact hL
          rw [md_df_no hlt hDn, hDt] at kx
          exact df_head l g z0 N ad hN tape kn rt la ap me dp ou x1 F_8 a (nI (lkp i (md_ref tape i))) (nI (lkf 0 tape.length (md_ref tape i))) ki1 nu1 be1 be1 (c_66i) hS1 S hK (fun H locs ls hW hl => kx F_8 a _ _ _ H locs ls _ (by rw [pf_n (hL)]; exact hS1) (fun z => absurd z (hL)) (hfr.tr hg1) hW hl) H locs ls hW (lv_sub hl [2, 3, 0] rfl)
        · have c_66i := c_66
          replace c_66 : (lkf 0 tape.length (md_ref tape i)) = 0 := (nI_eq (a := (lkf 0 tape.length (md_ref tape i))) (b := 0) (by omega) (by omega)).mp c_66
          have hL := c_66
          have hWt : (md_ref tape i).1 = true := lkf_w hL
          obtain ⟨eb, enu, ek⟩ := hw1 hWt
          subst eb enu ek
          rw [hL, pf_0 rfl] at hS1
          obtain ⟨tp, hs, sz, tx, vl, ey, md, hR, ⟨htl, htp⟩, hT, ⟨hll, hvl⟩, hKs, hml0, hmd⟩ := id hS1
          refine lv_aload_n hx hb d_M_define_69 rfl (lv_at hl 1 rfl) ?_
          refine hp_get S hK hW (87) (by omega) rfl hR.1 rfl in_kM 16 (by decide) (hts _ (List.mem_cons_of_mem _ tq_112)) rfl d_M_define_70 ?_
          refine lv_iconst (v := 2) hx hb d_M_define_73 (by decide) ?_
          refine lv_icmp_ne (tgt := 89) hx hb d_M_define_74 (by decide) (fun c_74 => ?_) (fun c_74 => ?_)
          · have c_74i := c_74
            have hTt : (md_ref tape i).2.1 = true := by cases hz : (md_ref tape i).2.1 with | true => rfl | false => exact absurd (by rw [hz]; rfl) c_74i
            refine lv_aload_n hx hb d_M_define_89 rfl (lv_at hl 1 rfl) ?_
            refine hp_get S hK hW (87) (by omega) rfl hR.1 rfl in_kM 14 (by decide) (hts _ (List.mem_cons_of_mem _ tq_110)) rfl d_M_define_90 ?_
            refine lv_if_ne (tgt := 125) hx hb d_M_define_93 (by decide) (fun c_93 => absurd c_93 (show ¬ (¬ (0 : Int32) = 0) from fun z => z rfl)) (fun c_93 => ?_)
            refine lv_iconst (v := 0) hx hb d_M_define_96 (by decide) ?_
            refine lv_istore (lv' := [(4, .int 0), (3, .int (md_at tape i)), (0, .ref (ad 87)), (1, .int x1), (2, .int (nI i))]) hx hb d_M_define_97 hl (by decide) rfl (fun ls hl => ?_)
            have h9 := md_ref_ent hWt hTt
            have hl2 : i + 2 < tape.length := ent_len hWt hTt
            have hl1 : i + 1 < tape.length := by omega
            refine lv_iload hx hb d_M_define_99 (lv_at hl 0 rfl) ?_
            refine lv_iconst (v := 3) hx hb d_M_define_101 (by decide) ?_
            refine lv_icmp_ge (tgt := 125) hx hb d_M_define_102 (by decide) (fun c_102 => absurd c_102 (show ¬ (3 ≤ (0 : Int32)) from by decide)) (fun c_102 => ?_)
            refine lv_aload_n hx hb d_M_define_105 rfl (lv_at hl 2 rfl) ?_
            refine lv_aload_n hx hb d_M_define_106 rfl (lv_at hl 2 rfl) ?_
            refine hp_get S hK hW (87) (by omega) rfl hR.1 rfl in_kM 1 (by decide) (hts _ (List.mem_cons_of_mem _ tq_97)) rfl d_M_define_107 ?_
            refine lv_iload_n hx hb d_M_define_110 rfl (lv_at hl 4 rfl) ?_
            refine lv_iload hx hb d_M_define_111 (lv_at hl 0 rfl) ?_
            refine lv_iadd hx hb d_M_define_113 ?_
            rw [show ((nI i) + 0) = (nI i) from Int32.add_zero _]
            refine hp_iald S hK hW (88) (by omega) rfl hR.2.1 (vp_in_nI (by omega) (by omega)) d_M_define_114 ?_
            rw [show (tp ((nI i) : Int32).toNatClampNeg) = (md_at tape i) from (by rw [nI_clamp (by omega)]; have := htp i hlt; rwa [Nat.zero_add] at this)]
            refine lv_iload_n hx hb d_M_define_115 rfl (lv_at hl 4 rfl) ?_
            refine hp_gov hW (va_runV S (m_defining l g z0 N ad F_8 hN tape kn rt la a (([] : List Nat)) ap 0 ((-1)) me dp 0 ou (if (md_ref tape i).2.1 = true then 1 else 2) ((md_ref tape i).2.2.1) (nI (md_ref tape i).2.2.2) hS1 (md_at tape i) (nI i)) (cwV 2 hts (tb_V cd_M_defining tq_149 tq_150 tq_151 tq_118) rfl rfl rfl hd_M_defining (rk_ok (by omega) (by omega))) (hp_preV hK hW (by omega) rfl hR.1 rfl) rfl rfl hl.1 rfl (lv_room (Nat.le_of_ble_eq_true rfl)) d_M_define_116 ⟨Nat.zero_le _, Nat.zero_le _⟩) (fun F_10 H locs hw hW => ?_)
            obtain ⟨hS2, hg2⟩ := hw
            rcases Nat.lt_or_ge (a).length 100 with hm2 | hm2
            · have hX2 : (md_ad 100 a (md_at tape i)) = (a ++ [(md_at tape i)], 0) := if_pos hm2
              rw [hX2, if80, if80] at hS2
              obtain ⟨tp, hs, sz, tx, vl, ey, md, hR, ⟨htl, htp⟩, hT, ⟨hll, hvl⟩, hKs, hml0, hmd⟩ := id hS2
              refine lv_iinc (v := (nI (0 + 1))) (lv' := [(4, .int (nI (0 + 1))), (3, .int (md_at tape i)), (0, .ref (ad 87)), (1, .int x1), (2, .int (nI i))]) hx hb d_M_define_119 hl (k := 0) rfl ((nI_succ (0)).symm) (by decide) rfl (fun ls hl => ?_)
              refine lv_goto (tgt := 99) hx hb d_M_define_122 (by decide) ?_
              refine lv_iload hx hb d_M_define_99 (lv_at hl 0 rfl) ?_
              refine lv_iconst (v := 3) hx hb d_M_define_101 (by decide) ?_
              refine lv_icmp_ge (tgt := 125) hx hb d_M_define_102 (by decide) (fun c_102 => absurd c_102 (show ¬ (3 ≤ ((nI (0 + 1)) : Int32)) from by decide)) (fun c_102 => ?_)
              refine lv_aload_n hx hb d_M_define_105 rfl (lv_at hl 2 rfl) ?_
              refine lv_aload_n hx hb d_M_define_106 rfl (lv_at hl 2 rfl) ?_
              refine hp_get S hK hW (87) (by omega) rfl hR.1 rfl in_kM 1 (by decide) (hts _ (List.mem_cons_of_mem _ tq_97)) rfl d_M_define_107 ?_
              refine lv_iload_n hx hb d_M_define_110 rfl (lv_at hl 4 rfl) ?_
              refine lv_iload hx hb d_M_define_111 (lv_at hl 0 rfl) ?_
              refine lv_iadd hx hb d_M_define_113 ?_
              rw [show ((nI i) + (nI (0 + 1))) = (nI (i + 1)) from nI_add i 1]
              refine hp_iald S hK hW (88) (by omega) rfl hR.2.1 (vp_in_nI (by omega) (by omega)) d_M_define_114 ?_
              rw [show (tp ((nI (i + 1)) : Int32).toNatClampNeg) = (md_at tape (i + 1)) from (by rw [nI_clamp (by omega)]; have := htp (i + 1) hl1; rwa [Nat.zero_add] at this)]
              refine lv_iload_n hx hb d_M_define_115 rfl (lv_at hl 4 rfl) ?_
              refine hp_gov hW (va_runV S (m_defining l g z0 N ad F_10 hN tape kn rt la (a ++ [(md_at tape i)]) (([] : List Nat)) ap 0 ((-1)) me dp 0 ou (if (md_ref tape i).2.1 = true then 1 else 2) ((md_ref tape i).2.2.1) (nI (md_ref tape i).2.2.2) hS2 (md_at tape (i + 1)) (nI i)) (cwV 2 hts (tb_V cd_M_defining tq_149 tq_150 tq_151 tq_118) rfl rfl rfl hd_M_defining (rk_ok (by omega) (by omega))) (hp_preV hK hW (by omega) rfl hR.1 rfl) rfl rfl hl.1 rfl (lv_room (Nat.le_of_ble_eq_true rfl)) d_M_define_116 ⟨Nat.zero_le _, Nat.zero_le _⟩) (fun F_12 H locs hw hW => ?_)
              obtain ⟨hS3, hg3⟩ := hw
              rcases Nat.lt_or_ge ((a ++ [(md_at tape i)])).length 100 with hm3 | hm3
              · have hX3 : (md_ad 100 (a ++ [(md_at tape i)]) (md_at tape (i + 1))) = ((a ++ [(md_at tape i)]) ++ [(md_at tape (i + 1))], 0) := if_pos hm3
                rw [hX3, if80, if80] at hS3
                obtain ⟨tp, hs, sz, tx, vl, ey, md, hR, ⟨htl, htp⟩, hT, ⟨hll, hvl⟩, hKs, hml0, hmd⟩ := id hS3
                refine lv_iinc (v := (nI ((0 + 1) + 1))) (lv' := [(4, .int (nI ((0 + 1) + 1))), (3, .int (md_at tape i)), (0, .ref (ad 87)), (1, .int x1), (2, .int (nI i))]) hx hb d_M_define_119 hl (k := 0) rfl ((nI_succ ((0 + 1))).symm) (by decide) rfl (fun ls hl => ?_)
                refine lv_goto (tgt := 99) hx hb d_M_define_122 (by decide) ?_
                refine lv_iload hx hb d_M_define_99 (lv_at hl 0 rfl) ?_
                refine lv_iconst (v := 3) hx hb d_M_define_101 (by decide) ?_
                refine lv_icmp_ge (tgt := 125) hx hb d_M_define_102 (by decide) (fun c_102 => absurd c_102 (show ¬ (3 ≤ ((nI ((0 + 1) + 1)) : Int32)) from by decide)) (fun c_102 => ?_)
                refine lv_aload_n hx hb d_M_define_105 rfl (lv_at hl 2 rfl) ?_
                refine lv_aload_n hx hb d_M_define_106 rfl (lv_at hl 2 rfl) ?_
                refine hp_get S hK hW (87) (by omega) rfl hR.1 rfl in_kM 1 (by decide) (hts _ (List.mem_cons_of_mem _ tq_97)) rfl d_M_define_107 ?_
                refine lv_iload_n hx hb d_M_define_110 rfl (lv_at hl 4 rfl) ?_
                refine lv_iload hx hb d_M_define_111 (lv_at hl 0 rfl) ?_
                refine lv_iadd hx hb d_M_define_113 ?_
                rw [show ((nI i) + (nI ((0 + 1) + 1))) = (nI (i + 2)) from nI_add i 2]
                refine hp_iald S hK hW (88) (by omega) rfl hR.2.1 (vp_in_nI (by omega) (by omega)) d_M_define_114 ?_
                rw [show (tp ((nI (i + 2)) : Int32).toNatClampNeg) = (md_at tape (i + 2)) from (by rw [nI_clamp (by omega)]; have := htp (i + 2) hl2; rwa [Nat.zero_add] at this)]
                refine lv_iload_n hx hb d_M_define_115 rfl (lv_at hl 4 rfl) ?_
                refine hp_gov hW (va_runV S (m_defining l g z0 N ad F_12 hN tape kn rt la ((a ++ [(md_at tape i)]) ++ [(md_at tape (i + 1))]) (([] : List Nat)) ap 0 ((-1)) me dp 0 ou (if (md_ref tape i).2.1 = true then 1 else 2) ((md_ref tape i).2.2.1) (nI (md_ref tape i).2.2.2) hS3 (md_at tape (i + 2)) (nI i)) (cwV 2 hts (tb_V cd_M_defining tq_149 tq_150 tq_151 tq_118) rfl rfl rfl hd_M_defining (rk_ok (by omega) (by omega))) (hp_preV hK hW (by omega) rfl hR.1 rfl) rfl rfl hl.1 rfl (lv_room (Nat.le_of_ble_eq_true rfl)) d_M_define_116 ⟨Nat.zero_le _, Nat.zero_le _⟩) (fun F_14 H locs hw hW => ?_)
                obtain ⟨hS4, hg4⟩ := hw
                rcases Nat.lt_or_ge (((a ++ [(md_at tape i)]) ++ [(md_at tape (i + 1))])).length 100 with hm4 | hm4
                · have hX4 : (md_ad 100 ((a ++ [(md_at tape i)]) ++ [(md_at tape (i + 1))]) (md_at tape (i + 2))) = (((a ++ [(md_at tape i)]) ++ [(md_at tape (i + 1))]) ++ [(md_at tape (i + 2))], 0) := if_pos hm4
                  rw [hX4, if80, if80] at hS4
                  obtain ⟨tp, hs, sz, tx, vl, ey, md, hR, ⟨htl, htp⟩, hT, ⟨hll, hvl⟩, hKs, hml0, hmd⟩ := id hS4
                  refine lv_iinc (v := (nI (((0 + 1) + 1) + 1))) (lv' := [(4, .int (nI (((0 + 1) + 1) + 1))), (3, .int (md_at tape i)), (0, .ref (ad 87)), (1, .int x1), (2, .int (nI i))]) hx hb d_M_define_119 hl (k := 0) rfl ((nI_succ (((0 + 1) + 1))).symm) (by decide) rfl (fun ls hl => ?_)
                  refine lv_goto (tgt := 99) hx hb d_M_define_122 (by decide) ?_
                  refine lv_iload hx hb d_M_define_99 (lv_at hl 0 rfl) ?_
                  refine lv_iconst (v := 3) hx hb d_M_define_101 (by decide) ?_
                  refine lv_icmp_ge (tgt := 125) hx hb d_M_define_102 (by decide) (fun c_102 => ?_) (fun c_102 => absurd (show 3 ≤ ((nI (((0 + 1) + 1) + 1)) : Int32) from by decide) c_102)
                  refine lv_aload_n hx hb d_M_define_125 rfl (lv_at hl 2 rfl) ?_
                  refine hp_get S hK hW (87) (by omega) rfl hR.1 rfl in_kM 18 (by decide) (hts _ (List.mem_cons_of_mem _ tq_114)) rfl d_M_define_126 ?_
                  refine lv_istore_n (lv' := [(2, .int (nI (md_ref tape i).2.2.2)), (4, .int (nI (((0 + 1) + 1) + 1))), (3, .int (md_at tape i)), (0, .ref (ad 87)), (1, .int x1)]) hx hb d_M_define_129 rfl hl (by decide) rfl (fun ls hl => ?_)
                  refine lv_goto (tgt := 158) hx hb d_M_define_130 (by decide) ?_
                  refine lv_goto (tgt := 29) hx hb d_M_define_158 (by decide) ?_
                  have h38 := c_54i
                  have hnx : md_nx tape i = (md_ref tape i).2.2.2 := if_pos h38
                  have hD0 : (md_dit tape i a) = ((md_3 a (md_at tape i) (md_at tape (i + 1)) (md_at tape (i + 2))).1, (md_3 a (md_at tape i) (md_at tape (i + 1)) (md_at tape (i + 2))).2, i) := dit_ent h38 hWt hTt
                  have hm3 := hm4
                  (try simp only [List.length_append, List.length_singleton] at hm3)
                  have h33 : md_3 a (md_at tape i) (md_at tape (i + 1)) (md_at tape (i + 2)) = (a ++ [md_at tape i, md_at tape (i + 1), md_at tape (i + 2)], 0) := if_pos (by omega)
                  rw [app3] at hS4
                  have hDt : (md_dit tape i a) = (a ++ [md_at tape i, md_at tape (i + 1), md_at tape (i + 2)], 0, i) := by rw [hD0, h33]
                  rw [md_df_go hlt (by rw [hDt]), hDt, hnx] at kx
                  exact ih (md_ref tape i).2.2.2 (a ++ [md_at tape i, md_at tape (i + 1), md_at tape (i + 2)]) _ _ _ F_14 (by omega) (by omega) hS4 (hfr.tr (((hg1.tr hg2).tr hg3).tr hg4)) kx H locs ls hW (lv_sub hl [3, 4, 0] rfl)
                · have hX4 : (md_ad 100 ((a ++ [(md_at tape i)]) ++ [(md_at tape (i + 1))]) (md_at tape (i + 2))) = (((a ++ [(md_at tape i)]) ++ [(md_at tape (i + 1))]), 8) := if_neg (by omega)
                  rw [hX4, if8 rfl, if8 rfl] at hS4
                  replace hS4 : mS g ad F_14 tape kn rt la (((a ++ [(md_at tape i)]) ++ [(md_at tape (i + 1))])) [] ap 0 (nI i) me dp 8 ou (if (md_ref tape i).2.1 = true then 1 else 2) ((md_ref tape i).2.2.1) (nI (md_ref tape i).2.2.2) := hS4
                  obtain ⟨tp, hs, sz, tx, vl, ey, md, hR, ⟨htl, htp⟩, hT, ⟨hll, hvl⟩, hKs, hml0, hmd⟩ := id hS4
                  refine lv_iinc (v := (nI (((0 + 1) + 1) + 1))) (lv' := [(4, .int (nI (((0 + 1) + 1) + 1))), (3, .int (md_at tape i)), (0, .ref (ad 87)), (1, .int x1), (2, .int (nI i))]) hx hb d_M_define_119 hl (k := 0) rfl ((nI_succ (((0 + 1) + 1))).symm) (by decide) rfl (fun ls hl => ?_)
                  refine lv_goto (tgt := 99) hx hb d_M_define_122 (by decide) ?_
                  refine lv_iload hx hb d_M_define_99 (lv_at hl 0 rfl) ?_
                  refine lv_iconst (v := 3) hx hb d_M_define_101 (by decide) ?_
                  refine lv_icmp_ge (tgt := 125) hx hb d_M_define_102 (by decide) (fun c_102 => ?_) (fun c_102 => absurd (show 3 ≤ ((nI (((0 + 1) + 1) + 1)) : Int32) from by decide) c_102)
                  refine lv_aload_n hx hb d_M_define_125 rfl (lv_at hl 2 rfl) ?_
                  refine hp_get S hK hW (87) (by omega) rfl hR.1 rfl in_kM 18 (by decide) (hts _ (List.mem_cons_of_mem _ tq_114)) rfl d_M_define_126 ?_
                  refine lv_istore_n (lv' := [(2, .int (nI (md_ref tape i).2.2.2)), (4, .int (nI (((0 + 1) + 1) + 1))), (3, .int (md_at tape i)), (0, .ref (ad 87)), (1, .int x1)]) hx hb d_M_define_129 rfl hl (by decide) rfl (fun ls hl => ?_)
                  refine lv_goto (tgt := 158) hx hb d_M_define_130 (by decide) ?_
                  refine lv_goto (tgt := 29) hx hb d_M_define_158 (by decide) ?_
                  have h38 := c_54i
                  have hnx : md_nx tape i = (md_ref tape i).2.2.2 := if_pos h38
                  have hD0 : (md_dit tape i a) = ((md_3 a (md_at tape i) (md_at tape (i + 1)) (md_at tape (i + 2))).1, (md_3 a (md_at tape i) (md_at tape (i + 1)) (md_at tape (i + 2))).2, i) := dit_ent h38 hWt hTt
                  have hm3 := hm4
                  (try simp only [List.length_append, List.length_singleton] at hm3)
                  have h33 : md_3 a (md_at tape i) (md_at tape (i + 1)) (md_at tape (i + 2)) = (a, 8) := if_neg (by omega)
                  have hDt : (md_dit tape i a) = (a, 8, i) := by rw [hD0, h33]
                  have hDn : ¬ (md_dit tape i a).2.1 = 0 := by rw [hDt]; exact (by decide : ¬ (8 : Nat) = 0)
                  rw [md_df_no hlt hDn, hDt] at kx
                  exact df_head l g z0 N ad hN tape kn rt la ap me dp ou x1 F_14 (((a ++ [(md_at tape i)]) ++ [(md_at tape (i + 1))])) (nI i) 8 (if (md_ref tape i).2.1 = true then 1 else 2) ((md_ref tape i).2.2.1) (nI (md_ref tape i).2.2.2) ((nI (md_ref tape i).2.2.2)) (by decide) hS4 S hK (fun H locs ls hW hl => kx F_14 (((a ++ [(md_at tape i)]) ++ [(md_at tape (i + 1))])) _ _ _ H locs ls _ (by rw [pf_n (by decide : ¬ (8 : Nat) = 0)]; exact hS4) (fun z => absurd z ((by decide : ¬ (8 : Nat) = 0))) (hfr.tr (((hg1.tr hg2).tr hg3).tr hg4)) hW hl) H locs ls hW (lv_sub hl [3, 4, 0] rfl)
              · have hX3 : (md_ad 100 (a ++ [(md_at tape i)]) (md_at tape (i + 1))) = ((a ++ [(md_at tape i)]), 8) := if_neg (by omega)
                rw [hX3, if8 rfl, if8 rfl] at hS3
                replace hS3 : mS g ad F_12 tape kn rt la ((a ++ [(md_at tape i)])) [] ap 0 (nI i) me dp 8 ou (if (md_ref tape i).2.1 = true then 1 else 2) ((md_ref tape i).2.2.1) (nI (md_ref tape i).2.2.2) := hS3
                obtain ⟨tp, hs, sz, tx, vl, ey, md, hR, ⟨htl, htp⟩, hT, ⟨hll, hvl⟩, hKs, hml0, hmd⟩ := id hS3
                refine lv_iinc (v := (nI ((0 + 1) + 1))) (lv' := [(4, .int (nI ((0 + 1) + 1))), (3, .int (md_at tape i)), (0, .ref (ad 87)), (1, .int x1), (2, .int (nI i))]) hx hb d_M_define_119 hl (k := 0) rfl ((nI_succ ((0 + 1))).symm) (by decide) rfl (fun ls hl => ?_)
                refine lv_goto (tgt := 99) hx hb d_M_define_122 (by decide) ?_
                refine lv_iload hx hb d_M_define_99 (lv_at hl 0 rfl) ?_
                refine lv_iconst (v := 3) hx hb d_M_define_101 (by decide) ?_
                refine lv_icmp_ge (tgt := 125) hx hb d_M_define_102 (by decide) (fun c_102 => absurd c_102 (show ¬ (3 ≤ ((nI ((0 + 1) + 1)) : Int32)) from by decide)) (fun c_102 => ?_)
                refine lv_aload_n hx hb d_M_define_105 rfl (lv_at hl 2 rfl) ?_
                refine lv_aload_n hx hb d_M_define_106 rfl (lv_at hl 2 rfl) ?_
                refine hp_get S hK hW (87) (by omega) rfl hR.1 rfl in_kM 1 (by decide) (hts _ (List.mem_cons_of_mem _ tq_97)) rfl d_M_define_107 ?_
                refine lv_iload_n hx hb d_M_define_110 rfl (lv_at hl 4 rfl) ?_
                refine lv_iload hx hb d_M_define_111 (lv_at hl 0 rfl) ?_
                refine lv_iadd hx hb d_M_define_113 ?_
                rw [show ((nI i) + (nI ((0 + 1) + 1))) = (nI (i + 2)) from nI_add i 2]
                refine hp_iald S hK hW (88) (by omega) rfl hR.2.1 (vp_in_nI (by omega) (by omega)) d_M_define_114 ?_
                rw [show (tp ((nI (i + 2)) : Int32).toNatClampNeg) = (md_at tape (i + 2)) from (by rw [nI_clamp (by omega)]; have := htp (i + 2) hl2; rwa [Nat.zero_add] at this)]
                refine lv_iload_n hx hb d_M_define_115 rfl (lv_at hl 4 rfl) ?_
                refine hp_gov hW (va_runV S (m_defining l g z0 N ad F_12 hN tape kn rt la ((a ++ [(md_at tape i)])) (([] : List Nat)) ap 0 (nI i) me dp 8 ou (if (md_ref tape i).2.1 = true then 1 else 2) ((md_ref tape i).2.2.1) (nI (md_ref tape i).2.2.2) hS3 (md_at tape (i + 2)) (nI i)) (cwV 2 hts (tb_V cd_M_defining tq_149 tq_150 tq_151 tq_118) rfl rfl rfl hd_M_defining (rk_ok (by omega) (by omega))) (hp_preV hK hW (by omega) rfl hR.1 rfl) rfl rfl hl.1 rfl (lv_room (Nat.le_of_ble_eq_true rfl)) d_M_define_116 ⟨Nat.zero_le _, Nat.zero_le _⟩) (fun F_16 H locs hw hW => ?_)
                obtain ⟨hS4, hg4⟩ := hw
                rw [show (md_ad 100 ((a ++ [(md_at tape i)])) (md_at tape (i + 2))) = ((a ++ [(md_at tape i)]), 8) from if_neg (by omega), if8n (by decide), if8n (by decide)] at hS4
                obtain ⟨tp, hs, sz, tx, vl, ey, md, hR, ⟨htl, htp⟩, hT, ⟨hll, hvl⟩, hKs, hml0, hmd⟩ := id hS4
                refine lv_iinc (v := (nI (((0 + 1) + 1) + 1))) (lv' := [(4, .int (nI (((0 + 1) + 1) + 1))), (3, .int (md_at tape i)), (0, .ref (ad 87)), (1, .int x1), (2, .int (nI i))]) hx hb d_M_define_119 hl (k := 0) rfl ((nI_succ (((0 + 1) + 1))).symm) (by decide) rfl (fun ls hl => ?_)
                refine lv_goto (tgt := 99) hx hb d_M_define_122 (by decide) ?_
                refine lv_iload hx hb d_M_define_99 (lv_at hl 0 rfl) ?_
                refine lv_iconst (v := 3) hx hb d_M_define_101 (by decide) ?_
                refine lv_icmp_ge (tgt := 125) hx hb d_M_define_102 (by decide) (fun c_102 => ?_) (fun c_102 => absurd (show 3 ≤ ((nI (((0 + 1) + 1) + 1)) : Int32) from by decide) c_102)
                refine lv_aload_n hx hb d_M_define_125 rfl (lv_at hl 2 rfl) ?_
                refine hp_get S hK hW (87) (by omega) rfl hR.1 rfl in_kM 18 (by decide) (hts _ (List.mem_cons_of_mem _ tq_114)) rfl d_M_define_126 ?_
                refine lv_istore_n (lv' := [(2, .int (nI (md_ref tape i).2.2.2)), (4, .int (nI (((0 + 1) + 1) + 1))), (3, .int (md_at tape i)), (0, .ref (ad 87)), (1, .int x1)]) hx hb d_M_define_129 rfl hl (by decide) rfl (fun ls hl => ?_)
                refine lv_goto (tgt := 158) hx hb d_M_define_130 (by decide) ?_
                refine lv_goto (tgt := 29) hx hb d_M_define_158 (by decide) ?_
                have h38 := c_54i
                have hnx : md_nx tape i = (md_ref tape i).2.2.2 := if_pos h38
                have hD0 : (md_dit tape i a) = ((md_3 a (md_at tape i) (md_at tape (i + 1)) (md_at tape (i + 2))).1, (md_3 a (md_at tape i) (md_at tape (i + 1)) (md_at tape (i + 2))).2, i) := dit_ent h38 hWt hTt
                have hm3 := hm3
                (try simp only [List.length_append, List.length_singleton] at hm3)
                have h33 : md_3 a (md_at tape i) (md_at tape (i + 1)) (md_at tape (i + 2)) = (a, 8) := if_neg (by omega)
                have hDt : (md_dit tape i a) = (a, 8, i) := by rw [hD0, h33]
                have hDn : ¬ (md_dit tape i a).2.1 = 0 := by rw [hDt]; exact (by decide : ¬ (8 : Nat) = 0)
                rw [md_df_no hlt hDn, hDt] at kx
                exact df_head l g z0 N ad hN tape kn rt la ap me dp ou x1 F_16 ((a ++ [(md_at tape i)])) (nI i) 8 (if (md_ref tape i).2.1 = true then 1 else 2) ((md_ref tape i).2.2.1) (nI (md_ref tape i).2.2.2) ((nI (md_ref tape i).2.2.2)) (by decide) hS4 S hK (fun H locs ls hW hl => kx F_16 ((a ++ [(md_at tape i)])) _ _ _ H locs ls _ (by rw [pf_n (by decide : ¬ (8 : Nat) = 0)]; exact hS4) (fun z => absurd z ((by decide : ¬ (8 : Nat) = 0))) (hfr.tr (((hg1.tr hg2).tr hg3).tr hg4)) hW hl) H locs ls hW (lv_sub hl [3, 4, 0] rfl)
            · have hX2 : (md_ad 100 a (md_at tape i)) = (a, 8) := if_neg (by omega)
              rw [hX2, if8 rfl, if8 rfl] at hS2
              replace hS2 : mS g ad F_10 tape kn rt la a [] ap 0 (nI i) me dp 8 ou (if (md_ref tape i).2.1 = true then 1 else 2) ((md_ref tape i).2.2.1) (nI (md_ref tape i).2.2.2) := hS2
              obtain ⟨tp, hs, sz, tx, vl, ey, md, hR, ⟨htl, htp⟩, hT, ⟨hll, hvl⟩, hKs, hml0, hmd⟩ := id hS2
              refine lv_iinc (v := (nI (0 + 1))) (lv' := [(4, .int (nI (0 + 1))), (3, .int (md_at tape i)), (0, .ref (ad 87)), (1, .int x1), (2, .int (nI i))]) hx hb d_M_define_119 hl (k := 0) rfl ((nI_succ (0)).symm) (by decide) rfl (fun ls hl => ?_)
              refine lv_goto (tgt := 99) hx hb d_M_define_122 (by decide) ?_
              refine lv_iload hx hb d_M_define_99 (lv_at hl 0 rfl) ?_
              refine lv_iconst (v := 3) hx hb d_M_define_101 (by decide) ?_
              refine lv_icmp_ge (tgt := 125) hx hb d_M_define_102 (by decide) (fun c_102 => absurd c_102 (show ¬ (3 ≤ ((nI (0 + 1)) : Int32)) from by decide)) (fun c_102 => ?_)
              refine lv_aload_n hx hb d_M_define_105 rfl (lv_at hl 2 rfl) ?_
              refine lv_aload_n hx hb d_M_define_106 rfl (lv_at hl 2 rfl) ?_
              refine hp_get S hK hW (87) (by omega) rfl hR.1 rfl in_kM 1 (by decide) (hts _ (List.mem_cons_of_mem _ tq_97)) rfl d_M_define_107 ?_
              refine lv_iload_n hx hb d_M_define_110 rfl (lv_at hl 4 rfl) ?_
              refine lv_iload hx hb d_M_define_111 (lv_at hl 0 rfl) ?_
              refine lv_iadd hx hb d_M_define_113 ?_
              rw [show ((nI i) + (nI (0 + 1))) = (nI (i + 1)) from nI_add i 1]
              refine hp_iald S hK hW (88) (by omega) rfl hR.2.1 (vp_in_nI (by omega) (by omega)) d_M_define_114 ?_
              rw [show (tp ((nI (i + 1)) : Int32).toNatClampNeg) = (md_at tape (i + 1)) from (by rw [nI_clamp (by omega)]; have := htp (i + 1) hl1; rwa [Nat.zero_add] at this)]
              refine lv_iload_n hx hb d_M_define_115 rfl (lv_at hl 4 rfl) ?_
              refine hp_gov hW (va_runV S (m_defining l g z0 N ad F_10 hN tape kn rt la a (([] : List Nat)) ap 0 (nI i) me dp 8 ou (if (md_ref tape i).2.1 = true then 1 else 2) ((md_ref tape i).2.2.1) (nI (md_ref tape i).2.2.2) hS2 (md_at tape (i + 1)) (nI i)) (cwV 2 hts (tb_V cd_M_defining tq_149 tq_150 tq_151 tq_118) rfl rfl rfl hd_M_defining (rk_ok (by omega) (by omega))) (hp_preV hK hW (by omega) rfl hR.1 rfl) rfl rfl hl.1 rfl (lv_room (Nat.le_of_ble_eq_true rfl)) d_M_define_116 ⟨Nat.zero_le _, Nat.zero_le _⟩) (fun F_18 H locs hw hW => ?_)
              obtain ⟨hS3, hg3⟩ := hw
              rw [show (md_ad 100 a (md_at tape (i + 1))) = (a, 8) from if_neg (by omega), if8n (by decide), if8n (by decide)] at hS3
              obtain ⟨tp, hs, sz, tx, vl, ey, md, hR, ⟨htl, htp⟩, hT, ⟨hll, hvl⟩, hKs, hml0, hmd⟩ := id hS3
              refine lv_iinc (v := (nI ((0 + 1) + 1))) (lv' := [(4, .int (nI ((0 + 1) + 1))), (3, .int (md_at tape i)), (0, .ref (ad 87)), (1, .int x1), (2, .int (nI i))]) hx hb d_M_define_119 hl (k := 0) rfl ((nI_succ ((0 + 1))).symm) (by decide) rfl (fun ls hl => ?_)
              refine lv_goto (tgt := 99) hx hb d_M_define_122 (by decide) ?_
              refine lv_iload hx hb d_M_define_99 (lv_at hl 0 rfl) ?_
              refine lv_iconst (v := 3) hx hb d_M_define_101 (by decide) ?_
              refine lv_icmp_ge (tgt := 125) hx hb d_M_define_102 (by decide) (fun c_102 => absurd c_102 (show ¬ (3 ≤ ((nI ((0 + 1) + 1)) : Int32)) from by decide)) (fun c_102 => ?_)
              refine lv_aload_n hx hb d_M_define_105 rfl (lv_at hl 2 rfl) ?_
              refine lv_aload_n hx hb d_M_define_106 rfl (lv_at hl 2 rfl) ?_
              refine hp_get S hK hW (87) (by omega) rfl hR.1 rfl in_kM 1 (by decide) (hts _ (List.mem_cons_of_mem _ tq_97)) rfl d_M_define_107 ?_
              refine lv_iload_n hx hb d_M_define_110 rfl (lv_at hl 4 rfl) ?_
              refine lv_iload hx hb d_M_define_111 (lv_at hl 0 rfl) ?_
              refine lv_iadd hx hb d_M_define_113 ?_
              rw [show ((nI i) + (nI ((0 + 1) + 1))) = (nI (i + 2)) from nI_add i 2]
              refine hp_iald S hK hW (88) (by omega) rfl hR.2.1 (vp_in_nI (by omega) (by omega)) d_M_define_114 ?_
              rw [show (tp ((nI (i + 2)) : Int32).toNatClampNeg) = (md_at tape (i + 2)) from (by rw [nI_clamp (by omega)]; have := htp (i + 2) hl2; rwa [Nat.zero_add] at this)]
              refine lv_iload_n hx hb d_M_define_115 rfl (lv_at hl 4 rfl) ?_
              refine hp_gov hW (va_runV S (m_defining l g z0 N ad F_18 hN tape kn rt la a (([] : List Nat)) ap 0 (nI i) me dp 8 ou (if (md_ref tape i).2.1 = true then 1 else 2) ((md_ref tape i).2.2.1) (nI (md_ref tape i).2.2.2) hS3 (md_at tape (i + 2)) (nI i)) (cwV 2 hts (tb_V cd_M_defining tq_149 tq_150 tq_151 tq_118) rfl rfl rfl hd_M_defining (rk_ok (by omega) (by omega))) (hp_preV hK hW (by omega) rfl hR.1 rfl) rfl rfl hl.1 rfl (lv_room (Nat.le_of_ble_eq_true rfl)) d_M_define_116 ⟨Nat.zero_le _, Nat.zero_le _⟩) (fun F_20 H locs hw hW => ?_)
              obtain ⟨hS4, hg4⟩ := hw
              rw [show (md_ad 100 a (md_at tape (i + 2))) = (a, 8) from if_neg (by omega), if8n (by decide), if8n (by decide)] at hS4
              obtain ⟨tp, hs, sz, tx, vl, ey, md, hR, ⟨htl, htp⟩, hT, ⟨hll, hvl⟩, hKs, hml0, hmd⟩ := id hS4
              refine lv_iinc (v := (nI (((0 + 1) + 1) + 1))) (lv' := [(4, .int (nI (((0 + 1) + 1) + 1))), (3, .int (md_at tape i)), (0, .ref (ad 87)), (1, .int x1), (2, .int (nI i))]) hx hb d_M_define_119 hl (k := 0) rfl ((nI_succ (((0 + 1) + 1))).symm) (by decide) rfl (fun ls hl => ?_)
              refine lv_goto (tgt := 99) hx hb d_M_define_122 (by decide) ?_
              refine lv_iload hx hb d_M_define_99 (lv_at hl 0 rfl) ?_
              refine lv_iconst (v := 3) hx hb d_M_define_101 (by decide) ?_
              refine lv_icmp_ge (tgt := 125) hx hb d_M_define_102 (by decide) (fun c_102 => ?_) (fun c_102 => absurd (show 3 ≤ ((nI (((0 + 1) + 1) + 1)) : Int32) from by decide) c_102)
              refine lv_aload_n hx hb d_M_define_125 rfl (lv_at hl 2 rfl) ?_
              refine hp_get S hK hW (87) (by omega) rfl hR.1 rfl in_kM 18 (by decide) (hts _ (List.mem_cons_of_mem _ tq_114)) rfl d_M_define_126 ?_
              refine lv_istore_n (lv' := [(2, .int (nI (md_ref tape i).2.2.2)), (4, .int (nI (((0 + 1) + 1) + 1))), (3, .int (md_at tape i)), (0, .ref (ad 87)), (1, .int x1)]) hx hb d_M_define_129 rfl hl (by decide) rfl (fun ls hl => ?_)
              refine lv_goto (tgt := 158) hx hb d_M_define_130 (by decide) ?_
              refine lv_goto (tgt := 29) hx hb d_M_define_158 (by decide) ?_
              have h38 := c_54i
              have hnx : md_nx tape i = (md_ref tape i).2.2.2 := if_pos h38
              have hD0 : (md_dit tape i a) = ((md_3 a (md_at tape i) (md_at tape (i + 1)) (md_at tape (i + 2))).1, (md_3 a (md_at tape i) (md_at tape (i + 1)) (md_at tape (i + 2))).2, i) := dit_ent h38 hWt hTt
              have hm3 := hm2
              (try simp only [List.length_append, List.length_singleton] at hm3)
              have h33 : md_3 a (md_at tape i) (md_at tape (i + 1)) (md_at tape (i + 2)) = (a, 8) := if_neg (by omega)
              have hDt : (md_dit tape i a) = (a, 8, i) := by rw [hD0, h33]
              have hDn : ¬ (md_dit tape i a).2.1 = 0 := by rw [hDt]; exact (by decide : ¬ (8 : Nat) = 0)
              rw [md_df_no hlt hDn, hDt] at kx
              exact df_head l g z0 N ad hN tape kn rt la ap me dp ou x1 F_20 a (nI i) 8 (if (md_ref tape i).2.1 = true then 1 else 2) ((md_ref tape i).2.2.1) (nI (md_ref tape i).2.2.2) ((nI (md_ref tape i).2.2.2)) (by decide) hS4 S hK (fun H locs ls hW hl => kx F_20 a _ _ _ H locs ls _ (by rw [pf_n (by decide : ¬ (8 : Nat) = 0)]; exact hS4) (fun z => absurd z ((by decide : ¬ (8 : Nat) = 0))) (hfr.tr (((hg1.tr hg2).tr hg3).tr hg4)) hW hl) H locs ls hW (lv_sub hl [3, 4, 0] rfl)
          · have c_74i := c_74
            have hTf : (md_ref tape i).2.1 = false := by cases hz : (md_ref tape i).2.1 with | false => rfl | true => exact absurd c_74i (by rw [hz]; decide)
            refine lv_aload_n hx hb d_M_define_77 rfl (lv_at hl 1 rfl) ?_
            refine lv_aload_n hx hb d_M_define_78 rfl (lv_at hl 1 rfl) ?_
            refine hp_get S hK hW (87) (by omega) rfl hR.1 rfl in_kM 17 (by decide) (hts _ (List.mem_cons_of_mem _ tq_113)) rfl d_M_define_79 ?_
            refine lv_iload_n hx hb d_M_define_82 rfl (lv_at hl 3 rfl) ?_
            refine hp_gov hW (va_runV S (m_defining l g z0 N ad F_8 hN tape kn rt la a (([] : List Nat)) ap 0 ((-1)) me dp 0 ou (if (md_ref tape i).2.1 = true then 1 else 2) ((md_ref tape i).2.2.1) (nI (md_ref tape i).2.2.2) hS1 (md_ref tape i).2.2.1 (nI i)) (cwV 2 hts (tb_V cd_M_defining tq_149 tq_150 tq_151 tq_118) rfl rfl rfl hd_M_defining (rk_ok (by omega) (by omega))) (hp_preV hK hW (by omega) rfl hR.1 rfl) rfl rfl hl.1 rfl (lv_room (Nat.le_of_ble_eq_true rfl)) d_M_define_83 ⟨Nat.zero_le _, Nat.zero_le _⟩) (fun F_22 H locs hw hW => ?_)
            obtain ⟨hS2, hg2⟩ := hw
            rcases Nat.lt_or_ge (a).length 100 with hm2 | hm2
            · have hX2 : (md_ad 100 a (md_ref tape i).2.2.1) = (a ++ [(md_ref tape i).2.2.1], 0) := if_pos hm2
              rw [hX2, if80, if80] at hS2
              obtain ⟨tp, hs, sz, tx, vl, ey, md, hR, ⟨htl, htp⟩, hT, ⟨hll, hvl⟩, hKs, hml0, hmd⟩ := id hS2
              refine lv_goto (tgt := 125) hx hb d_M_define_86 (by decide) ?_
              refine lv_aload_n hx hb d_M_define_125 rfl (lv_at hl 1 rfl) ?_
              refine hp_get S hK hW (87) (by omega) rfl hR.1 rfl in_kM 18 (by decide) (hts _ (List.mem_cons_of_mem _ tq_114)) rfl d_M_define_126 ?_
              refine lv_istore_n (lv' := [(2, .int (nI (md_ref tape i).2.2.2)), (3, .int (md_at tape i)), (0, .ref (ad 87)), (1, .int x1)]) hx hb d_M_define_129 rfl hl (by decide) rfl (fun ls hl => ?_)
              refine lv_goto (tgt := 158) hx hb d_M_define_130 (by decide) ?_
              refine lv_goto (tgt := 29) hx hb d_M_define_158 (by decide) ?_
              have h38 := c_54i
              have hnx : md_nx tape i = (md_ref tape i).2.2.2 := if_pos h38
              have hch : md_ch (md_ref tape i).2.2.1 = true := lkf_c hL hTf
              have hD0 : (md_dit tape i a) = ((md_ad 100 a (md_ref tape i).2.2.1).1, (md_ad 100 a (md_ref tape i).2.2.1).2, i) := dit_num h38 hWt hTf hch
              have hDt : (md_dit tape i a) = (a ++ [(md_ref tape i).2.2.1], 0, i) := by rw [hD0, hX2]
              rw [md_df_go hlt (by rw [hDt]), hDt, hnx] at kx
              exact ih (md_ref tape i).2.2.2 (a ++ [(md_ref tape i).2.2.1]) _ _ _ F_22 (by omega) (by omega) hS2 (hfr.tr (hg1.tr hg2)) kx H locs ls hW (lv_sub hl [2, 3, 0] rfl)
            · have hX2 : (md_ad 100 a (md_ref tape i).2.2.1) = (a, 8) := if_neg (by omega)
              rw [hX2, if8 rfl, if8 rfl] at hS2
              replace hS2 : mS g ad F_22 tape kn rt la a [] ap 0 (nI i) me dp 8 ou (if (md_ref tape i).2.1 = true then 1 else 2) ((md_ref tape i).2.2.1) (nI (md_ref tape i).2.2.2) := hS2
              obtain ⟨tp, hs, sz, tx, vl, ey, md, hR, ⟨htl, htp⟩, hT, ⟨hll, hvl⟩, hKs, hml0, hmd⟩ := id hS2
              refine lv_goto (tgt := 125) hx hb d_M_define_86 (by decide) ?_
              refine lv_aload_n hx hb d_M_define_125 rfl (lv_at hl 1 rfl) ?_
              refine hp_get S hK hW (87) (by omega) rfl hR.1 rfl in_kM 18 (by decide) (hts _ (List.mem_cons_of_mem _ tq_114)) rfl d_M_define_126 ?_
              refine lv_istore_n (lv' := [(2, .int (nI (md_ref tape i).2.2.2)), (3, .int (md_at tape i)), (0, .ref (ad 87)), (1, .int x1)]) hx hb d_M_define_129 rfl hl (by decide) rfl (fun ls hl => ?_)
              refine lv_goto (tgt := 158) hx hb d_M_define_130 (by decide) ?_
              refine lv_goto (tgt := 29) hx hb d_M_define_158 (by decide) ?_
              have h38 := c_54i
              have hnx : md_nx tape i = (md_ref tape i).2.2.2 := if_pos h38
              have hch : md_ch (md_ref tape i).2.2.1 = true := lkf_c hL hTf
              have hD0 : (md_dit tape i a) = ((md_ad 100 a (md_ref tape i).2.2.1).1, (md_ad 100 a (md_ref tape i).2.2.1).2, i) := dit_num h38 hWt hTf hch
              have hDt : (md_dit tape i a) = (a, 8, i) := by rw [hD0, hX2]
              have hDn : ¬ (md_dit tape i a).2.1 = 0 := by rw [hDt]; exact (by decide : ¬ (8 : Nat) = 0)
              rw [md_df_no hlt hDn, hDt] at kx
              exact df_head l g z0 N ad hN tape kn rt la ap me dp ou x1 F_22 a (nI i) 8 (if (md_ref tape i).2.1 = true then 1 else 2) ((md_ref tape i).2.2.1) (nI (md_ref tape i).2.2.2) ((nI (md_ref tape i).2.2.2)) (by decide) hS2 S hK (fun H locs ls hW hl => kx F_22 a _ _ _ H locs ls _ (by rw [pf_n (by decide : ¬ (8 : Nat) = 0)]; exact hS2) (fun z => absurd z ((by decide : ¬ (8 : Nat) = 0))) (hfr.tr (hg1.tr hg2)) hW hl) H locs ls hW (lv_sub hl [2, 3, 0] rfl)
    · have hRe := md_df_end (n := n + 1) (a := a) hge
      rw [hRe] at kx
      have hcl := hS.cl
      obtain ⟨tp, hs, sz, tx, vl, ey, md, hR, ⟨htl, htp⟩, hT, ⟨hll, hvl⟩, hKs, hml0, hmd⟩ := id hS
      have hcl2 : tape.length ≤ 200 := htl
      refine lv_iload_n hx hb d_M_define_29 rfl (lv_at hl 2 rfl) ?_
      refine lv_aload_n hx hb d_M_define_30 rfl (lv_at hl 0 rfl) ?_
      refine hp_get S hK hW (87) (by omega) rfl hR.1 rfl in_kM 2 (by decide) (hts _ (List.mem_cons_of_mem _ tq_98)) rfl d_M_define_31 ?_
      refine lv_icmp_ge (tgt := 161) hx hb d_M_define_34 (by decide) (fun c_34 => ?_) (fun c_34 => absurd (show (nI tape.length) ≤ ((nI i) : Int32) from nI_le hge (by omega)) c_34)
      exact kx F a ki nu be H locs ls _ hS (fun _ => rfl) hfr hW (lv_sub hl [0, 1, 2] rfl)
