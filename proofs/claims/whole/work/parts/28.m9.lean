theorem opf_ns {kn : Nat → Bool} {stk : List Nat} {k n me0 lim : Nat} (h : opf kn stk k n me0 lim = 0) : k ∉ stk := by
  unfold opf at h
  split at h
  · omega
  · split at h
    · omega
    · assumption
theorem opf_kn {kn : Nat → Bool} {stk : List Nat} {k n me0 lim : Nat} (h : opf kn stk k n me0 lim = 0) : kn k = true := by
  unfold opf at h
  split at h
  · omega
  · rename_i h1
    cases hz : kn k with
    | true => rfl
    | false => exact absurd hz h1
theorem opf_ml {kn : Nat → Bool} {stk : List Nat} {k n me0 lim : Nat} (h : opf kn stk k n me0 lim = 0) : me0 + n ≤ lim := by
  unfold opf at h
  split at h
  · omega
  · split at h
    · omega
    · split at h <;> omega

set_option maxHeartbeats 400000 in
set_option maxRecDepth 100000 in
theorem vl_all {p : Program} {e : Env} {s : State} {m : MethodId} {args : Array Value} {below : List Frame} {meth : Method} {c : Code} {Q : State → Prop} (l : Launch) (g : hp_G) (z0 N : Nat) (ad : Nat → Nat) (hN : 96 ≤ N) (tape : List Int32) (kn : Nat → Bool) (rt : Nat → List Int32) (mm : List Int32) (lim : Nat) (hlim : lim ≤ 100000) (x1 : Int32) (Fz : Nat → va_E) (S : CallFix p m c cc_M_value 4 s args ws_M_value R_M) (hK : hp_K g s) : ∀ d, VL l p e s m args below meth c Q g z0 N ad tape kn rt mm lim x1 Fz d := by
  obtain ⟨hx, hb, hml, hown, hts⟩ := id S
  have in_kM : ∀ w ∈ u_ws R_M T_M 21, w ∈ ws_M_value := fun w h => List.mem_cons_of_mem _ (in0_M w h)
  intro d
  induction d using Nat.strongRecOn with
  | _ d ihd =>
    intro n
    induction n with
    | zero =>
      intro i oN me0 dp0 la stk ap fp ou ki nu be F hd hnd hi hn hou hap hme hdp hS hfr k1 k2 H locs ls hW hl
      exact k1 F ap ou ki nu be H locs ls hou rfl hS hfr ⟨i, hi, hap, by omega⟩ (fun _ _ => rfl) hW hl
    | succ n ih =>
      intro i oN me0 dp0 la stk ap fp ou ki nu be F hd hnd hi hn hou hap hme hdp hS hfr k1 k2 H locs ls hW hl
      have hcl := hS.cl
      have hsl := hS.sl
      rcases Nat.lt_or_ge i (mC tape rt stk).length with hlt | hge
      · obtain ⟨tp, hs, sz, tx, vl, ey, md, hR, ⟨htl, htp⟩, hT, ⟨hll, hvl⟩, hKs, hml0, hmd⟩ := id hS
        refine lv_iload_n hx hb d_M_value_48 rfl (lv_at hl 3 rfl) ?_
        refine lv_if_eq (tgt := 108) hx hb d_M_value_49 (by decide) (fun c_49 => absurd c_49 (show ¬ ((1 : Int32) = 0) from by decide)) (fun c_49 => ?_)
        refine lv_aload_n hx hb d_M_value_52 rfl (lv_at hl 0 rfl) ?_
        refine hp_get S hK hW (87) (by omega) rfl hR.1 rfl in_kM 14 (by decide) (hts _ (List.mem_cons_of_mem _ tq_110)) rfl d_M_value_53 ?_
        refine lv_if_ne (tgt := 108) hx hb d_M_value_56 (by decide) (fun c_56 => absurd c_56 (show ¬ (¬ (0 : Int32) = 0) from fun z => z rfl)) (fun c_56 => ?_)
        refine lv_aload_n hx hb d_M_value_59 rfl (lv_at hl 0 rfl) ?_
        refine hp_get S hK hW (87) (by omega) rfl hR.1 rfl in_kM 13 (by decide) (hts _ (List.mem_cons_of_mem _ tq_109)) rfl d_M_value_60 ?_
        refine lv_aload_n hx hb d_M_value_63 rfl (lv_at hl 0 rfl) ?_
        refine hp_get S hK hW (87) (by omega) rfl hR.1 rfl in_kM 11 (by decide) (hts _ (List.mem_cons_of_mem _ tq_107)) rfl d_M_value_64 ?_
        refine hp_iald S hK hW (94) (by omega) rfl hR.2.2.2.2.2.2.2.1 (vp_in_nI (by omega) (by omega)) d_M_value_67 ?_
        rw [show (ap ((nI stk.length) : Int32).toNatClampNeg) = (nI i) from (by rw [nI_clamp (by omega)]; exact hap)]
        refine lv_aload_n hx hb d_M_value_68 rfl (lv_at hl 0 rfl) ?_
        refine hp_goi hW (va_runV S (m_length l g z0 N ad F hN tape kn rt la mm stk ap 0 fp (nI me0) (nI dp0) 0 ou ki nu be hS) (cwV 0 hts (tb_V cd_M_length tq_117 tq_119 tq_120 tq_118) rfl rfl rfl hd_M_length (rk_ok (by omega) (by omega))) (hp_preV hK hW (by omega) rfl hR.1 rfl) rfl rfl hl.1 rfl (lv_room (Nat.le_of_ble_eq_true rfl)) d_M_value_69 ⟨Nat.zero_le _, Nat.zero_le _⟩) (fun r_1 F_2 H locs hw hW => ?_)
        obtain ⟨hvq, hFq⟩ := hw
        rw [hFq] at hW
        rw [hvq]
        refine lv_icmp_ge (tgt := 83) hx hb d_M_value_72 (by decide) (fun c_72 => absurd c_72 (show ¬ ((nI (mC tape rt stk).length) ≤ ((nI i) : Int32)) from nI_ge hlt (by omega))) (fun c_72 => ?_)
        refine lv_aload_n hx hb d_M_value_75 rfl (lv_at hl 0 rfl) ?_
        refine lv_iload_n hx hb d_M_value_76 rfl (lv_at hl 2 rfl) ?_
        refine hp_gov hW (va_runV S (m_step l g z0 N ad F hN tape kn rt la mm stk ap 0 fp ou ki nu be me0 dp0 lim hme hlim hdp hS hnd i oN hou hap hlt (subd (txR kn rt) lim d stk)) (cwV 1 hts (tb_V cd_M_step tq_153 tq_154 tq_155 tq_118) rfl rfl rfl hd_M_step (rk_ok (by omega) (by omega))) (hp_preV hK hW (by omega) rfl hR.1 rfl) rfl rfl hl.1 rfl (lv_room (Nat.le_of_ble_eq_true rfl)) d_M_value_77 ⟨Nat.zero_le _, Nat.zero_le _⟩) (fun F_4 H locs hw hW => ?_)
        obtain ⟨hp1, hp2, hg1⟩ := hw
        refine lv_goto (tgt := 48) hx hb d_M_value_80 (by decide) ?_
        by_cases hp : isPush kn rt stk (mC tape rt stk) i me0 lim
        · obtain ⟨ap1, ki1, nu1, be1, hS1, ha1, ha2, ha3⟩ := hp1 hp
          obtain ⟨h38, hWt, hTt, hO⟩ := hp
          generalize hkk : (md_ref (mC tape rt stk) i).2.2.1.toNatClampNeg = k at hS1 hO
          have hkl := hS1.sl
          rw [List.length_cons] at hkl
          have hns := opf_ns hO
          have hkn := opf_kn hO
          have hml := opf_ml hO
          rw [hhere hou] at hS1
          have hen : md_en (txR kn rt) lim (subd (txR kn rt) lim d stk) stk k (la, me0, dp0) (md_here stk oN i) = md_rv (txR kn rt) lim d (k :: stk) (md_here stk oN i) (rt k) (la, me0 + (rt k).length, max dp0 (stk.length + 1)) := by unfold md_en txR; rw [if_pos hkn]; exact (if_neg hns).trans (if_neg (by show ¬ lim < me0 + (rt k).length; omega))
          have hIT : (md_it (txR kn rt) lim (subd (txR kn rt) lim d stk) stk oN (mC tape rt stk) i (la, me0, dp0)) = md_rv (txR kn rt) lim d (k :: stk) (md_here stk oN i) (rt k) (la, me0 + (rt k).length, max dp0 (stk.length + 1)) := by rw [it_ent h38 hWt hTt, hkk]; exact hen
          obtain ⟨d1, rfl⟩ : ∃ d1, d = d1 + 1 := ⟨d - 1, by omega⟩
          have hnx : md_nx (mC tape rt stk) i = (md_ref (mC tape rt stk) i).2.2.2 := if_pos h38
          have hre := md_ref_end (mC tape rt stk) i
          refine ihd d1 (by omega) (rt k).length 0 (md_here stk oN i) (me0 + (rt k).length) (max dp0 (stk.length + 1)) la (k :: stk) ap1 fp _ ki1 nu1 be1 F_4 (by rw [List.length_cons]; omega) (List.nodup_cons.mpr ⟨hns, hnd⟩) (by omega) (by show (rt k).length ≤ 0 + (rt k).length; omega) (fun _ => rfl) ha1 (by omega) (by omega) hS1 (hfr.tr hg1) ?_ ?_ H locs ls hW hl
          · intro F2 ap2 ou2 ki2 nu2 be2 H locs ls hou2 h0 hS2 hf2 hi2 ha4 hW hl
            have hou2 := hou2 (by rw [List.length_cons]; omega)
            subst hou2
            obtain ⟨i2, hi2a, hi2b, hi2c⟩ := hi2
            rw [show mC tape rt (k :: stk) = rt k from rfl] at h0 hS2 hi2c
            have hRS : (md_it (txR kn rt) lim (subd (txR kn rt) lim (d1 + 1) stk) stk oN (mC tape rt stk) i (la, me0, dp0)) = (md_lp (txR kn rt) lim (subd (txR kn rt) lim d1 (k :: stk)) (k :: stk) (md_here stk oN i) (rt k) (rt k).length 0 (la, me0 + (rt k).length, max dp0 (stk.length + 1))) := hIT
            have hokS := ok_rv (tx := (txR kn rt)) (lim := lim) (d1 + 1) (k :: stk) (md_here stk oN i) (rt k) (la, me0 + (rt k).length, max dp0 (stk.length + 1)) (by rw [List.length_cons]; omega) (by show me0 + _ ≤ lim; omega) (by show max dp0 (stk.length + 1) ≤ 27; omega)
            generalize hgR : (md_lp (txR kn rt) lim (subd (txR kn rt) lim d1 (k :: stk)) (k :: stk) (md_here stk oN i) (rt k) (rt k).length 0 (la, me0 + (rt k).length, max dp0 (stk.length + 1))) = RS at h0 hS2 hRS
            have hokS : okR lim RS := by rw [← hgR]; exact hokS
            obtain ⟨⟨la2, me2, dp2⟩, fa2, pl2⟩ := RS
            dsimp only at h0 hS2
            subst h0
            obtain ⟨tp, hs, sz, tx, vl, ey, md, hR, ⟨htl, htp⟩, hT, ⟨hll, hvl⟩, hKs, hml0, hmd⟩ := id hS2
            refine lv_iload_n hx hb d_M_value_48 rfl (lv_at hl 3 rfl) ?_
            refine lv_if_eq (tgt := 108) hx hb d_M_value_49 (by decide) (fun c_49 => absurd c_49 (show ¬ ((1 : Int32) = 0) from by decide)) (fun c_49 => ?_)
            refine lv_aload_n hx hb d_M_value_52 rfl (lv_at hl 0 rfl) ?_
            refine hp_get S hK hW (87) (by omega) rfl hR.1 rfl in_kM 14 (by decide) (hts _ (List.mem_cons_of_mem _ tq_110)) rfl d_M_value_53 ?_
            refine lv_if_ne (tgt := 108) hx hb d_M_value_56 (by decide) (fun c_56 => absurd c_56 (show ¬ (¬ (0 : Int32) = 0) from fun z => z rfl)) (fun c_56 => ?_)
            refine lv_aload_n hx hb d_M_value_59 rfl (lv_at hl 0 rfl) ?_
            refine hp_get S hK hW (87) (by omega) rfl hR.1 rfl in_kM 13 (by decide) (hts _ (List.mem_cons_of_mem _ tq_109)) rfl d_M_value_60 ?_
            refine lv_aload_n hx hb d_M_value_63 rfl (lv_at hl 0 rfl) ?_
            refine hp_get S hK hW (87) (by omega) rfl hR.1 rfl in_kM 11 (by decide) (hts _ (List.mem_cons_of_mem _ tq_107)) rfl d_M_value_64 ?_
            refine hp_iald S hK hW (94) (by omega) rfl hR.2.2.2.2.2.2.2.1 (vp_in_nI (by rw [List.length_cons]; omega) (by omega)) d_M_value_67 ?_
            rw [show (ap2 ((nI (k :: stk).length) : Int32).toNatClampNeg) = (nI i2) from (by rw [nI_clamp (by rw [List.length_cons]; omega)]; exact hi2b)]
            refine lv_aload_n hx hb d_M_value_68 rfl (lv_at hl 0 rfl) ?_
            refine hp_goi hW (va_runV S (m_length l g z0 N ad F2 hN tape kn rt la2 mm (k :: stk) ap2 0 fp (nI me2) (nI dp2) 0 (nI (md_here stk oN i)) ki2 nu2 be2 hS2) (cwV 0 hts (tb_V cd_M_length tq_117 tq_119 tq_120 tq_118) rfl rfl rfl hd_M_length (rk_ok (by omega) (by omega))) (hp_preV hK hW (by omega) rfl hR.1 rfl) rfl rfl hl.1 rfl (lv_room (Nat.le_of_ble_eq_true rfl)) d_M_value_69 ⟨Nat.zero_le _, Nat.zero_le _⟩) (fun r_5 F_6 H locs hw hW => ?_)
            obtain ⟨hvq, hFq⟩ := hw
            rw [hFq] at hW
            rw [hvq]
            rw [show mC tape rt (k :: stk) = rt k from rfl]
            refine lv_icmp_ge (tgt := 83) hx hb d_M_value_72 (by decide) (fun c_72 => ?_) (fun c_72 => absurd (show (nI (rt k).length) ≤ ((nI i2) : Int32) from nI_le hi2c (by omega)) c_72)
            refine lv_aload_n hx hb d_M_value_83 rfl (lv_at hl 0 rfl) ?_
            refine hp_get S hK hW (87) (by omega) rfl hR.1 rfl in_kM 11 (by decide) (hts _ (List.mem_cons_of_mem _ tq_107)) rfl d_M_value_84 ?_
            refine lv_if_le (tgt := 103) hx hb d_M_value_87 (by decide) (fun c_87 => absurd c_87 (show ¬ (((nI (k :: stk).length) : Int32) ≤ 0) from nI_nle (by rw [List.length_cons]; omega) (by rw [List.length_cons]; omega))) (fun c_87 => ?_)
            refine lv_aload_n hx hb d_M_value_90 rfl (lv_at hl 0 rfl) ?_
            refine lv_dup hx hb d_M_value_91 rfl ?_
            refine hp_get S hK hW (87) (by omega) rfl hR.1 rfl in_kM 11 (by decide) (hts _ (List.mem_cons_of_mem _ tq_107)) rfl d_M_value_92 ?_
            refine lv_iconst (v := 1) hx hb d_M_value_95 (by decide) ?_
            refine lv_isub hx hb d_M_value_96 ?_
            rw [show ((nI (k :: stk).length) - 1) = (nI stk.length) from nI_pred _]
            refine hp_put S hK hW (87) (by omega) rfl hR.1 rfl in_kM tyok_M nm_M 11 (by decide) (hts _ (List.mem_cons_of_mem _ tq_107)) rfl rfl rfl (Nat.le_of_ble_eq_true rfl) d_M_value_97 (fun H locs hW => ?_)
            obtain ⟨F_7, eF_7⟩ : ∃ z, z = va_up F2 (87) (.inr (kM, [.int 0, .ref (ad 88), .int (nI tape.length), .ref (ad 89), .ref (ad 90), .ref (ad 91), .ref (ad 92), .int (nI la2.length), .int fp, .int (nI me2), .int (nI dp2), .int (nI stk.length), .ref (ad 93), .ref (ad 94), .int 0, .int (nI (md_here stk oN i)), .int ki2, .int nu2, .int be2, .ref (ad 95), .int (nI mm.length)])) := ⟨_, rfl⟩
            replace hW : hp_W g z0 N ad F_7 s.heap H locs := by rw [eF_7]; exact hW
            have f_8 : F_7 (87) = .inr (kM, [.int 0, .ref (ad 88), .int (nI tape.length), .ref (ad 89), .ref (ad 90), .ref (ad 91), .ref (ad 92), .int (nI la2.length), .int fp, .int (nI me2), .int (nI dp2), .int (nI stk.length), .ref (ad 93), .ref (ad 94), .int 0, .int (nI (md_here stk oN i)), .int ki2, .int nu2, .int be2, .ref (ad 95), .int (nI mm.length)]) := by rw [eF_7, va_up_self]
            have f_9 : F_7 (88) = .inl (g.2 0, 200, .inl tp) := by rw [eF_7, va_up_ne _ _ (by omega)]; exact hR.2.1
            have f_10 : F_7 (89) = .inl (g.2 2, 26, .inl hs) := by rw [eF_7, va_up_ne _ _ (by omega)]; exact hR.2.2.1
            have f_11 : F_7 (90) = .inl (g.2 0, 26, .inl sz) := by rw [eF_7, va_up_ne _ _ (by omega)]; exact hR.2.2.2.1
            have f_12 : F_7 (91) = .inl (g.2 0, 2600, .inl tx) := by rw [eF_7, va_up_ne _ _ (by omega)]; exact hR.2.2.2.2.1
            have f_13 : F_7 (92) = .inl (g.2 0, 301, .inl vl) := by rw [eF_7, va_up_ne _ _ (by omega)]; exact hR.2.2.2.2.2.1
            have f_14 : F_7 (93) = .inl (g.2 0, 28, .inl ey) := by rw [eF_7, va_up_ne _ _ (by omega)]; exact hR.2.2.2.2.2.2.1
            have f_15 : F_7 (94) = .inl (g.2 0, 28, .inl ap2) := by rw [eF_7, va_up_ne _ _ (by omega)]; exact hR.2.2.2.2.2.2.2.1
            have f_16 : F_7 (95) = .inl (g.2 0, 204, .inl md) := by rw [eF_7, va_up_ne _ _ (by omega)]; exact hR.2.2.2.2.2.2.2.2
            have hf_17 : mFr F2 F_7 := fun x hx => by rw [eF_7, va_up_ne _ _ (by omega)]
            refine lv_goto (tgt := 48) hx hb d_M_value_100 (by decide) ?_
            have hS3 : mS g ad F_7 tape kn rt la2 mm stk ap2 0 fp (nI me2) (nI dp2) 0 (nI (md_here stk oN i)) ki2 nu2 be2 := ⟨tp, hs, sz, tx, vl, ey, md, ⟨f_8, f_9, f_10, f_11, f_12, f_13, f_14, f_15, f_16⟩, ⟨htl, htp⟩, hT, ⟨hll, hvl⟩, mK_pop hKs, hml0, hmd⟩
            have hRo : md_lp (txR kn rt) lim (subd (txR kn rt) lim (d1 + 1) stk) stk oN (mC tape rt stk) (n + 1) i (la, me0, dp0) = md_lp (txR kn rt) lim (subd (txR kn rt) lim (d1 + 1) stk) stk oN (mC tape rt stk) n (md_ref (mC tape rt stk) i).2.2.2 (la2, me2, dp2) := by rw [md_lp_go hlt (by rw [hRS]), hRS, hnx]
            rw [hRo] at k1 k2
            refine ih (md_ref (mC tape rt stk) i).2.2.2 oN me2 dp2 la2 stk ap2 fp _ ki2 nu2 be2 F_7 hd hnd (by omega) (by omega) (fun z => by unfold md_here; rw [if_neg z]) ((ha4 _ (by rw [List.length_cons]; omega)).trans ha2) hokS.2.1 hokS.2.2 hS3 (hf2.tr hf_17) ?_ ?_ H locs ls hW (lv_sub hl [0, 1, 2, 3] rfl)
            · intro F3 ap3 ou3 ki3 nu3 be3 H locs ls hou3 h0 hS4 hf3 hi3 ha5 hW hl
              exact k1 F3 ap3 ou3 ki3 nu3 be3 H locs ls hou3 h0 hS4 hf3 hi3 (fun j hj => (ha5 j hj).trans ((ha4 j (by rw [List.length_cons]; omega)).trans (ha3 j hj))) hW hl
            · intro F3 stk3 ap3 ou3 ki3 nu3 be3 H locs ls h0 hS4 hf3 hW hl
              exact k2 F3 stk3 ap3 ou3 ki3 nu3 be3 H locs ls h0 hS4 hf3 hW hl
          · intro F2 stk2 ap2 ou2 ki2 nu2 be2 H locs ls h0 hS2 hf2 hW hl
            have hRo : md_lp (txR kn rt) lim (subd (txR kn rt) lim (d1 + 1) stk) stk oN (mC tape rt stk) (n + 1) i (la, me0, dp0) = md_rv (txR kn rt) lim (d1 + 1) (k :: stk) (md_here stk oN i) (rt k) (la, me0 + (rt k).length, max dp0 (stk.length + 1)) := by rw [md_lp_no hlt (by rw [hIT]; exact h0)]; exact hIT
            rw [hRo] at k2
            exact k2 F2 stk2 ap2 ou2 ki2 nu2 be2 H locs ls h0 hS2 hf2 hW hl
        · obtain ⟨ap1, ki1, nu1, be1, hS1, ha1, ha2⟩ := hp2 hp
          have hok := ok_it (tx := (txR kn rt)) (lim := lim) (sub := (subd (txR kn rt) lim d stk)) (stk := stk) (ou := oN) (xs := (mC tape rt stk)) (i := i) (s := (la, me0, dp0)) (fun k ys s h _ a b => ok_rv d (k :: stk) h ys s (by rw [List.length_cons]; omega) a b) (by omega) hme hdp
          have hre := md_ref_end (mC tape rt stk) i
          have hnl : md_nx (mC tape rt stk) i ≤ i + 10 := by unfold md_nx; split <;> omega
          have hng := md_nx_ge (mC tape rt stk) i
          by_cases hz : (md_it (txR kn rt) lim (subd (txR kn rt) lim d stk) stk oN (mC tape rt stk) i (la, me0, dp0)).2.1 = 0
          · rw [md_lp_go hlt hz] at k1 k2
            generalize hgR : (md_it (txR kn rt) lim (subd (txR kn rt) lim d stk) stk oN (mC tape rt stk) i (la, me0, dp0)) = RS at hz hS1 ha1 hok k1 k2
            obtain ⟨⟨la2, me2, dp2⟩, fa2, pl2⟩ := RS
            dsimp only at hz hS1 ha1 k1 k2
            subst hz
            exact ih (md_nx (mC tape rt stk) i) oN me2 dp2 la2 stk ap1 fp ou ki1 nu1 be1 F_4 hd hnd (by omega) (by omega) hou (ha1 rfl) hok.2.1 hok.2.2 hS1 (hfr.tr hg1) (fun F3 ap3 ou3 ki3 nu3 be3 H locs ls hou3 h0 hS4 hf3 hi3 ha5 hW hl => k1 F3 ap3 ou3 ki3 nu3 be3 H locs ls hou3 h0 hS4 hf3 hi3 (fun j hj => (ha5 j hj).trans (ha2 j hj)) hW hl) k2 H locs ls hW (lv_sub hl [0, 1, 2, 3] rfl)
          · rw [md_lp_no hlt hz] at k2
            rw [pf_n hz] at hS1
            exact k2 F_4 stk ap1 ou ki1 nu1 be1 H locs ls hz hS1 (hfr.tr hg1) hW (lv_sub hl [0, 1, 2, 3] rfl)
      · have hR := md_lp_end (tx := (txR kn rt)) (lim := lim) (sub := (subd (txR kn rt) lim d stk)) (stk := stk) (ou := oN) (n := n + 1) (s := (la, me0, dp0)) hge
        rw [hR] at k1
        exact k1 F ap ou ki nu be H locs ls hou rfl hS hfr ⟨i, hi, hap, hge⟩ (fun _ _ => rfl) hW hl
