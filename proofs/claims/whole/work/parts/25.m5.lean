/-- behind a step at place i -/
def isPush (kn : Nat → Bool) (rt : Nat → List Int32) (stk : List Nat) (xs : List Int32) (i me0 lim : Nat) : Prop := md_at xs i = 38 ∧ (md_ref xs i).1 = true ∧ (md_ref xs i).2.1 = true ∧ opf kn stk (md_ref xs i).2.2.1.toNatClampNeg (rt (md_ref xs i).2.2.1.toNatClampNeg).length me0 lim = 0
def STP (g : hp_G) (ad : Nat → Nat) (F : Nat → va_E) (tape : List Int32) (kn : Nat → Bool) (rt : Nat → List Int32) (la mm : List Int32) (stk : List Nat) (ap : Nat → Int32) (tc fp ou : Int32) (i oN me0 dp0 lim : Nat) (sub : Nat → List Int32 → md_S → Nat → md_R) (F' : Nat → va_E) : Prop :=
  (isPush kn rt stk (mC tape rt stk) i me0 lim → ∃ (ap' : Nat → Int32) (ki nu be : Int32), mS g ad F' tape kn rt la mm ((md_ref (mC tape rt stk) i).2.2.1.toNatClampNeg :: stk) ap' tc fp (nI (me0 + (rt (md_ref (mC tape rt stk) i).2.2.1.toNatClampNeg).length)) (nI (max dp0 (stk.length + 1))) 0 (if stk.length = 0 then (nI i) else ou) ki nu be ∧ ap' (stk.length + 1) = 0 ∧ ap' stk.length = nI (md_ref (mC tape rt stk) i).2.2.2 ∧ ∀ j, j < stk.length → ap' j = ap j) ∧
  (¬ isPush kn rt stk (mC tape rt stk) i me0 lim → ∃ (ap' : Nat → Int32) (ki nu be : Int32), mS g ad F' tape kn rt (md_it (txR kn rt) lim sub stk oN (mC tape rt stk) i (la, me0, dp0)).1.1 mm stk ap' tc (pf (md_it (txR kn rt) lim sub stk oN (mC tape rt stk) i (la, me0, dp0)).2.1 fp (nI (md_it (txR kn rt) lim sub stk oN (mC tape rt stk) i (la, me0, dp0)).2.2)) (nI (md_it (txR kn rt) lim sub stk oN (mC tape rt stk) i (la, me0, dp0)).1.2.1) (nI (md_it (txR kn rt) lim sub stk oN (mC tape rt stk) i (la, me0, dp0)).1.2.2) (nI (md_it (txR kn rt) lim sub stk oN (mC tape rt stk) i (la, me0, dp0)).2.1) ou ki nu be ∧ ((md_it (txR kn rt) lim sub stk oN (mC tape rt stk) i (la, me0, dp0)).2.1 = 0 → ap' stk.length = nI (md_nx (mC tape rt stk) i)) ∧ ∀ j, j < stk.length → ap' j = ap j) ∧ mFr F F'
theorem opf_en {kn : Nat → Bool} {rt : Nat → List Int32} {stk : List Nat} {k me0 dp0 lim h : Nat} {sub : Nat → List Int32 → md_S → Nat → md_R} {la : List Int32} (ho : ¬ opf kn stk k (rt k).length me0 lim = 0) : md_en (txR kn rt) lim sub stk k (la, me0, dp0) h = ((la, me0, dp0), opf kn stk k (rt k).length me0 lim, h) := by
  unfold opf at ho ⊢
  unfold md_en txR
  cases hk : kn k with
  | false => simp
  | true =>
    rw [hk] at ho
    simp only [if_pos] at ho ⊢
    by_cases h1 : k ∈ stk
    · simp [h1]
    · simp only [h1, if_false, Bool.true_eq_false] at ho ⊢
      by_cases h2 : lim < me0 + (rt k).length
      · simp [h2]
      · simp [h2] at ho

theorem hhere {stk : List Nat} {ou : Int32} {oN : Nat} (h : stk.length ≠ 0 → ou = nI oN) (x : Nat) : (if stk.length = 0 then nI x else ou) = nI (md_here stk oN x) := by
  unfold md_here
  split
  · rfl
  · rename_i h1
    exact h h1
theorem lkf_w {t n : Nat} {X : Bool × Bool × Int32 × Nat} (h : lkf t n X = 0) : X.1 = true := by
  unfold lkf at h
  split at h
  · assumption
  · split at h <;> omega
theorem lkf_t {t n : Nat} {X : Bool × Bool × Int32 × Nat} (h1 : X.1 = true) (h2 : X.2.1 = true) : lkf t n X = 0 := by
  unfold lkf
  rw [if_pos h1, if_pos (Or.inl h2)]
theorem lkf_c {t n : Nat} {X : Bool × Bool × Int32 × Nat} (h : lkf t n X = 0) (h2 : X.2.1 = false) : md_ch X.2.2.1 = true := by
  unfold lkf at h
  split at h
  · split at h
    · rename_i h3
      rcases h3 with h3 | h3
      · rw [h2] at h3; cases h3
      · exact h3
    · omega
  · split at h <;> omega
theorem ad_pf {m : Nat} {a : List Int32} {c : Int32} : pf (md_ad m a c).2 0 8 = nI (md_ad m a c).2 := by
  unfold md_ad
  split <;> rfl
section ITS
variable {tx : Nat → Option (List Int32)} {lim : Nat} {sub : Nat → List Int32 → md_S → Nat → md_R} {stk : List Nat} {oN : Nat} {xs : List Int32} {i : Nat} {la : List Int32} {me0 dp0 : Nat}
theorem it_bad (h : md_at xs i = 38) (hL : ¬ lkf stk.length xs.length (md_ref xs i) = 0) : md_it tx lim sub stk oN xs i (la, me0, dp0) = ((la, me0, dp0), lkf stk.length xs.length (md_ref xs i), md_here stk oN (lkp i (md_ref xs i))) := by
  unfold md_it lkp
  rw [if_pos h]
  unfold lkf at hL ⊢
  by_cases h1 : (md_ref xs i).1 = true
  · rw [if_pos h1] at hL
    rw [if_pos h1, if_pos h1, if_pos h1]
    unfold md_wr
    have h2 : ¬ ((md_ref xs i).2.1 = true ∨ md_ch (md_ref xs i).2.2.1 = true) := fun z => hL (if_pos z)
    rw [if_neg (fun z => h2 (Or.inl z)), if_neg h2]
    unfold md_nu
    rw [if_neg (fun z => h2 (Or.inr z))]
  · rw [if_neg h1, if_neg h1, if_neg h1]
theorem it_ent (h : md_at xs i = 38) (h1 : (md_ref xs i).1 = true) (h2 : (md_ref xs i).2.1 = true) : md_it tx lim sub stk oN xs i (la, me0, dp0) = md_en tx lim sub stk (md_ref xs i).2.2.1.toNatClampNeg (la, me0, dp0) (md_here stk oN i) := by
  unfold md_it md_wr
  rw [if_pos h, if_pos h1, if_pos h2]
theorem it_num (h : md_at xs i = 38) (h1 : (md_ref xs i).1 = true) (h2 : (md_ref xs i).2.1 = false) (h3 : md_ch (md_ref xs i).2.2.1 = true) : md_it tx lim sub stk oN xs i (la, me0, dp0) = (((md_ad 300 la (md_ref xs i).2.2.1).1, me0, dp0), (md_ad 300 la (md_ref xs i).2.2.1).2, md_here stk oN i) := by
  unfold md_it md_wr
  rw [if_pos h, if_pos h1, if_neg (by rw [h2]; exact fun z => by cases z)]
  unfold md_nu
  rw [if_pos h3]
theorem it_by {X : List Int32 × Nat} (h : ¬ md_at xs i = 38) (h1 : md_by la (md_at xs i) = X) : md_it tx lim sub stk oN xs i (la, me0, dp0) = ((X.1, me0, dp0), X.2, md_here stk oN i) := by
  unfold md_it
  rw [if_neg h, h1]
end ITS

/-! the reference: step -/
set_option maxHeartbeats 400000 in
set_option maxRecDepth 100000 in
theorem m_step (l : Launch) (g : hp_G) (z0 N : Nat) (ad : Nat → Nat) (F : Nat → va_E) (hN : 96 ≤ N) (tape : List Int32) (kn : Nat → Bool) (rt : Nat → List Int32) (la mm : List Int32) (stk : List Nat) (ap : Nat → Int32) (tc fp ou ki nu be : Int32) (me0 dp0 lim : Nat) (hme : me0 ≤ lim) (hlim : lim ≤ 100000) (hdp : dp0 ≤ 27) (hS : mS g ad F tape kn rt la mm stk ap tc fp (nI me0) (nI dp0) 0 ou ki nu be) (hnd : stk.Nodup) (i oN : Nat) (hou : stk.length ≠ 0 → ou = nI oN) (hap : ap stk.length = nI i) (hi : i < (mC tape rt stk).length) (sub : Nat → List Int32 → md_S → Nat → md_R) : hp_Mv l g z0 N ad y_M_step ws_M_step (rk 3) [.ref (ad 87), .int (nI lim)] F (STP g ad F tape kn rt la mm stk ap tc fp ou i oN me0 dp0 lim sub) := by
  have hcl := hS.cl
  have hsl := hS.sl
  have hre := md_ref_end (mC tape rt stk) i
  obtain ⟨tp, hs, sz, tx, vl, ey, md, hR, ⟨htl, htp⟩, hT, ⟨hll, hvl⟩, hKs, hml0, hmd⟩ := id hS
  refine hp_enter (cc := cc_M_step) (maxL := 4) (ret := none) (by decide) rfl (Nat.le_of_ble_eq_true rfl) ?_
  intro p e s m below meth c S hr hlk hnm hK hW ls hl
  have hl : lv_has ls 4 [(0, .ref (ad 87)), (1, .int (nI lim))] := hl
  obtain ⟨hx, hb, hml, hown, hts⟩ := id S
  have in_kM : ∀ w ∈ u_ws R_M T_M 21, w ∈ ws_M_step := fun w h => List.mem_cons_of_mem _ (in0_M w h)
  refine lv_aload_n hx hb d_M_step_0 rfl (lv_at hl 0 rfl) ?_
  refine hp_get S hK hW (87) (by omega) rfl hR.1 rfl in_kM 13 (by decide) (hts _ (List.mem_cons_of_mem _ tq_109)) rfl d_M_step_1 ?_
  refine lv_aload_n hx hb d_M_step_4 rfl (lv_at hl 0 rfl) ?_
  refine hp_get S hK hW (87) (by omega) rfl hR.1 rfl in_kM 11 (by decide) (hts _ (List.mem_cons_of_mem _ tq_107)) rfl d_M_step_5 ?_
  refine hp_iald S hK hW (94) (by omega) rfl hR.2.2.2.2.2.2.2.1 (vp_in_nI (by omega) (by omega)) d_M_step_8 ?_
  rw [show (ap ((nI stk.length) : Int32).toNatClampNeg) = (nI i) from (by rw [nI_clamp (by omega)]; exact hap)]
  refine lv_istore_n (lv' := [(2, .int (nI i)), (0, .ref (ad 87)), (1, .int (nI lim))]) hx hb d_M_step_9 rfl hl (by decide) rfl (fun ls hl => ?_)
  refine lv_aload_n hx hb d_M_step_10 rfl (lv_at hl 1 rfl) ?_
  refine lv_iload_n hx hb d_M_step_11 rfl (lv_at hl 0 rfl) ?_
  refine hp_goi hW (va_runV S (m_byteOf l g z0 N ad F hN tape kn rt la mm stk ap tc fp (nI me0) (nI dp0) 0 ou ki nu be hS i (by omega)) (cwV 1 hts (tb_V cd_M_byteOf tq_124 tq_125 tq_126 tq_118) rfl rfl rfl hd_M_byteOf (rk_ok (by omega) (by omega))) (hp_preV hK hW (by omega) rfl hR.1 rfl) rfl rfl hl.1 rfl (lv_room (Nat.le_of_ble_eq_true rfl)) d_M_step_12 ⟨Nat.zero_le _, Nat.zero_le _⟩) (fun r_1 F_2 H locs hw hW => ?_)
  obtain ⟨hvq, hFq⟩ := hw
  rw [hFq] at hW
  rw [hvq]
  refine lv_istore_n (lv' := [(3, .int (md_at (mC tape rt stk) i)), (2, .int (nI i)), (0, .ref (ad 87)), (1, .int (nI lim))]) hx hb d_M_step_15 rfl hl (by decide) rfl (fun ls hl => ?_)
  refine lv_iload_n hx hb d_M_step_16 rfl (lv_at hl 0 rfl) ?_
  refine lv_bipush (v := 38) hx hb d_M_step_17 (by decide) ?_
  refine lv_icmp_ne (tgt := 87) hx hb d_M_step_19 (by decide) (fun c_19 => ?_) (fun c_19 => ?_)
  · have c_19i := c_19
    refine lv_iload_n hx hb d_M_step_87 rfl (lv_at hl 0 rfl) ?_
    refine lv_bipush (v := 60) hx hb d_M_step_88 (by decide) ?_
    refine lv_icmp_ne (tgt := 102) hx hb d_M_step_90 (by decide) (fun c_90 => ?_) (fun c_90 => ?_)
    · have c_90i := c_90
      refine lv_iload_n hx hb d_M_step_102 rfl (lv_at hl 0 rfl) ?_
      refine hp_goi hW (va_runS S (m_isCharacter l g z0 N ad F (md_at (mC tape rt stk) i)) (va_cwS 1 hts (tb_S cd_M_isCharacter tq_132 tq_133 tq_118) rfl rfl rfl hd_M_isCharacter.2 (rk_ok (by omega) (by omega))) (hp_preS hK hW) rfl rfl hl.1 rfl (lv_room (Nat.le_of_ble_eq_true rfl)) d_M_step_103 ⟨Nat.zero_le _, Nat.zero_le _⟩) (fun r_3 F_4 H locs hw hW => ?_)
      obtain ⟨hvq, hFq⟩ := hw
      rw [hFq] at hW
      rw [hvq]
      refine lv_if_ne (tgt := 118) hx hb d_M_step_106 (by decide) (fun c_106 => ?_) (fun c_106 => ?_)
      · have c_106i := c_106
        refine lv_aload_n hx hb d_M_step_118 rfl (lv_at hl 2 rfl) ?_
        refine lv_iload_n hx hb d_M_step_119 rfl (lv_at hl 0 rfl) ?_
        refine lv_bipush (v := 32) hx hb d_M_step_120 (by decide) ?_
        refine lv_icmp_ge (tgt := 130) hx hb d_M_step_122 (by decide) (fun c_122 => ?_) (fun c_122 => ?_)
        · have c_122i := c_122
          have c_122j := Int32.not_lt.mpr c_122
          refine lv_iload_n hx hb d_M_step_130 rfl (lv_at hl 0 rfl) ?_
          refine lv_iload_n hx hb d_M_step_131 rfl (lv_at hl 1 rfl) ?_
          refine hp_gov hW (va_runV S (m_add l g z0 N ad F hN tape kn rt la mm stk ap tc fp (nI me0) (nI dp0) 0 ou ki nu be hS (md_at (mC tape rt stk) i) (nI i)) (cwV 2 hts (tb_V cd_M_add tq_143 tq_144 tq_145 tq_118) rfl rfl rfl hd_M_add (rk_ok (by omega) (by omega))) (hp_preV hK hW (by omega) rfl hR.1 rfl) rfl rfl hl.1 rfl (lv_room (Nat.le_of_ble_eq_true rfl)) d_M_step_132 ⟨Nat.zero_le _, Nat.zero_le _⟩) (fun F_6 H locs hw hW => ?_)
          obtain ⟨hS1, hg1⟩ := hw
          obtain ⟨tp, hs, sz, tx, vl, ey, md, hR, ⟨htl, htp⟩, hT, ⟨hll, hvl⟩, hKs, hml0, hmd⟩ := id hS1
          refine lv_aload_n hx hb d_M_step_135 rfl (lv_at hl 2 rfl) ?_
          refine hp_get S hK hW (87) (by omega) rfl hR.1 rfl in_kM 13 (by decide) (hts _ (List.mem_cons_of_mem _ tq_109)) rfl d_M_step_136 ?_
          refine lv_aload_n hx hb d_M_step_139 rfl (lv_at hl 2 rfl) ?_
          refine hp_get S hK hW (87) (by omega) rfl hR.1 rfl in_kM 11 (by decide) (hts _ (List.mem_cons_of_mem _ tq_107)) rfl d_M_step_140 ?_
          refine lv_iload_n hx hb d_M_step_143 rfl (lv_at hl 1 rfl) ?_
          refine lv_iconst (v := 1) hx hb d_M_step_144 (by decide) ?_
          refine lv_iadd hx hb d_M_step_145 ?_
          rw [show ((nI i) + 1) = (nI (i + 1)) from (nI_succ i).symm]
          refine hp_iast S hK hW (94) (by omega) rfl hR.2.2.2.2.2.2.2.1 (x := (nI (i + 1))) (vp_in_nI (by omega) (by omega)) d_M_step_146 (fun H locs hW => ?_)
          obtain ⟨F_7, eF_7⟩ : ∃ z, z = va_up F_6 (94) (.inl (g.2 0, 28, .inl (upd ap stk.length (nI (i + 1))))) := ⟨_, rfl⟩
          rw [show (((nI stk.length) : Int32).toNatClampNeg) = stk.length from nI_clamp (by omega)] at hW
          replace hW : hp_W g z0 N ad F_7 s.heap H locs := by rw [eF_7]; exact hW
          have f_8 : F_7 (87) = .inr (kM, [.int tc, .ref (ad 88), .int (nI tape.length), .ref (ad 89), .ref (ad 90), .ref (ad 91), .ref (ad 92), .int (nI ((md_ad 300 la (md_at (mC tape rt stk) i)).1).length), .int (pf (md_ad 300 la (md_at (mC tape rt stk) i)).2 fp (if stk.length = 0 then (nI i) else ou)), .int (nI me0), .int (nI dp0), .int (nI stk.length), .ref (ad 93), .ref (ad 94), .int (pf (md_ad 300 la (md_at (mC tape rt stk) i)).2 0 8), .int ou, .int ki, .int nu, .int be, .ref (ad 95), .int (nI mm.length)]) := by rw [eF_7, va_up_ne _ _ (by omega)]; exact hR.1
          have f_9 : F_7 (88) = .inl (g.2 0, 200, .inl tp) := by rw [eF_7, va_up_ne _ _ (by omega)]; exact hR.2.1
          have f_10 : F_7 (89) = .inl (g.2 2, 26, .inl hs) := by rw [eF_7, va_up_ne _ _ (by omega)]; exact hR.2.2.1
          have f_11 : F_7 (90) = .inl (g.2 0, 26, .inl sz) := by rw [eF_7, va_up_ne _ _ (by omega)]; exact hR.2.2.2.1
          have f_12 : F_7 (91) = .inl (g.2 0, 2600, .inl tx) := by rw [eF_7, va_up_ne _ _ (by omega)]; exact hR.2.2.2.2.1
          have f_13 : F_7 (92) = .inl (g.2 0, 301, .inl vl) := by rw [eF_7, va_up_ne _ _ (by omega)]; exact hR.2.2.2.2.2.1
          have f_14 : F_7 (93) = .inl (g.2 0, 28, .inl ey) := by rw [eF_7, va_up_ne _ _ (by omega)]; exact hR.2.2.2.2.2.2.1
          have f_15 : F_7 (94) = .inl (g.2 0, 28, .inl (upd ap stk.length (nI (i + 1)))) := by rw [eF_7, va_up_self]
          have f_16 : F_7 (95) = .inl (g.2 0, 204, .inl md) := by rw [eF_7, va_up_ne _ _ (by omega)]; exact hR.2.2.2.2.2.2.2.2
          have hf_17 : mFr F_6 F_7 := fun x hx => by rw [eF_7, va_up_ne _ _ (by omega)]
          have hgo := True.intro
          have h38 := c_19i
          have hnp : ¬ isPush kn rt stk (mC tape rt stk) i me0 lim := fun hp => h38 hp.1
          have hIT : (md_it (txR kn rt) lim sub stk oN (mC tape rt stk) i (la, me0, dp0)) = (((md_ad 300 la (md_at (mC tape rt stk) i)).1, me0, dp0), (md_ad 300 la (md_at (mC tape rt stk) i)).2, md_here stk oN i) := it_by h38 (by unfold md_by; rw [if_neg c_90i, if_pos (b2_n0.mp c_106i), if_neg (Int32.not_lt.mpr c_122i)])
          have hnx : md_nx (mC tape rt stk) i = i + 1 := if_neg h38
          exact hp_retv S hK hW hr hlk d_M_step_147 (⟨fun hp => absurd hp hnp, fun _ => ⟨_, _, _, _, by rw [hIT, ← hhere hou, ← ad_pf]; exact ⟨tp, hs, sz, tx, vl, ey, md, ⟨f_8, f_9, f_10, f_11, f_12, f_13, f_14, f_15, f_16⟩, ⟨htl, htp⟩, hT, ⟨hll, hvl⟩, hKs, hml0, hmd⟩, fun _ => by rw [hnx, pk_us], fun j hj => pk_un (by omega)⟩, (hg1.tr hf_17)⟩)
        · have c_122i := c_122
          have c_122j := Int32.not_le.mp c_122
          refine lv_bipush (v := 32) hx hb d_M_step_125 (by decide) ?_
          refine lv_goto (tgt := 131) hx hb d_M_step_127 (by decide) ?_
          refine lv_iload_n hx hb d_M_step_131 rfl (lv_at hl 1 rfl) ?_
          refine hp_gov hW (va_runV S (m_add l g z0 N ad F hN tape kn rt la mm stk ap tc fp (nI me0) (nI dp0) 0 ou ki nu be hS 32 (nI i)) (cwV 2 hts (tb_V cd_M_add tq_143 tq_144 tq_145 tq_118) rfl rfl rfl hd_M_add (rk_ok (by omega) (by omega))) (hp_preV hK hW (by omega) rfl hR.1 rfl) rfl rfl hl.1 rfl (lv_room (Nat.le_of_ble_eq_true rfl)) d_M_step_132 ⟨Nat.zero_le _, Nat.zero_le _⟩) (fun F_19 H locs hw hW => ?_)
          obtain ⟨hS1, hg1⟩ := hw
          obtain ⟨tp, hs, sz, tx, vl, ey, md, hR, ⟨htl, htp⟩, hT, ⟨hll, hvl⟩, hKs, hml0, hmd⟩ := id hS1
          refine lv_aload_n hx hb d_M_step_135 rfl (lv_at hl 2 rfl) ?_
          refine hp_get S hK hW (87) (by omega) rfl hR.1 rfl in_kM 13 (by decide) (hts _ (List.mem_cons_of_mem _ tq_109)) rfl d_M_step_136 ?_
          refine lv_aload_n hx hb d_M_step_139 rfl (lv_at hl 2 rfl) ?_
          refine hp_get S hK hW (87) (by omega) rfl hR.1 rfl in_kM 11 (by decide) (hts _ (List.mem_cons_of_mem _ tq_107)) rfl d_M_step_140 ?_
          refine lv_iload_n hx hb d_M_step_143 rfl (lv_at hl 1 rfl) ?_
          refine lv_iconst (v := 1) hx hb d_M_step_144 (by decide) ?_
          refine lv_iadd hx hb d_M_step_145 ?_
          rw [show ((nI i) + 1) = (nI (i + 1)) from (nI_succ i).symm]
          refine hp_iast S hK hW (94) (by omega) rfl hR.2.2.2.2.2.2.2.1 (x := (nI (i + 1))) (vp_in_nI (by omega) (by omega)) d_M_step_146 (fun H locs hW => ?_)
          obtain ⟨F_20, eF_20⟩ : ∃ z, z = va_up F_19 (94) (.inl (g.2 0, 28, .inl (upd ap stk.length (nI (i + 1))))) := ⟨_, rfl⟩
          rw [show (((nI stk.length) : Int32).toNatClampNeg) = stk.length from nI_clamp (by omega)] at hW
          replace hW : hp_W g z0 N ad F_20 s.heap H locs := by rw [eF_20]; exact hW
          have f_21 : F_20 (87) = .inr (kM, [.int tc, .ref (ad 88), .int (nI tape.length), .ref (ad 89), .ref (ad 90), .ref (ad 91), .ref (ad 92), .int (nI ((md_ad 300 la 32).1).length), .int (pf (md_ad 300 la 32).2 fp (if stk.length = 0 then (nI i) else ou)), .int (nI me0), .int (nI dp0), .int (nI stk.length), .ref (ad 93), .ref (ad 94), .int (pf (md_ad 300 la 32).2 0 8), .int ou, .int ki, .int nu, .int be, .ref (ad 95), .int (nI mm.length)]) := by rw [eF_20, va_up_ne _ _ (by omega)]; exact hR.1
          have f_22 : F_20 (88) = .inl (g.2 0, 200, .inl tp) := by rw [eF_20, va_up_ne _ _ (by omega)]; exact hR.2.1
          have f_23 : F_20 (89) = .inl (g.2 2, 26, .inl hs) := by rw [eF_20, va_up_ne _ _ (by omega)]; exact hR.2.2.1
          have f_24 : F_20 (90) = .inl (g.2 0, 26, .inl sz) := by rw [eF_20, va_up_ne _ _ (by omega)]; exact hR.2.2.2.1
          have f_25 : F_20 (91) = .inl (g.2 0, 2600, .inl tx) := by rw [eF_20, va_up_ne _ _ (by omega)]; exact hR.2.2.2.2.1
          have f_26 : F_20 (92) = .inl (g.2 0, 301, .inl vl) := by rw [eF_20, va_up_ne _ _ (by omega)]; exact hR.2.2.2.2.2.1
          have f_27 : F_20 (93) = .inl (g.2 0, 28, .inl ey) := by rw [eF_20, va_up_ne _ _ (by omega)]; exact hR.2.2.2.2.2.2.1
          have f_28 : F_20 (94) = .inl (g.2 0, 28, .inl (upd ap stk.length (nI (i + 1)))) := by rw [eF_20, va_up_self]
          have f_29 : F_20 (95) = .inl (g.2 0, 204, .inl md) := by rw [eF_20, va_up_ne _ _ (by omega)]; exact hR.2.2.2.2.2.2.2.2
          have hf_30 : mFr F_19 F_20 := fun x hx => by rw [eF_20, va_up_ne _ _ (by omega)]
          have hgo := True.intro
          have h38 := c_19i
          have hnp : ¬ isPush kn rt stk (mC tape rt stk) i me0 lim := fun hp => h38 hp.1
          have hIT : (md_it (txR kn rt) lim sub stk oN (mC tape rt stk) i (la, me0, dp0)) = (((md_ad 300 la 32).1, me0, dp0), (md_ad 300 la 32).2, md_here stk oN i) := it_by h38 (by unfold md_by; rw [if_neg c_90i, if_pos (b2_n0.mp c_106i), if_pos (Int32.not_le.mp c_122i)])
          have hnx : md_nx (mC tape rt stk) i = i + 1 := if_neg h38
          exact hp_retv S hK hW hr hlk d_M_step_147 (⟨fun hp => absurd hp hnp, fun _ => ⟨_, _, _, _, by rw [hIT, ← hhere hou, ← ad_pf]; exact ⟨tp, hs, sz, tx, vl, ey, md, ⟨f_21, f_22, f_23, f_24, f_25, f_26, f_27, f_28, f_29⟩, ⟨htl, htp⟩, hT, ⟨hll, hvl⟩, hKs, hml0, hmd⟩, fun _ => by rw [hnx, pk_us], fun j hj => pk_un (by omega)⟩, (hg1.tr hf_30)⟩)
      · have c_106i := c_106
        refine lv_aload_n hx hb d_M_step_109 rfl (lv_at hl 2 rfl) ?_
        refine lv_iconst (v := 1) hx hb d_M_step_110 (by decide) ?_
        refine lv_iload_n hx hb d_M_step_111 rfl (lv_at hl 1 rfl) ?_
        refine hp_gov hW (va_runV S (m_fails l g z0 N ad F hN tape kn rt la mm stk ap tc fp (nI me0) (nI dp0) 0 ou ki nu be hS 1 (nI i)) (cwV 2 hts (tb_V cd_M_fails tq_121 tq_122 tq_123 tq_118) rfl rfl rfl hd_M_fails (rk_ok (by omega) (by omega))) (hp_preV hK hW (by omega) rfl hR.1 rfl) rfl rfl hl.1 rfl (lv_room (Nat.le_of_ble_eq_true rfl)) d_M_step_112 ⟨Nat.zero_le _, Nat.zero_le _⟩) (fun F_32 H locs hw hW => ?_)
        obtain ⟨hS1, hg1⟩ := hw
        obtain ⟨tp, hs, sz, tx, vl, ey, md, hR, ⟨htl, htp⟩, hT, ⟨hll, hvl⟩, hKs, hml0, hmd⟩ := id hS1
        refine lv_goto (tgt := 147) hx hb d_M_step_115 (by decide) ?_
        have hgo := True.intro
        have h38 := c_19i
        have hnp : ¬ isPush kn rt stk (mC tape rt stk) i me0 lim := fun hp => h38 hp.1
        have hIT : (md_it (txR kn rt) lim sub stk oN (mC tape rt stk) i (la, me0, dp0)) = ((la, me0, dp0), 1, md_here stk oN i) := it_by h38 (by unfold md_by; rw [if_neg c_90i, if_neg (by rw [b2_0.mp c_106i]; exact fun z => by cases z)])
        exact hp_retv S hK hW hr hlk d_M_step_147 (⟨fun hp => absurd hp hnp, fun _ => ⟨ap, _, _, _, by rw [hIT, ← hhere hou]; exact hS1, fun z => absurd z (by rw [hIT]; show ¬ (1 : Nat) = 0; decide), fun _ _ => rfl⟩, hg1⟩)
    · have c_90i := c_90
      refine lv_aload_n hx hb d_M_step_93 rfl (lv_at hl 2 rfl) ?_
      refine lv_iconst (v := 4) hx hb d_M_step_94 (by decide) ?_
      refine lv_iload_n hx hb d_M_step_95 rfl (lv_at hl 1 rfl) ?_
      refine hp_gov hW (va_runV S (m_fails l g z0 N ad F hN tape kn rt la mm stk ap tc fp (nI me0) (nI dp0) 0 ou ki nu be hS 4 (nI i)) (cwV 2 hts (tb_V cd_M_fails tq_121 tq_122 tq_123 tq_118) rfl rfl rfl hd_M_fails (rk_ok (by omega) (by omega))) (hp_preV hK hW (by omega) rfl hR.1 rfl) rfl rfl hl.1 rfl (lv_room (Nat.le_of_ble_eq_true rfl)) d_M_step_96 ⟨Nat.zero_le _, Nat.zero_le _⟩) (fun F_34 H locs hw hW => ?_)
      obtain ⟨hS1, hg1⟩ := hw
      obtain ⟨tp, hs, sz, tx, vl, ey, md, hR, ⟨htl, htp⟩, hT, ⟨hll, hvl⟩, hKs, hml0, hmd⟩ := id hS1
      refine lv_goto (tgt := 147) hx hb d_M_step_99 (by decide) ?_
      have hgo := True.intro
      have h38 := c_19i
      have hnp : ¬ isPush kn rt stk (mC tape rt stk) i me0 lim := fun hp => h38 hp.1
      have hIT : (md_it (txR kn rt) lim sub stk oN (mC tape rt stk) i (la, me0, dp0)) = ((la, me0, dp0), 4, md_here stk oN i) := it_by h38 (by unfold md_by; rw [if_pos c_90i])
      exact hp_retv S hK hW hr hlk d_M_step_147 (⟨fun hp => absurd hp hnp, fun _ => ⟨ap, _, _, _, by rw [hIT, ← hhere hou]; exact hS1, fun z => absurd z (by rw [hIT]; show ¬ (4 : Nat) = 0; decide), fun _ _ => rfl⟩, hg1⟩)
  · have c_19i := c_19
    refine lv_aload_n hx hb d_M_step_22 rfl (lv_at hl 2 rfl) ?_
    refine lv_iload_n hx hb d_M_step_23 rfl (lv_at hl 1 rfl) ?_
    refine hp_gov hW (va_runV S (m_look l g z0 N ad F hN tape kn rt la mm stk ap tc fp (nI me0) (nI dp0) ou ki nu be hS i (by omega)) (cwV 1 hts (tb_V cd_M_look tq_137 tq_138 tq_139 tq_118) rfl rfl rfl hd_M_look (rk_ok (by omega) (by omega))) (hp_preV hK hW (by omega) rfl hR.1 rfl) rfl rfl hl.1 rfl (lv_room (Nat.le_of_ble_eq_true rfl)) d_M_step_24 ⟨Nat.zero_le _, Nat.zero_le _⟩) (fun F_36 H locs hw hW => ?_)
    obtain ⟨ki1, nu1, be1, hS1, hw1, hg1⟩ := hw
    have hLl : lkf stk.length (mC tape rt stk).length (md_ref (mC tape rt stk) i) ≤ 8 := lkf_le _ _ _
    obtain ⟨tp, hs, sz, tx, vl, ey, md, hR, ⟨htl, htp⟩, hT, ⟨hll, hvl⟩, hKs, hml0, hmd⟩ := id hS1
    refine lv_aload_n hx hb d_M_step_27 rfl (lv_at hl 2 rfl) ?_
    refine hp_get S hK hW (87) (by omega) rfl hR.1 rfl in_kM 14 (by decide) (hts _ (List.mem_cons_of_mem _ tq_110)) rfl d_M_step_28 ?_
    refine lv_if_ne (tgt := 55) hx hb d_M_step_31 (by decide) (fun c_31 => ?_) (fun c_31 => ?_)
    · have c_31i := c_31
      replace c_31 : ¬ (lkf stk.length (mC tape rt stk).length (md_ref (mC tape rt stk) i)) = 0 := fun zz9 => c_31 ((nI_eq (a := (lkf stk.length (mC tape rt stk).length (md_ref (mC tape rt stk) i))) (b := 0) (by omega) (by omega)).mpr zz9)
      have hL := c_31
      refine lv_aload_n hx hb d_M_step_55 rfl (lv_at hl 2 rfl) ?_
      refine hp_get S hK hW (87) (by omega) rfl hR.1 rfl in_kM 14 (by decide) (hts _ (List.mem_cons_of_mem _ tq_110)) rfl d_M_step_56 ?_
      refine lv_if_ne (tgt := 147) hx hb d_M_step_59 (by decide) (fun c_59 => ?_) (fun c_59 => absurd c_59 (show ¬ ((nI (lkf stk.length (mC tape rt stk).length (md_ref (mC tape rt stk) i))) : Int32) = 0 from c_31i))
      have hgo := True.intro
      have h38 := c_19i
      have hIT : (md_it (txR kn rt) lim sub stk oN (mC tape rt stk) i (la, me0, dp0)) = ((la, me0, dp0), lkf stk.length (mC tape rt stk).length (md_ref (mC tape rt stk) i), md_here stk oN (lkp i (md_ref (mC tape rt stk) i))) := it_bad h38 hL
      exact hp_retv S hK hW hr hlk d_M_step_147 (⟨fun hp => absurd (lkf_t hp.2.1 hp.2.2.1) hL, fun _ => ⟨ap, ki1, nu1, be1, by rw [hIT, ← hhere hou]; rw [pf_n hL] at hS1 ⊢; exact hS1, fun z => absurd z (by rw [hIT]; exact hL), fun _ _ => rfl⟩, hg1⟩)
    · have c_31i := c_31
      replace c_31 : (lkf stk.length (mC tape rt stk).length (md_ref (mC tape rt stk) i)) = 0 := (nI_eq (a := (lkf stk.length (mC tape rt stk).length (md_ref (mC tape rt stk) i))) (b := 0) (by omega) (by omega)).mp c_31
      have hL := c_31
      have hWt : (md_ref (mC tape rt stk) i).1 = true := lkf_w hL
      obtain ⟨eb, enu, ek⟩ := hw1 hWt
      subst eb enu ek
      rw [hL, pf_0 rfl] at hS1
      obtain ⟨tp, hs, sz, tx, vl, ey, md, hR, ⟨htl, htp⟩, hT, ⟨hll, hvl⟩, hKs, hml0, hmd⟩ := id hS1
      refine lv_aload_n hx hb d_M_step_34 rfl (lv_at hl 2 rfl) ?_
      refine hp_get S hK hW (87) (by omega) rfl hR.1 rfl in_kM 16 (by decide) (hts _ (List.mem_cons_of_mem _ tq_112)) rfl d_M_step_35 ?_
      refine lv_iconst (v := 1) hx hb d_M_step_38 (by decide) ?_
      refine lv_icmp_ne (tgt := 55) hx hb d_M_step_39 (by decide) (fun c_39 => ?_) (fun c_39 => ?_)
      · have c_39i := c_39
        have hTf : (md_ref (mC tape rt stk) i).2.1 = false := by cases hz : (md_ref (mC tape rt stk) i).2.1 with | false => rfl | true => exact absurd (by rw [hz]; rfl) c_39i
        refine lv_aload_n hx hb d_M_step_55 rfl (lv_at hl 2 rfl) ?_
        refine hp_get S hK hW (87) (by omega) rfl hR.1 rfl in_kM 14 (by decide) (hts _ (List.mem_cons_of_mem _ tq_110)) rfl d_M_step_56 ?_
        refine lv_if_ne (tgt := 147) hx hb d_M_step_59 (by decide) (fun c_59 => absurd c_59 (show ¬ (¬ (0 : Int32) = 0) from fun z => z rfl)) (fun c_59 => ?_)
        refine lv_aload_n hx hb d_M_step_62 rfl (lv_at hl 2 rfl) ?_
        refine lv_aload_n hx hb d_M_step_63 rfl (lv_at hl 2 rfl) ?_
        refine hp_get S hK hW (87) (by omega) rfl hR.1 rfl in_kM 17 (by decide) (hts _ (List.mem_cons_of_mem _ tq_113)) rfl d_M_step_64 ?_
        refine lv_iload_n hx hb d_M_step_67 rfl (lv_at hl 1 rfl) ?_
        refine hp_gov hW (va_runV S (m_add l g z0 N ad F_36 hN tape kn rt la mm stk ap tc fp (nI me0) (nI dp0) 0 ou (if (md_ref (mC tape rt stk) i).2.1 = true then 1 else 2) ((md_ref (mC tape rt stk) i).2.2.1) (nI (md_ref (mC tape rt stk) i).2.2.2) hS1 (md_ref (mC tape rt stk) i).2.2.1 (nI i)) (cwV 2 hts (tb_V cd_M_add tq_143 tq_144 tq_145 tq_118) rfl rfl rfl hd_M_add (rk_ok (by omega) (by omega))) (hp_preV hK hW (by omega) rfl hR.1 rfl) rfl rfl hl.1 rfl (lv_room (Nat.le_of_ble_eq_true rfl)) d_M_step_68 ⟨Nat.zero_le _, Nat.zero_le _⟩) (fun F_38 H locs hw hW => ?_)
        obtain ⟨hS2, hg2⟩ := hw
        obtain ⟨tp, hs, sz, tx, vl, ey, md, hR, ⟨htl, htp⟩, hT, ⟨hll, hvl⟩, hKs, hml0, hmd⟩ := id hS2
        refine lv_aload_n hx hb d_M_step_71 rfl (lv_at hl 2 rfl) ?_
        refine hp_get S hK hW (87) (by omega) rfl hR.1 rfl in_kM 13 (by decide) (hts _ (List.mem_cons_of_mem _ tq_109)) rfl d_M_step_72 ?_
        refine lv_aload_n hx hb d_M_step_75 rfl (lv_at hl 2 rfl) ?_
        refine hp_get S hK hW (87) (by omega) rfl hR.1 rfl in_kM 11 (by decide) (hts _ (List.mem_cons_of_mem _ tq_107)) rfl d_M_step_76 ?_
        refine lv_aload_n hx hb d_M_step_79 rfl (lv_at hl 2 rfl) ?_
        refine hp_get S hK hW (87) (by omega) rfl hR.1 rfl in_kM 18 (by decide) (hts _ (List.mem_cons_of_mem _ tq_114)) rfl d_M_step_80 ?_
        refine hp_iast S hK hW (94) (by omega) rfl hR.2.2.2.2.2.2.2.1 (x := (nI (md_ref (mC tape rt stk) i).2.2.2)) (vp_in_nI (by omega) (by omega)) d_M_step_83 (fun H locs hW => ?_)
        obtain ⟨F_39, eF_39⟩ : ∃ z, z = va_up F_38 (94) (.inl (g.2 0, 28, .inl (upd ap stk.length (nI (md_ref (mC tape rt stk) i).2.2.2)))) := ⟨_, rfl⟩
        rw [show (((nI stk.length) : Int32).toNatClampNeg) = stk.length from nI_clamp (by omega)] at hW
        replace hW : hp_W g z0 N ad F_39 s.heap H locs := by rw [eF_39]; exact hW
        have f_40 : F_39 (87) = .inr (kM, [.int tc, .ref (ad 88), .int (nI tape.length), .ref (ad 89), .ref (ad 90), .ref (ad 91), .ref (ad 92), .int (nI ((md_ad 300 la (md_ref (mC tape rt stk) i).2.2.1).1).length), .int (pf (md_ad 300 la (md_ref (mC tape rt stk) i).2.2.1).2 fp (if stk.length = 0 then (nI i) else ou)), .int (nI me0), .int (nI dp0), .int (nI stk.length), .ref (ad 93), .ref (ad 94), .int (pf (md_ad 300 la (md_ref (mC tape rt stk) i).2.2.1).2 0 8), .int ou, .int (if (md_ref (mC tape rt stk) i).2.1 = true then 1 else 2), .int ((md_ref (mC tape rt stk) i).2.2.1), .int (nI (md_ref (mC tape rt stk) i).2.2.2), .ref (ad 95), .int (nI mm.length)]) := by rw [eF_39, va_up_ne _ _ (by omega)]; exact hR.1
        have f_41 : F_39 (88) = .inl (g.2 0, 200, .inl tp) := by rw [eF_39, va_up_ne _ _ (by omega)]; exact hR.2.1
        have f_42 : F_39 (89) = .inl (g.2 2, 26, .inl hs) := by rw [eF_39, va_up_ne _ _ (by omega)]; exact hR.2.2.1
        have f_43 : F_39 (90) = .inl (g.2 0, 26, .inl sz) := by rw [eF_39, va_up_ne _ _ (by omega)]; exact hR.2.2.2.1
        have f_44 : F_39 (91) = .inl (g.2 0, 2600, .inl tx) := by rw [eF_39, va_up_ne _ _ (by omega)]; exact hR.2.2.2.2.1
        have f_45 : F_39 (92) = .inl (g.2 0, 301, .inl vl) := by rw [eF_39, va_up_ne _ _ (by omega)]; exact hR.2.2.2.2.2.1
        have f_46 : F_39 (93) = .inl (g.2 0, 28, .inl ey) := by rw [eF_39, va_up_ne _ _ (by omega)]; exact hR.2.2.2.2.2.2.1
        have f_47 : F_39 (94) = .inl (g.2 0, 28, .inl (upd ap stk.length (nI (md_ref (mC tape rt stk) i).2.2.2))) := by rw [eF_39, va_up_self]
        have f_48 : F_39 (95) = .inl (g.2 0, 204, .inl md) := by rw [eF_39, va_up_ne _ _ (by omega)]; exact hR.2.2.2.2.2.2.2.2
        have hf_49 : mFr F_38 F_39 := fun x hx => by rw [eF_39, va_up_ne _ _ (by omega)]
        refine lv_goto (tgt := 147) hx hb d_M_step_84 (by decide) ?_
        have hgo := True.intro
        have h38 := c_19i
        have hch : md_ch (md_ref (mC tape rt stk) i).2.2.1 = true := lkf_c hL hTf
        have hIT : (md_it (txR kn rt) lim sub stk oN (mC tape rt stk) i (la, me0, dp0)) = (((md_ad 300 la (md_ref (mC tape rt stk) i).2.2.1).1, me0, dp0), (md_ad 300 la (md_ref (mC tape rt stk) i).2.2.1).2, md_here stk oN i) := it_num h38 hWt hTf hch
        have hnx : md_nx (mC tape rt stk) i = (md_ref (mC tape rt stk) i).2.2.2 := if_pos h38
        exact hp_retv S hK hW hr hlk d_M_step_147 (⟨fun hp => absurd hp.2.2.1 (by rw [hTf]; exact fun z => by cases z), fun _ => ⟨_, _, _, _, by rw [hIT, ← hhere hou, ← ad_pf]; exact ⟨tp, hs, sz, tx, vl, ey, md, ⟨f_40, f_41, f_42, f_43, f_44, f_45, f_46, f_47, f_48⟩, ⟨htl, htp⟩, hT, ⟨hll, hvl⟩, hKs, hml0, hmd⟩, fun _ => by rw [hnx, pk_us], fun j hj => pk_un (by omega)⟩, ((hg1.tr hg2).tr hf_49)⟩)
      · have c_39i := c_39
        have hTt : (md_ref (mC tape rt stk) i).2.1 = true := by cases hz : (md_ref (mC tape rt stk) i).2.1 with | true => rfl | false => exact absurd c_39i (by rw [hz]; decide)
        refine lv_aload_n hx hb d_M_step_42 rfl (lv_at hl 2 rfl) ?_
        refine lv_aload_n hx hb d_M_step_43 rfl (lv_at hl 2 rfl) ?_
        refine hp_get S hK hW (87) (by omega) rfl hR.1 rfl in_kM 17 (by decide) (hts _ (List.mem_cons_of_mem _ tq_113)) rfl d_M_step_44 ?_
        refine lv_iload_n hx hb d_M_step_47 rfl (lv_at hl 1 rfl) ?_
        refine lv_iload_n hx hb d_M_step_48 rfl (lv_at hl 3 rfl) ?_
        have h9 := md_ref_ent hWt hTt
        obtain ⟨k, hk, ek⟩ := nu_k h9.1.1 h9.1.2
        have ek2 : (md_ref (mC tape rt stk) i).2.2.1 = nI k := h9.2.1.trans ek
        have ekc : (md_ref (mC tape rt stk) i).2.2.1.toNatClampNeg = k := by rw [ek2]; exact nI_clamp (by omega)
        rw [ek2] at hS1 ⊢
        obtain ⟨tp, hs, sz, tx, vl, ey, md, hR, ⟨htl, htp⟩, hT, ⟨hll, hvl⟩, hKs, hml0, hmd⟩ := id hS1
        refine hp_gov hW (va_runV S (m_open l g z0 N ad F_36 hN tape kn rt la mm stk ap tc fp ou (if (md_ref (mC tape rt stk) i).2.1 = true then 1 else 2) (nI k) (nI (md_ref (mC tape rt stk) i).2.2.2) me0 dp0 lim hme hlim hdp hS1 hnd k i hk (by omega)) (cwV 3 hts (tb_V cd_M_open tq_140 tq_141 tq_142 tq_118) rfl rfl rfl hd_M_open (rk_ok (by omega) (by omega))) (hp_preV hK hW (by omega) rfl hR.1 rfl) rfl rfl hl.1 rfl (lv_room (Nat.le_of_ble_eq_true rfl)) d_M_step_49 ⟨Nat.zero_le _, Nat.zero_le _⟩) (fun F_51 H locs hw hW => ?_)
        obtain ⟨hO2, hg2⟩ := hw
        refine lv_goto (tgt := 147) hx hb d_M_step_52 (by decide) ?_
        have hgo := True.intro
        have h38 := c_19i
        rw [← ekc] at hO2
        exact hp_retv S hK hW hr hlk d_M_step_147 (⟨fun hp => by rw [if_pos hp.2.2.2] at hO2; exact ⟨_, _, _, _, hO2, by rw [pk_us], by rw [pk_un (by omega), pk_us], fun j hj => by rw [pk_un (by omega), pk_un (by omega)]⟩, fun hp => by have hne : ¬ opf kn stk (md_ref (mC tape rt stk) i).2.2.1.toNatClampNeg (rt (md_ref (mC tape rt stk) i).2.2.1.toNatClampNeg).length me0 lim = 0 := fun z => hp ⟨h38, hWt, hTt, z⟩; rw [if_neg hne, hhere hou] at hO2; rw [it_ent h38 hWt hTt, opf_en hne]; exact ⟨_, _, _, _, by rw [pf_n hne]; exact hO2, fun z => absurd z hne, fun _ _ => rfl⟩, (hg1.tr hg2)⟩)
