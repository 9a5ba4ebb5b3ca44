set_option maxHeartbeats 400000 in
set_option maxRecDepth 100000 in
theorem lp_put {p : Program} {e : Env} {s : State} {m : MethodId} {args : Array Value} {below : List Frame} {meth : Method} {c : Code} (l : Launch) (g : hp_G) (z0 N : Nat) (ad : Nat → Nat) (Fz : Nat → va_E) (hN : 87 ≤ N) (rs : Nat → List Int32) (kn op : Nat → Bool) (fp lm me dp wh te nu en : Int32) (v : Int64) (x3 : Int32) (ys : List Int32) (S : CallFix p m c cc_D_put 5 s args ws_D_put R_D) (hr : meth.sig.returnType = (some .boolean)) (hlk : meth.locks = false) (hK : hp_K g s) : ∀ (t : Nat) (F : Nat → va_E) (zs : List Int32), zs.length + t ≤ 200 → vSt g ad F (va_up rs 1 zs) kn op fp lm me dp wh te nu en → zs ++ md_bytes v t = ys → vFr Fz F → ∀ (H : Heap) (locs : List Loc) (ls : Array Slot), hp_W g z0 N ad F s.heap H locs → lv_has ls 5 [(0, .ref (ad 0)), (1, .long v), (3, .int x3), (4, .int (nI t + (-1)))] → W p l e (rk 1) s m args below meth c H locs 0 0 (MQ below (va_Qi (fun b F' => b = 1 ∧ vSt g ad F' (va_up rs 1 ys) kn op fp lm me dp wh te nu en ∧ vFr Fz F') (hp_B g z0 N ad) (hp_A z0)) args s 0 0 (hp_A z0)) (F0 m 33 ls []) := by
  obtain ⟨hx, hb, hml, hown, hts⟩ := id S
  have in_kD : ∀ w ∈ u_ws R_D T_D 9, w ∈ ws_D_put := fun w h => List.mem_cons_of_mem _ (in0_D w h)
  intro t
  induction t with
  | zero =>
    intro F zs hz hS hcat hfr H locs ls hW hl
    have hcat : zs = ys := by rw [← hcat]; simp [md_bytes]
    subst hcat
    refine lv_iload hx hb d_D_put_33 (lv_at hl 3 rfl) ?_
    refine lv_if_lt (tgt := 64) hx hb d_D_put_35 (by decide) (fun c_35 => ?_) (fun c_35 => absurd (show ((nI 0 + (-1)) : Int32) < 0 from by decide) c_35)
    refine lv_iconst (v := 1) hx hb d_D_put_64 (by decide) ?_
    exact hp_retz S hK hW hr hlk rfl d_D_put_65 (⟨rfl, hS, hfr⟩)
  | succ t ih =>
    intro F zs hz hS hcat hfr H locs ls hW hl
    rw [pk_m1] at hl
    refine lv_iload hx hb d_D_put_33 (lv_at hl 3 rfl) ?_
    refine lv_if_lt (tgt := 64) hx hb d_D_put_35 (by decide) (fun c_35 => absurd c_35 (show ¬ (((nI t) : Int32) < 0) from nI_pos (by omega))) (fun c_35 => ?_)
    refine lv_aload_n hx hb d_D_put_38 rfl (lv_at hl 0 rfl) ?_
    refine hp_get S hK hW (0) (by omega) rfl hS.1 rfl in_kD 0 (by decide) (hts _ (List.mem_cons_of_mem _ tq_6)) rfl d_D_put_39 ?_
    refine lv_lload_n hx hb d_D_put_42 rfl (lv_at hl 1 rfl) ?_
    refine lv_bipush (v := 8) hx hb d_D_put_43 (by decide) ?_
    refine lv_iload hx hb d_D_put_45 (lv_at hl 3 rfl) ?_
    refine lv_imul hx hb d_D_put_47 ?_
    refine lv_lushr hx hb d_D_put_48 rfl ?_
    refine lv_l2i hx hb d_D_put_49 rfl ?_
    refine lv_sipush (v := 255) hx hb d_D_put_50 (by decide) ?_
    refine lv_iand hx hb d_D_put_53 ?_
    rw [show (((v.toUInt64 >>> ((8 * (nI t)).toInt64.toUInt64 &&& Int64.toUInt64 63)).toInt64).toInt32 &&& 255) = (md_byte v t) from rfl]
    refine hp_goi hW (va_runV S (s_add l g z0 N ad F hN (va_up rs 1 zs) kn op fp lm me dp wh te nu en hS 1 rowp_1 (md_byte v t)) (cwV 1 hts (tb_V cd_R_add tq_23 tq_24 tq_25 tq_3) rfl rfl rfl hd_R_add (rk_ok (by omega) (by omega))) (hp_preV hK hW (by omega) rfl (hS.row rowp_1).obj rfl) rfl rfl hl.1 rfl (lv_room (Nat.le_of_ble_eq_true rfl)) d_D_put_54 ⟨Nat.zero_le _, Nat.zero_le _⟩) (fun r_1 F_2 H locs hw hW => ?_)
    obtain ⟨hv1, hS1, hf1⟩ := hw
    rw [hv1]
    refine lv_pop hx hb d_D_put_57 rfl ?_
    refine lv_iinc (v := ((nI t) + (-1))) (lv' := [(4, .int ((nI t) + (-1))), (0, .ref (ad 0)), (1, .long v), (3, .int x3)]) hx hb d_D_put_58 hl (k := 3) rfl (rfl) (by decide) rfl (fun ls hl => ?_)
    refine lv_goto (tgt := 33) hx hb d_D_put_61 (by decide) ?_
    have hX : (md_ad (cap 1) ((va_up rs 1 zs) 1) (md_byte v t)) = (zs ++ [(md_byte v t)], 0) := by rw [va_up_self]; exact if_pos (by rw [cap_1]; omega)
    rw [hX, up_up] at hS1
    exact ih F_2 (zs ++ [(md_byte v t)]) (by rw [List.length_append, List.length_singleton]; omega) hS1 (by rw [← hcat, md_bytes_s]; simp) (hfr.tr hf1) H locs ls hW (lv_sub hl [1, 2, 3, 0] rfl)

/-! put(v, k), 0 < k < 9 -/
set_option maxHeartbeats 400000 in
set_option maxRecDepth 100000 in
theorem c_put_in (l : Launch) (g : hp_G) (z0 N : Nat) (ad : Nat → Nat) (F : Nat → va_E) (hN : 87 ≤ N) (rs : Nat → List Int32) (kn op : Nat → Bool) (fp lm me dp wh te nu en : Int32) (hS : vSt g ad F rs kn op fp lm me dp wh te nu en) (v : Int64) (k : Nat) (hk1 : 1 ≤ k) (hk8 : k ≤ 8) : hp_Mi l g z0 N ad y_D_put ws_D_put (rk 1) [.ref (ad 0), .long v, .int (nI k)] F (fun b F' => b = b2 (decide (1 ≤ k ∧ k ≤ 8 ∧ (rs 1).length + k ≤ 200)) ∧ vSt g ad F' (if 1 ≤ k ∧ k ≤ 8 ∧ (rs 1).length + k ≤ 200 then va_up rs 1 (rs 1 ++ md_bytes v k) else rs) kn op fp lm me dp wh te nu en ∧ vFr F F') := by
  have hlen := (hS.row rowp_1).len
  rw [cap_1] at hlen
  refine hp_enter (cc := cc_D_put) (maxL := 5) (ret := (some .boolean)) (by decide) rfl (Nat.le_of_ble_eq_true rfl) ?_
  intro p e s m below meth c S hr hlk hnm hK hW ls hl
  have hl : lv_has ls 5 [(0, .ref (ad 0)), (1, .long v), (3, .int (nI k))] := hl
  obtain ⟨hx, hb, hml, hown, hts⟩ := id S
  have in_kD : ∀ w ∈ u_ws R_D T_D 9, w ∈ ws_D_put := fun w h => List.mem_cons_of_mem _ (in0_D w h)
  refine lv_iload_n hx hb d_D_put_0 rfl (lv_at hl 2 rfl) ?_
  refine lv_iconst (v := 1) hx hb d_D_put_1 (by decide) ?_
  refine lv_icmp_lt (tgt := 26) hx hb d_D_put_2 (by decide) (fun c_2 => absurd c_2 (show ¬ (((nI k) : Int32) < 1) from nI_nlt (b := 1) hk1 (by omega))) (fun c_2 => ?_)
  refine lv_iload_n hx hb d_D_put_5 rfl (lv_at hl 2 rfl) ?_
  refine lv_bipush (v := 8) hx hb d_D_put_6 (by decide) ?_
  refine lv_icmp_gt (tgt := 26) hx hb d_D_put_8 (by decide) (fun c_8 => absurd c_8 (show ¬ (8 < ((nI k) : Int32)) from nI_nlt (a := 8) hk8 (by omega))) (fun c_8 => ?_)
  refine lv_aload_n hx hb d_D_put_11 rfl (lv_at hl 0 rfl) ?_
  refine hp_get S hK hW (0) (by omega) rfl hS.1 rfl in_kD 0 (by decide) (hts _ (List.mem_cons_of_mem _ tq_6)) rfl d_D_put_12 ?_
  refine hp_goi hW (va_runV S (s_size l g z0 N ad F hN rs kn op fp lm me dp wh te nu en hS 1 rowp_1) (cwV 0 hts (tb_V cd_R_size tq_20 tq_21 tq_22 tq_3) rfl rfl rfl hd_R_size (rk_ok (by omega) (by omega))) (hp_preV hK hW (by omega) rfl (hS.row rowp_1).obj rfl) rfl rfl hl.1 rfl (lv_room (Nat.le_of_ble_eq_true rfl)) d_D_put_15 ⟨Nat.zero_le _, Nat.zero_le _⟩) (fun r_1 F_2 H locs hw hW => ?_)
  obtain ⟨hvq, hFq⟩ := hw
  rw [hFq] at hW
  rw [hvq]
  refine lv_iload_n hx hb d_D_put_18 rfl (lv_at hl 2 rfl) ?_
  refine lv_iadd hx hb d_D_put_19 ?_
  rw [show ((nI (rs 1).length) + (nI k)) = (nI ((rs 1).length + k)) from nI_add _ _]
  refine lv_sipush (v := 200) hx hb d_D_put_20 (by decide) ?_
  refine lv_icmp_le (tgt := 28) hx hb d_D_put_23 (by decide) (fun c_23 => ?_) (fun c_23 => ?_)
  · have c_23i := c_23
    replace c_23 : ((rs 1).length + k) ≤ 200 := (nI_leI (a := ((rs 1).length + k)) (b := 200) (by omega) (by omega)).mp c_23
    refine lv_iload_n hx hb d_D_put_28 rfl (lv_at hl 2 rfl) ?_
    refine lv_iconst (v := 1) hx hb d_D_put_29 (by decide) ?_
    refine lv_isub hx hb d_D_put_30 ?_
    refine lv_istore (lv' := [(4, .int ((nI k) - 1)), (0, .ref (ad 0)), (1, .long v), (3, .int (nI k))]) hx hb d_D_put_31 hl (by decide) rfl (fun ls hl => ?_)
    rw [show nI k - 1 = nI k + (-1) from Int32.sub_eq_add_neg _ _] at hl
    have hok : 1 ≤ k ∧ k ≤ 8 ∧ (rs 1).length + k ≤ 200 := ⟨by omega, by omega, by omega⟩
    rw [if_pos hok, decide_eq_true hok]
    exact lp_put l g z0 N ad F hN rs kn op fp lm me dp wh te nu en v _ _ S hr hlk hK k F (rs 1) (by omega) (by rw [va_up_eta]; exact hS) rfl vFr.rf _ _ ls hW (lv_sub hl [1, 2, 3, 0] rfl)
  · have c_23i := c_23
    replace c_23 : ¬ ((rs 1).length + k) ≤ 200 := fun zz9 => c_23 ((nI_leI (a := ((rs 1).length + k)) (b := 200) (by omega) (by omega)).mpr zz9)
    refine lv_iconst (v := 0) hx hb d_D_put_26 (by decide) ?_
    exact hp_retz S hK hW hr hlk rfl d_D_put_27 (by have hno : ¬ (1 ≤ k ∧ k ≤ 8 ∧ (rs 1).length + k ≤ 200) := (by omega); rw [if_neg hno, decide_eq_false hno]; exact ⟨rfl, hS, vFr.rf⟩)

/-! put(v, n), another n -/
set_option maxHeartbeats 400000 in
set_option maxRecDepth 100000 in
theorem c_put_out (l : Launch) (g : hp_G) (z0 N : Nat) (ad : Nat → Nat) (F : Nat → va_E) (hN : 87 ≤ N) (rs : Nat → List Int32) (kn op : Nat → Bool) (fp lm me dp wh te nu en : Int32) (hS : vSt g ad F rs kn op fp lm me dp wh te nu en) (v : Int64) (n : Int32) (hn : n < 1 ∨ 8 < n) : hp_Mi l g z0 N ad y_D_put ws_D_put (rk 1) [.ref (ad 0), .long v, .int n] F (fun b F' => b = 0 ∧ F' = F) := by
  refine hp_enter (cc := cc_D_put) (maxL := 5) (ret := (some .boolean)) (by decide) rfl (Nat.le_of_ble_eq_true rfl) ?_
  intro p e s m below meth c S hr hlk hnm hK hW ls hl
  have hl : lv_has ls 5 [(0, .ref (ad 0)), (1, .long v), (3, .int n)] := hl
  obtain ⟨hx, hb, hml, hown, hts⟩ := id S
  have in_kD : ∀ w ∈ u_ws R_D T_D 9, w ∈ ws_D_put := fun w h => List.mem_cons_of_mem _ (in0_D w h)
  refine lv_iload_n hx hb d_D_put_0 rfl (lv_at hl 2 rfl) ?_
  refine lv_iconst (v := 1) hx hb d_D_put_1 (by decide) ?_
  refine lv_icmp_lt (tgt := 26) hx hb d_D_put_2 (by decide) (fun c_2 => ?_) (fun c_2 => ?_)
  · have c_2i := c_2
    have c_2j := Int32.not_le.mpr c_2
    refine lv_iconst (v := 0) hx hb d_D_put_26 (by decide) ?_
    exact hp_retz S hK hW hr hlk rfl d_D_put_27 (⟨rfl, rfl⟩)
  · have c_2i := c_2
    have c_2j := Int32.not_lt.mp c_2
    refine lv_iload_n hx hb d_D_put_5 rfl (lv_at hl 2 rfl) ?_
    refine lv_bipush (v := 8) hx hb d_D_put_6 (by decide) ?_
    refine lv_icmp_gt (tgt := 26) hx hb d_D_put_8 (by decide) (fun c_8 => ?_) (fun c_8 => ?_)
    · have c_8i := c_8
      have c_8j := Int32.not_le.mpr c_8
      refine lv_iconst (v := 0) hx hb d_D_put_26 (by decide) ?_
      exact hp_retz S hK hW hr hlk rfl d_D_put_27 (⟨rfl, rfl⟩)
    · have c_8i := c_8
      have c_8j := Int32.not_lt.mp c_8
      exact absurd hn (by rintro (h | h); exact c_2i h; exact c_8i h)
