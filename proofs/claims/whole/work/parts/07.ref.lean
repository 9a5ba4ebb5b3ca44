theorem dg_a (c : Int32) : c - 97 + 10 = c - 87 := by
  rw [Int32.sub_eq_add_neg, Int32.add_assoc, Int32.sub_eq_add_neg]
  rfl
theorem dg_A (c : Int32) : c - 65 + 10 = c - 55 := by
  rw [Int32.sub_eq_add_neg, Int32.add_assoc, Int32.sub_eq_add_neg]
  rfl
theorem dg_0 {hex : Bool} {c : Int32} (h1 : 48 ≤ c) (h2 : c ≤ 57) : md_dg hex c = c - 48 := by unfold md_dg; rw [if_pos ⟨h1, h2⟩]
theorem dgs_go {hex : Bool} {xs : List Int32} {k q : Nat} {a : Int32} (h : 0 ≤ md_dg hex (md_at xs q)) : md_dgs hex xs (k + 1) q a = md_dgs hex xs k (q + 1) (a * md_base hex + md_dg hex (md_at xs q)) := by
  show (if _ then _ else _) = _
  rw [if_pos h]
theorem dgs_end {hex : Bool} {xs : List Int32} {k q : Nat} {a : Int32} (h : ¬ 0 ≤ md_dg hex (md_at xs q)) : md_dgs hex xs k q a = (q, a) := by
  cases k with
  | zero => rfl
  | succ k =>
    show (if _ then _ else _) = _
    rw [if_neg h]

/-! digitOf(c, 16) -/
set_option maxHeartbeats 400000 in
set_option maxRecDepth 100000 in
theorem c_Ref_digitOf_16 (l : Launch) (g : hp_G) (z0 N : Nat) (ad : Nat → Nat) (F : Nat → va_E) (x : Int32) : hp_Mi l g z0 N ad y_F_digitOf ws_F_digitOf (rk 0) [.int x, .int 16] F (fun v F' => v = md_dg true x ∧ F' = F) := by
  refine hp_enter (cc := cc_F_digitOf) (maxL := 2) (ret := (some .int)) (by decide) rfl (Nat.le_of_ble_eq_true rfl) ?_
  intro p e s m below meth c S hr hlk hnm hK hW ls hl
  have hl : lv_has ls 2 [(0, .int x), (1, .int 16)] := hl
  obtain ⟨hx, hb, hml, hown, hts⟩ := id S
  refine lv_iload_n hx hb d_F_digitOf_0 rfl (lv_at hl 0 rfl) ?_
  refine lv_bipush (v := 48) hx hb d_F_digitOf_1 (by decide) ?_
  refine lv_icmp_lt (tgt := 17) hx hb d_F_digitOf_3 (by decide) (fun c_3 => ?_) (fun c_3 => ?_)
  · have c_3i := c_3
    have c_3j := Int32.not_le.mpr c_3
    refine lv_iload_n hx hb d_F_digitOf_17 rfl (lv_at hl 1 rfl) ?_
    refine lv_bipush (v := 16) hx hb d_F_digitOf_18 (by decide) ?_
    refine lv_icmp_ne (tgt := 43) hx hb d_F_digitOf_20 (by decide) (fun c_20 => absurd c_20 (show ¬ (¬ (16 : Int32) = 16) from by decide)) (fun c_20 => ?_)
    refine lv_iload_n hx hb d_F_digitOf_23 rfl (lv_at hl 0 rfl) ?_
    refine lv_bipush (v := 97) hx hb d_F_digitOf_24 (by decide) ?_
    refine lv_icmp_lt (tgt := 43) hx hb d_F_digitOf_26 (by decide) (fun c_26 => ?_) (fun c_26 => ?_)
    · have c_26i := c_26
      have c_26j := Int32.not_le.mpr c_26
      refine lv_iload_n hx hb d_F_digitOf_43 rfl (lv_at hl 1 rfl) ?_
      refine lv_bipush (v := 16) hx hb d_F_digitOf_44 (by decide) ?_
      refine lv_icmp_ne (tgt := 69) hx hb d_F_digitOf_46 (by decide) (fun c_46 => absurd c_46 (show ¬ (¬ (16 : Int32) = 16) from by decide)) (fun c_46 => ?_)
      refine lv_iload_n hx hb d_F_digitOf_49 rfl (lv_at hl 0 rfl) ?_
      refine lv_bipush (v := 65) hx hb d_F_digitOf_50 (by decide) ?_
      refine lv_icmp_lt (tgt := 69) hx hb d_F_digitOf_52 (by decide) (fun c_52 => ?_) (fun c_52 => ?_)
      · have c_52i := c_52
        have c_52j := Int32.not_le.mpr c_52
        refine lv_iconst (v := (-1)) hx hb d_F_digitOf_69 (by decide) ?_
        exact hp_reti S hK hW hr hlk d_F_digitOf_70 (⟨by unfold md_dg; simp [c_3j, c_26j, c_52j], rfl⟩)
      · have c_52i := c_52
        have c_52j := Int32.not_lt.mp c_52
        refine lv_iload_n hx hb d_F_digitOf_55 rfl (lv_at hl 0 rfl) ?_
        refine lv_bipush (v := 70) hx hb d_F_digitOf_56 (by decide) ?_
        refine lv_icmp_gt (tgt := 69) hx hb d_F_digitOf_58 (by decide) (fun c_58 => ?_) (fun c_58 => ?_)
        · have c_58i := c_58
          have c_58j := Int32.not_le.mpr c_58
          refine lv_iconst (v := (-1)) hx hb d_F_digitOf_69 (by decide) ?_
          exact hp_reti S hK hW hr hlk d_F_digitOf_70 (⟨by unfold md_dg; simp [c_3j, c_26j, c_52j, c_58j], rfl⟩)
        · have c_58i := c_58
          have c_58j := Int32.not_lt.mp c_58
          refine lv_iload_n hx hb d_F_digitOf_61 rfl (lv_at hl 0 rfl) ?_
          refine lv_bipush (v := 65) hx hb d_F_digitOf_62 (by decide) ?_
          refine lv_isub hx hb d_F_digitOf_64 ?_
          refine lv_bipush (v := 10) hx hb d_F_digitOf_65 (by decide) ?_
          refine lv_iadd hx hb d_F_digitOf_67 ?_
          exact hp_reti S hK hW hr hlk d_F_digitOf_68 (⟨by rw [dg_A]; unfold md_dg; simp [c_3j, c_26j, c_52j, c_58j], rfl⟩)
    · have c_26i := c_26
      have c_26j := Int32.not_lt.mp c_26
      refine lv_iload_n hx hb d_F_digitOf_29 rfl (lv_at hl 0 rfl) ?_
      refine lv_bipush (v := 102) hx hb d_F_digitOf_30 (by decide) ?_
      refine lv_icmp_gt (tgt := 43) hx hb d_F_digitOf_32 (by decide) (fun c_32 => ?_) (fun c_32 => ?_)
      · have c_32i := c_32
        have c_32j := Int32.not_le.mpr c_32
        refine lv_iload_n hx hb d_F_digitOf_43 rfl (lv_at hl 1 rfl) ?_
        refine lv_bipush (v := 16) hx hb d_F_digitOf_44 (by decide) ?_
        refine lv_icmp_ne (tgt := 69) hx hb d_F_digitOf_46 (by decide) (fun c_46 => absurd c_46 (show ¬ (¬ (16 : Int32) = 16) from by decide)) (fun c_46 => ?_)
        refine lv_iload_n hx hb d_F_digitOf_49 rfl (lv_at hl 0 rfl) ?_
        refine lv_bipush (v := 65) hx hb d_F_digitOf_50 (by decide) ?_
        refine lv_icmp_lt (tgt := 69) hx hb d_F_digitOf_52 (by decide) (fun c_52 => ?_) (fun c_52 => ?_)
        · have c_52i := c_52
          have c_52j := Int32.not_le.mpr c_52
          refine lv_iconst (v := (-1)) hx hb d_F_digitOf_69 (by decide) ?_
          exact hp_reti S hK hW hr hlk d_F_digitOf_70 (⟨by unfold md_dg; simp [c_3j, c_26j, c_32j, c_52j], rfl⟩)
        · have c_52i := c_52
          have c_52j := Int32.not_lt.mp c_52
          refine lv_iload_n hx hb d_F_digitOf_55 rfl (lv_at hl 0 rfl) ?_
          refine lv_bipush (v := 70) hx hb d_F_digitOf_56 (by decide) ?_
          refine lv_icmp_gt (tgt := 69) hx hb d_F_digitOf_58 (by decide) (fun c_58 => ?_) (fun c_58 => ?_)
          · have c_58i := c_58
            have c_58j := Int32.not_le.mpr c_58
            refine lv_iconst (v := (-1)) hx hb d_F_digitOf_69 (by decide) ?_
            exact hp_reti S hK hW hr hlk d_F_digitOf_70 (⟨by unfold md_dg; simp [c_3j, c_26j, c_32j, c_52j, c_58j], rfl⟩)
          · have c_58i := c_58
            have c_58j := Int32.not_lt.mp c_58
            refine lv_iload_n hx hb d_F_digitOf_61 rfl (lv_at hl 0 rfl) ?_
            refine lv_bipush (v := 65) hx hb d_F_digitOf_62 (by decide) ?_
            refine lv_isub hx hb d_F_digitOf_64 ?_
            refine lv_bipush (v := 10) hx hb d_F_digitOf_65 (by decide) ?_
            refine lv_iadd hx hb d_F_digitOf_67 ?_
            exact hp_reti S hK hW hr hlk d_F_digitOf_68 (⟨by rw [dg_A]; unfold md_dg; simp [c_3j, c_26j, c_32j, c_52j, c_58j], rfl⟩)
      · have c_32i := c_32
        have c_32j := Int32.not_lt.mp c_32
        refine lv_iload_n hx hb d_F_digitOf_35 rfl (lv_at hl 0 rfl) ?_
        refine lv_bipush (v := 97) hx hb d_F_digitOf_36 (by decide) ?_
        refine lv_isub hx hb d_F_digitOf_38 ?_
        refine lv_bipush (v := 10) hx hb d_F_digitOf_39 (by decide) ?_
        refine lv_iadd hx hb d_F_digitOf_41 ?_
        exact hp_reti S hK hW hr hlk d_F_digitOf_42 (⟨by rw [dg_a]; unfold md_dg; simp [c_3j, c_26j, c_32j], rfl⟩)
  · have c_3i := c_3
    have c_3j := Int32.not_lt.mp c_3
    refine lv_iload_n hx hb d_F_digitOf_6 rfl (lv_at hl 0 rfl) ?_
    refine lv_bipush (v := 57) hx hb d_F_digitOf_7 (by decide) ?_
    refine lv_icmp_gt (tgt := 17) hx hb d_F_digitOf_9 (by decide) (fun c_9 => ?_) (fun c_9 => ?_)
    · have c_9i := c_9
      have c_9j := Int32.not_le.mpr c_9
      refine lv_iload_n hx hb d_F_digitOf_17 rfl (lv_at hl 1 rfl) ?_
      refine lv_bipush (v := 16) hx hb d_F_digitOf_18 (by decide) ?_
      refine lv_icmp_ne (tgt := 43) hx hb d_F_digitOf_20 (by decide) (fun c_20 => absurd c_20 (show ¬ (¬ (16 : Int32) = 16) from by decide)) (fun c_20 => ?_)
      refine lv_iload_n hx hb d_F_digitOf_23 rfl (lv_at hl 0 rfl) ?_
      refine lv_bipush (v := 97) hx hb d_F_digitOf_24 (by decide) ?_
      refine lv_icmp_lt (tgt := 43) hx hb d_F_digitOf_26 (by decide) (fun c_26 => ?_) (fun c_26 => ?_)
      · have c_26i := c_26
        have c_26j := Int32.not_le.mpr c_26
        refine lv_iload_n hx hb d_F_digitOf_43 rfl (lv_at hl 1 rfl) ?_
        refine lv_bipush (v := 16) hx hb d_F_digitOf_44 (by decide) ?_
        refine lv_icmp_ne (tgt := 69) hx hb d_F_digitOf_46 (by decide) (fun c_46 => absurd c_46 (show ¬ (¬ (16 : Int32) = 16) from by decide)) (fun c_46 => ?_)
        refine lv_iload_n hx hb d_F_digitOf_49 rfl (lv_at hl 0 rfl) ?_
        refine lv_bipush (v := 65) hx hb d_F_digitOf_50 (by decide) ?_
        refine lv_icmp_lt (tgt := 69) hx hb d_F_digitOf_52 (by decide) (fun c_52 => ?_) (fun c_52 => ?_)
        · have c_52i := c_52
          have c_52j := Int32.not_le.mpr c_52
          refine lv_iconst (v := (-1)) hx hb d_F_digitOf_69 (by decide) ?_
          exact hp_reti S hK hW hr hlk d_F_digitOf_70 (⟨by unfold md_dg; simp [c_3j, c_9j, c_26j, c_52j], rfl⟩)
        · have c_52i := c_52
          have c_52j := Int32.not_lt.mp c_52
          refine lv_iload_n hx hb d_F_digitOf_55 rfl (lv_at hl 0 rfl) ?_
          refine lv_bipush (v := 70) hx hb d_F_digitOf_56 (by decide) ?_
          refine lv_icmp_gt (tgt := 69) hx hb d_F_digitOf_58 (by decide) (fun c_58 => ?_) (fun c_58 => ?_)
          · have c_58i := c_58
            have c_58j := Int32.not_le.mpr c_58
            refine lv_iconst (v := (-1)) hx hb d_F_digitOf_69 (by decide) ?_
            exact hp_reti S hK hW hr hlk d_F_digitOf_70 (⟨by unfold md_dg; simp [c_3j, c_9j, c_26j, c_52j, c_58j], rfl⟩)
          · have c_58i := c_58
            have c_58j := Int32.not_lt.mp c_58
            refine lv_iload_n hx hb d_F_digitOf_61 rfl (lv_at hl 0 rfl) ?_
            refine lv_bipush (v := 65) hx hb d_F_digitOf_62 (by decide) ?_
            refine lv_isub hx hb d_F_digitOf_64 ?_
            refine lv_bipush (v := 10) hx hb d_F_digitOf_65 (by decide) ?_
            refine lv_iadd hx hb d_F_digitOf_67 ?_
            exact hp_reti S hK hW hr hlk d_F_digitOf_68 (⟨by rw [dg_A]; unfold md_dg; simp [c_3j, c_9j, c_26j, c_52j, c_58j], rfl⟩)
      · have c_26i := c_26
        have c_26j := Int32.not_lt.mp c_26
        refine lv_iload_n hx hb d_F_digitOf_29 rfl (lv_at hl 0 rfl) ?_
        refine lv_bipush (v := 102) hx hb d_F_digitOf_30 (by decide) ?_
        refine lv_icmp_gt (tgt := 43) hx hb d_F_digitOf_32 (by decide) (fun c_32 => ?_) (fun c_32 => ?_)
        · have c_32i := c_32
          have c_32j := Int32.not_le.mpr c_32
          refine lv_iload_n hx hb d_F_digitOf_43 rfl (lv_at hl 1 rfl) ?_
          refine lv_bipush (v := 16) hx hb d_F_digitOf_44 (by decide) ?_
          refine lv_icmp_ne (tgt := 69) hx hb d_F_digitOf_46 (by decide) (fun c_46 => absurd c_46 (show ¬ (¬ (16 : Int32) = 16) from by decide)) (fun c_46 => ?_)
          refine lv_iload_n hx hb d_F_digitOf_49 rfl (lv_at hl 0 rfl) ?_
          refine lv_bipush (v := 65) hx hb d_F_digitOf_50 (by decide) ?_
          refine lv_icmp_lt (tgt := 69) hx hb d_F_digitOf_52 (by decide) (fun c_52 => ?_) (fun c_52 => ?_)
          · have c_52i := c_52
            have c_52j := Int32.not_le.mpr c_52
            refine lv_iconst (v := (-1)) hx hb d_F_digitOf_69 (by decide) ?_
            exact hp_reti S hK hW hr hlk d_F_digitOf_70 (⟨by unfold md_dg; simp [c_3j, c_9j, c_26j, c_32j, c_52j], rfl⟩)
          · have c_52i := c_52
            have c_52j := Int32.not_lt.mp c_52
            refine lv_iload_n hx hb d_F_digitOf_55 rfl (lv_at hl 0 rfl) ?_
            refine lv_bipush (v := 70) hx hb d_F_digitOf_56 (by decide) ?_
            refine lv_icmp_gt (tgt := 69) hx hb d_F_digitOf_58 (by decide) (fun c_58 => ?_) (fun c_58 => ?_)
            · have c_58i := c_58
              have c_58j := Int32.not_le.mpr c_58
              refine lv_iconst (v := (-1)) hx hb d_F_digitOf_69 (by decide) ?_
              exact hp_reti S hK hW hr hlk d_F_digitOf_70 (⟨by unfold md_dg; simp [c_3j, c_9j, c_26j, c_32j, c_52j, c_58j], rfl⟩)
            · have c_58i := c_58
              have c_58j := Int32.not_lt.mp c_58
              refine lv_iload_n hx hb d_F_digitOf_61 rfl (lv_at hl 0 rfl) ?_
              refine lv_bipush (v := 65) hx hb d_F_digitOf_62 (by decide) ?_
              refine lv_isub hx hb d_F_digitOf_64 ?_
              refine lv_bipush (v := 10) hx hb d_F_digitOf_65 (by decide) ?_
              refine lv_iadd hx hb d_F_digitOf_67 ?_
              exact hp_reti S hK hW hr hlk d_F_digitOf_68 (⟨by rw [dg_A]; unfold md_dg; simp [c_3j, c_9j, c_26j, c_32j, c_52j, c_58j], rfl⟩)
        · have c_32i := c_32
          have c_32j := Int32.not_lt.mp c_32
          refine lv_iload_n hx hb d_F_digitOf_35 rfl (lv_at hl 0 rfl) ?_
          refine lv_bipush (v := 97) hx hb d_F_digitOf_36 (by decide) ?_
          refine lv_isub hx hb d_F_digitOf_38 ?_
          refine lv_bipush (v := 10) hx hb d_F_digitOf_39 (by decide) ?_
          refine lv_iadd hx hb d_F_digitOf_41 ?_
          exact hp_reti S hK hW hr hlk d_F_digitOf_42 (⟨by rw [dg_a]; unfold md_dg; simp [c_3j, c_9j, c_26j, c_32j], rfl⟩)
    · have c_9i := c_9
      have c_9j := Int32.not_lt.mp c_9
      refine lv_iload_n hx hb d_F_digitOf_12 rfl (lv_at hl 0 rfl) ?_
      refine lv_bipush (v := 48) hx hb d_F_digitOf_13 (by decide) ?_
      refine lv_isub hx hb d_F_digitOf_15 ?_
      exact hp_reti S hK hW hr hlk d_F_digitOf_16 (⟨(dg_0 (Int32.not_lt.mp c_3i) (Int32.not_lt.mp c_9i)).symm, rfl⟩)

/-! digitOf(c, 10) -/
set_option maxHeartbeats 400000 in
set_option maxRecDepth 100000 in
theorem c_Ref_digitOf_10 (l : Launch) (g : hp_G) (z0 N : Nat) (ad : Nat → Nat) (F : Nat → va_E) (x : Int32) : hp_Mi l g z0 N ad y_F_digitOf ws_F_digitOf (rk 0) [.int x, .int 10] F (fun v F' => v = md_dg false x ∧ F' = F) := by
  refine hp_enter (cc := cc_F_digitOf) (maxL := 2) (ret := (some .int)) (by decide) rfl (Nat.le_of_ble_eq_true rfl) ?_
  intro p e s m below meth c S hr hlk hnm hK hW ls hl
  have hl : lv_has ls 2 [(0, .int x), (1, .int 10)] := hl
  obtain ⟨hx, hb, hml, hown, hts⟩ := id S
  refine lv_iload_n hx hb d_F_digitOf_0 rfl (lv_at hl 0 rfl) ?_
  refine lv_bipush (v := 48) hx hb d_F_digitOf_1 (by decide) ?_
  refine lv_icmp_lt (tgt := 17) hx hb d_F_digitOf_3 (by decide) (fun c_3 => ?_) (fun c_3 => ?_)
  · have c_3i := c_3
    have c_3j := Int32.not_le.mpr c_3
    refine lv_iload_n hx hb d_F_digitOf_17 rfl (lv_at hl 1 rfl) ?_
    refine lv_bipush (v := 16) hx hb d_F_digitOf_18 (by decide) ?_
    refine lv_icmp_ne (tgt := 43) hx hb d_F_digitOf_20 (by decide) (fun c_20 => ?_) (fun c_20 => absurd c_20 (show ¬ (10 : Int32) = 16 from by decide))
    refine lv_iload_n hx hb d_F_digitOf_43 rfl (lv_at hl 1 rfl) ?_
    refine lv_bipush (v := 16) hx hb d_F_digitOf_44 (by decide) ?_
    refine lv_icmp_ne (tgt := 69) hx hb d_F_digitOf_46 (by decide) (fun c_46 => ?_) (fun c_46 => absurd c_46 (show ¬ (10 : Int32) = 16 from by decide))
    refine lv_iconst (v := (-1)) hx hb d_F_digitOf_69 (by decide) ?_
    exact hp_reti S hK hW hr hlk d_F_digitOf_70 (⟨by unfold md_dg; simp [c_3j], rfl⟩)
  · have c_3i := c_3
    have c_3j := Int32.not_lt.mp c_3
    refine lv_iload_n hx hb d_F_digitOf_6 rfl (lv_at hl 0 rfl) ?_
    refine lv_bipush (v := 57) hx hb d_F_digitOf_7 (by decide) ?_
    refine lv_icmp_gt (tgt := 17) hx hb d_F_digitOf_9 (by decide) (fun c_9 => ?_) (fun c_9 => ?_)
    · have c_9i := c_9
      have c_9j := Int32.not_le.mpr c_9
      refine lv_iload_n hx hb d_F_digitOf_17 rfl (lv_at hl 1 rfl) ?_
      refine lv_bipush (v := 16) hx hb d_F_digitOf_18 (by decide) ?_
      refine lv_icmp_ne (tgt := 43) hx hb d_F_digitOf_20 (by decide) (fun c_20 => ?_) (fun c_20 => absurd c_20 (show ¬ (10 : Int32) = 16 from by decide))
      refine lv_iload_n hx hb d_F_digitOf_43 rfl (lv_at hl 1 rfl) ?_
      refine lv_bipush (v := 16) hx hb d_F_digitOf_44 (by decide) ?_
      refine lv_icmp_ne (tgt := 69) hx hb d_F_digitOf_46 (by decide) (fun c_46 => ?_) (fun c_46 => absurd c_46 (show ¬ (10 : Int32) = 16 from by decide))
      refine lv_iconst (v := (-1)) hx hb d_F_digitOf_69 (by decide) ?_
      exact hp_reti S hK hW hr hlk d_F_digitOf_70 (⟨by unfold md_dg; simp [c_3j, c_9j], rfl⟩)
    · have c_9i := c_9
      have c_9j := Int32.not_lt.mp c_9
      refine lv_iload_n hx hb d_F_digitOf_12 rfl (lv_at hl 0 rfl) ?_
      refine lv_bipush (v := 48) hx hb d_F_digitOf_13 (by decide) ?_
      refine lv_isub hx hb d_F_digitOf_15 ?_
      exact hp_reti S hK hW hr hlk d_F_digitOf_16 (⟨(dg_0 (Int32.not_lt.mp c_3i) (Int32.not_lt.mp c_9i)).symm, rfl⟩)

theorem c_Ref_digitOf (l : Launch) (g : hp_G) (z0 N : Nat) (ad : Nat → Nat) (F : Nat → va_E) (hex : Bool) (x : Int32) : hp_Mi l g z0 N ad y_F_digitOf ws_F_digitOf (rk 0) [.int x, .int (md_base hex)] F (fun v F' => v = md_dg hex x ∧ F' = F) := by
  cases hex
  · exact c_Ref_digitOf_10 l g z0 N ad F x
  · exact c_Ref_digitOf_16 l g z0 N ad F x

/-! Reference.close(row, q) -/
set_option maxHeartbeats 400000 in
set_option maxRecDepth 100000 in
theorem c_Ref_close (l : Launch) (g : hp_G) (z0 N : Nat) (ad : Nat → Nat) (F : Nat → va_E) (hN : 87 ≤ N) (r n : Nat) (xs : List Int32) (hrN : r + 1 < N) (hr86 : r ≠ 86 ∧ r + 1 ≠ 86) (hn : n < 1000000) (hR : vRow g ad F r n xs) (wh te nu en : Int32) (hF : F 86 = .inr (kF, [.int wh, .int te, .int nu, .int en])) (q : Nat) (hq : q < 1000) : hp_Mv l g z0 N ad y_F_close ws_F_close (rk 1) [.ref (ad 86), .ref (ad r), .int (nI q)] F (fun F' => F' 86 = .inr (kF, [.int (b2 (decide (md_at xs q = 59))), .int te, .int nu, .int (nI (if md_at xs q = 59 then q + 1 else q))]) ∧ ∀ x, x ≠ 86 → F' x = F x) := by
  refine hp_enter (cc := cc_F_close) (maxL := 3) (ret := none) (by decide) rfl (Nat.le_of_ble_eq_true rfl) ?_
  intro p e s m below meth c S hr hlk hnm hK hW ls hl
  have hl : lv_has ls 3 [(0, .ref (ad 86)), (1, .ref (ad r)), (2, .int (nI q))] := hl
  obtain ⟨hx, hb, hml, hown, hts⟩ := id S
  have in_kF : ∀ w ∈ u_ws R_F T_F 4, w ∈ ws_F_close := fun w h => List.mem_cons_of_mem _ (in0_F w h)
  have in_kR : ∀ w ∈ u_ws R_R T_R 2, w ∈ ws_F_close := fun w h => List.mem_cons_of_mem _ (in0_R w h)
  refine lv_aload_n hx hb d_F_close_0 rfl (lv_at hl 0 rfl) ?_
  refine lv_aload_n hx hb d_F_close_1 rfl (lv_at hl 1 rfl) ?_
  refine lv_iload_n hx hb d_F_close_2 rfl (lv_at hl 2 rfl) ?_
  refine hp_goi hW (va_runV S (c_Row_at l g z0 N ad F r n xs hrN hn hR q (by omega)) (cwV 1 hts (tb_V cd_R_at tq_175 tq_60 tq_61 tq_3) rfl rfl rfl hd_R_at (rk_ok (by omega) (by omega))) (hp_preV hK hW (by omega) rfl hR.obj rfl) rfl rfl hl.1 rfl (lv_room (Nat.le_of_ble_eq_true rfl)) d_F_close_3 ⟨Nat.zero_le _, Nat.zero_le _⟩) (fun r_1 F_2 H locs hw hW => ?_)
  obtain ⟨hvq, hFq⟩ := hw
  rw [hFq] at hW
  rw [hvq]
  refine lv_bipush (v := 59) hx hb d_F_close_6 (by decide) ?_
  refine lv_icmp_ne (tgt := 15) hx hb d_F_close_8 (by decide) (fun c_8 => ?_) (fun c_8 => ?_)
  · have c_8i := c_8
    refine lv_iconst (v := 0) hx hb d_F_close_15 (by decide) ?_
    refine hp_put S hK hW (86) (by omega) rfl hF rfl in_kF tyok_F nm_F 0 (by decide) (hts _ (List.mem_cons_of_mem _ tq_189)) rfl rfl rfl (Nat.le_of_ble_eq_true rfl) d_F_close_16 (fun H locs hW => ?_)
    obtain ⟨F_3, eF_3⟩ : ∃ z, z = va_up F (86) (.inr (kF, [.int 0, .int te, .int nu, .int en])) := ⟨_, rfl⟩
    replace hW : hp_W g z0 N ad F_3 s.heap H locs := by rw [eF_3]; exact hW
    have f_4 : F_3 (86) = .inr (kF, [.int 0, .int te, .int nu, .int en]) := by rw [eF_3, va_up_self]
    have f_5 : F_3 (r) = .inr (kR, [.ref (ad (r + 1)), .int (nI xs.length)]) := by rw [eF_3, va_up_ne _ _ (by omega)]; exact hR.obj
    refine lv_aload_n hx hb d_F_close_19 rfl (lv_at hl 0 rfl) ?_
    refine lv_aload_n hx hb d_F_close_20 rfl (lv_at hl 0 rfl) ?_
    refine hp_get S hK hW (86) (by omega) rfl f_4 rfl in_kF 0 (by decide) (hts _ (List.mem_cons_of_mem _ tq_189)) rfl d_F_close_21 ?_
    refine lv_if_eq (tgt := 33) hx hb d_F_close_24 (by decide) (fun c_24 => ?_) (fun c_24 => absurd (show (0 : Int32) = 0 from by decide) c_24)
    refine lv_iload_n hx hb d_F_close_33 rfl (lv_at hl 2 rfl) ?_
    refine hp_put S hK hW (86) (by omega) rfl f_4 rfl in_kF tyok_F nm_F 3 (by decide) (hts _ (List.mem_cons_of_mem _ tq_190)) rfl rfl rfl (Nat.le_of_ble_eq_true rfl) d_F_close_34 (fun H locs hW => ?_)
    obtain ⟨F_6, eF_6⟩ : ∃ z, z = va_up F_3 (86) (.inr (kF, [.int 0, .int te, .int nu, .int (nI q)])) := ⟨_, rfl⟩
    replace hW : hp_W g z0 N ad F_6 s.heap H locs := by rw [eF_6]; exact hW
    have f_7 : F_6 (86) = .inr (kF, [.int 0, .int te, .int nu, .int (nI q)]) := by rw [eF_6, va_up_self]
    have f_8 : F_6 (r) = .inr (kR, [.ref (ad (r + 1)), .int (nI xs.length)]) := by rw [eF_6, va_up_ne _ _ (by omega)]; exact f_5
    exact hp_retv S hK hW hr hlk d_F_close_37 (⟨by rw [f_7, decide_eq_false c_8i, if_neg c_8i]; rfl, fun x hx => by rw [eF_6, va_up_ne _ _ hx, eF_3, va_up_ne _ _ hx]⟩)
  · have c_8i := c_8
    refine lv_iconst (v := 1) hx hb d_F_close_11 (by decide) ?_
    refine lv_goto (tgt := 16) hx hb d_F_close_12 (by decide) ?_
    refine hp_put S hK hW (86) (by omega) rfl hF rfl in_kF tyok_F nm_F 0 (by decide) (hts _ (List.mem_cons_of_mem _ tq_189)) rfl rfl rfl (Nat.le_of_ble_eq_true rfl) d_F_close_16 (fun H locs hW => ?_)
    obtain ⟨F_9, eF_9⟩ : ∃ z, z = va_up F (86) (.inr (kF, [.int 1, .int te, .int nu, .int en])) := ⟨_, rfl⟩
    replace hW : hp_W g z0 N ad F_9 s.heap H locs := by rw [eF_9]; exact hW
    have f_10 : F_9 (86) = .inr (kF, [.int 1, .int te, .int nu, .int en]) := by rw [eF_9, va_up_self]
    have f_11 : F_9 (r) = .inr (kR, [.ref (ad (r + 1)), .int (nI xs.length)]) := by rw [eF_9, va_up_ne _ _ (by omega)]; exact hR.obj
    refine lv_aload_n hx hb d_F_close_19 rfl (lv_at hl 0 rfl) ?_
    refine lv_aload_n hx hb d_F_close_20 rfl (lv_at hl 0 rfl) ?_
    refine hp_get S hK hW (86) (by omega) rfl f_10 rfl in_kF 0 (by decide) (hts _ (List.mem_cons_of_mem _ tq_189)) rfl d_F_close_21 ?_
    refine lv_if_eq (tgt := 33) hx hb d_F_close_24 (by decide) (fun c_24 => absurd c_24 (show ¬ ((1 : Int32) = 0) from by decide)) (fun c_24 => ?_)
    refine lv_iload_n hx hb d_F_close_27 rfl (lv_at hl 2 rfl) ?_
    refine lv_iconst (v := 1) hx hb d_F_close_28 (by decide) ?_
    refine lv_iadd hx hb d_F_close_29 ?_
    refine lv_goto (tgt := 34) hx hb d_F_close_30 (by decide) ?_
    refine hp_put S hK hW (86) (by omega) rfl f_10 rfl in_kF tyok_F nm_F 3 (by decide) (hts _ (List.mem_cons_of_mem _ tq_190)) rfl rfl rfl (Nat.le_of_ble_eq_true rfl) d_F_close_34 (fun H locs hW => ?_)
    obtain ⟨F_12, eF_12⟩ : ∃ z, z = va_up F_9 (86) (.inr (kF, [.int 1, .int te, .int nu, .int ((nI q) + 1)])) := ⟨_, rfl⟩
    replace hW : hp_W g z0 N ad F_12 s.heap H locs := by rw [eF_12]; exact hW
    have f_13 : F_12 (86) = .inr (kF, [.int 1, .int te, .int nu, .int ((nI q) + 1)]) := by rw [eF_12, va_up_self]
    have f_14 : F_12 (r) = .inr (kR, [.ref (ad (r + 1)), .int (nI xs.length)]) := by rw [eF_12, va_up_ne _ _ (by omega)]; exact f_11
    exact hp_retv S hK hW hr hlk d_F_close_37 (⟨by rw [f_13, decide_eq_true c_8i, if_pos c_8i, nI_succ]; rfl, fun x hx => by rw [eF_12, va_up_ne _ _ hx, eF_9, va_up_ne _ _ hx]⟩)

/-! Reference.breakOff(q) -/
set_option maxHeartbeats 400000 in
set_option maxRecDepth 100000 in
theorem c_Ref_breakOff (l : Launch) (g : hp_G) (z0 N : Nat) (ad : Nat → Nat) (F : Nat → va_E) (hN : 87 ≤ N) (wh te nu en : Int32) (hF : F 86 = .inr (kF, [.int wh, .int te, .int nu, .int en])) (q : Int32) : hp_Mv l g z0 N ad y_F_breakOff ws_F_breakOff (rk 0) [.ref (ad 86), .int q] F (fun F' => F' 86 = .inr (kF, [.int 0, .int te, .int nu, .int q]) ∧ ∀ x, x ≠ 86 → F' x = F x) := by
  refine hp_enter (cc := cc_F_breakOff) (maxL := 2) (ret := none) (by decide) rfl (Nat.le_of_ble_eq_true rfl) ?_
  intro p e s m below meth c S hr hlk hnm hK hW ls hl
  have hl : lv_has ls 2 [(0, .ref (ad 86)), (1, .int q)] := hl
  obtain ⟨hx, hb, hml, hown, hts⟩ := id S
  have in_kF : ∀ w ∈ u_ws R_F T_F 4, w ∈ ws_F_breakOff := fun w h => List.mem_cons_of_mem _ (in0_F w h)
  refine lv_aload_n hx hb d_F_breakOff_0 rfl (lv_at hl 0 rfl) ?_
  refine lv_iconst (v := 0) hx hb d_F_breakOff_1 (by decide) ?_
  refine hp_put S hK hW (86) (by omega) rfl hF rfl in_kF tyok_F nm_F 0 (by decide) (hts _ (List.mem_cons_of_mem _ tq_189)) rfl rfl rfl (Nat.le_of_ble_eq_true rfl) d_F_breakOff_2 (fun H locs hW => ?_)
  obtain ⟨F_1, eF_1⟩ : ∃ z, z = va_up F (86) (.inr (kF, [.int 0, .int te, .int nu, .int en])) := ⟨_, rfl⟩
  replace hW : hp_W g z0 N ad F_1 s.heap H locs := by rw [eF_1]; exact hW
  have f_2 : F_1 (86) = .inr (kF, [.int 0, .int te, .int nu, .int en]) := by rw [eF_1, va_up_self]
  refine lv_aload_n hx hb d_F_breakOff_5 rfl (lv_at hl 0 rfl) ?_
  refine lv_iload_n hx hb d_F_breakOff_6 rfl (lv_at hl 1 rfl) ?_
  refine hp_put S hK hW (86) (by omega) rfl f_2 rfl in_kF tyok_F nm_F 3 (by decide) (hts _ (List.mem_cons_of_mem _ tq_190)) rfl rfl rfl (Nat.le_of_ble_eq_true rfl) d_F_breakOff_7 (fun H locs hW => ?_)
  obtain ⟨F_3, eF_3⟩ : ∃ z, z = va_up F_1 (86) (.inr (kF, [.int 0, .int te, .int nu, .int q])) := ⟨_, rfl⟩
  replace hW : hp_W g z0 N ad F_3 s.heap H locs := by rw [eF_3]; exact hW
  have f_4 : F_3 (86) = .inr (kF, [.int 0, .int te, .int nu, .int q]) := by rw [eF_3, va_up_self]
  exact hp_retv S hK hW hr hlk d_F_breakOff_10 (⟨f_4, fun x hx => by rw [eF_3, va_up_ne _ _ hx, eF_1, va_up_ne _ _ hx]⟩)

theorem clX1 (xs : List Int32) (nu : Int32) (q : Nat) {en : Bool} : (md_cl xs en nu q).1 = decide (md_at xs q = 59) := by unfold md_cl; split <;> rename_i h <;> simp [h]
theorem clX2 (xs : List Int32) (nu : Int32) (q : Nat) {en : Bool} : (md_cl xs en nu q).2.2.2 = if md_at xs q = 59 then q + 1 else q := by unfold md_cl; split <;> rfl
theorem clX3 (xs : List Int32) (nu : Int32) (q : Nat) {en : Bool} : (md_cl xs en nu q).2.2.1 = nu := by unfold md_cl; split <;> rfl
theorem clX4 (xs : List Int32) (nu : Int32) (q : Nat) {en : Bool} : (md_cl xs en nu q).2.1 = en := by unfold md_cl; split <;> rfl

/-! readNumber: its loop -/
set_option maxHeartbeats 400000 in
set_option maxRecDepth 100000 in
theorem lp_Ref_readNumber {p : Program} {e : Env} {s : State} {m : MethodId} {args : Array Value} {below : List Frame} {meth : Method} {c : Code} (l : Launch) (g : hp_G) (z0 N : Nat) (ad : Nat → Nat)  (hN : 87 ≤ N) (Fz : Nat → va_E) (r n : Nat) (xs : List Int32) (hrN : r + 1 < N) (hr86 : r ≠ 86 ∧ r + 1 ≠ 86) (hn : n < 1000000) (wh te en : Int32) (hex : Bool) (fr : Nat) (hfr0 : fr < 500) (x2 x3 : Int32) (S : CallFix p m c cc_F_readNumber 7 s args ws_F_readNumber R_F) (hr : meth.sig.returnType = none) (hlk : meth.locks = false) (hK : hp_K g s) : ∀ (j : Nat) (d : Nat) (num : Int32) (F : Nat → va_E), d ≤ 6 → 7 ≤ d + j → F 86 = .inr (kF, [.int wh, .int te, .int num, .int en]) → vRow g ad F r n xs → (md_dgs hex xs 6 fr 0) = md_dgs hex xs (6 - d) (fr + d) num → (∀ x, x ≠ 86 → F x = Fz x) → ∀ (H : Heap) (locs : List Loc) (ls : Array Slot), hp_W g z0 N ad F s.heap H locs → lv_has ls 7 [(0, .ref (ad 86)), (1, .ref (ad r)), (2, .int x2), (3, .int x3), (4, .int (md_base hex)), (5, .int (nI fr)), (6, .int (nI d))] → W p l e (rk 2) s m args below meth c H locs 0 0 (MQ below (va_Qv (fun F' => (∃ nu' : Int32, F' 86 = .inr (kF, [.int (b2 (md_num hex xs fr).1), .int te, .int nu', .int (nI (md_num hex xs fr).2.2.2)]) ∧ ((md_num hex xs fr).1 = true → nu' = (md_num hex xs fr).2.2.1)) ∧ ∀ x, x ≠ 86 → F' x = Fz x) (hp_B g z0 N ad) (hp_A z0)) args s 0 0 (hp_A z0)) (F0 m 50 ls []) := by
  obtain ⟨hx, hb, hml, hown, hts⟩ := id S
  have in_kF : ∀ w ∈ u_ws R_F T_F 4, w ∈ ws_F_readNumber := fun w h => List.mem_cons_of_mem _ (in0_F w h)
  have in_kR : ∀ w ∈ u_ws R_R T_R 2, w ∈ ws_F_readNumber := fun w h => List.mem_cons_of_mem _ (in0_R w h)
  intro j
  induction j with
  | zero =>
    intro d num F hd hj hF hR hD hfr H locs ls hW hl
    exact absurd hj (by omega)
  | succ j ih =>
    intro d num F hd hj hF hR hD hfr H locs ls hW hl
    refine lv_iload hx hb d_F_readNumber_50 (lv_at hl 6 rfl) ?_
    refine lv_bipush (v := 6) hx hb d_F_readNumber_52 (by decide) ?_
    refine lv_icmp_ge (tgt := 106) hx hb d_F_readNumber_54 (by decide) (fun c_54 => ?_) (fun c_54 => ?_)
    · have c_54i := c_54
      replace c_54 : 6 ≤ d := (nI_leI (a := 6) (b := d) (by omega) (by omega)).mp c_54
      have hend : (md_dgs hex xs 6 fr 0) = (fr + d, num) := by rw [hD, show 6 - d = 0 by omega]; rfl
      refine lv_iload hx hb d_F_readNumber_106 (lv_at hl 6 rfl) ?_
      refine lv_if_ne (tgt := 120) hx hb d_F_readNumber_108 (by decide) (fun c_108 => ?_) (fun c_108 => ?_)
      · have c_108i := c_108
        replace c_108 : ¬ d = 0 := fun zz9 => c_108 ((nI_eq (a := d) (b := 0) (by omega) (by omega)).mpr zz9)
        refine lv_aload_n hx hb d_F_readNumber_120 rfl (lv_at hl 0 rfl) ?_
        refine lv_aload_n hx hb d_F_readNumber_121 rfl (lv_at hl 1 rfl) ?_
        refine lv_iload hx hb d_F_readNumber_122 (lv_at hl 5 rfl) ?_
        refine lv_iload hx hb d_F_readNumber_124 (lv_at hl 6 rfl) ?_
        refine lv_iadd hx hb d_F_readNumber_126 ?_
        rw [show ((nI fr) + (nI d)) = (nI (fr + d)) from nI_add fr d]
        refine hp_gov hW (va_runV S (c_Ref_close l g z0 N ad F hN r n xs hrN hr86 hn hR wh te num en hF (fr + d) (by omega)) (cwV 2 hts (tb_V cd_F_close tq_181 tq_182 tq_183 tq_16) rfl rfl rfl hd_F_close (rk_ok (by omega) (by omega))) (hp_preV hK hW (by omega) rfl hF rfl) rfl rfl hl.1 rfl (lv_room (Nat.le_of_ble_eq_true rfl)) d_F_readNumber_127 ⟨Nat.zero_le _, Nat.zero_le _⟩) (fun F_2 H locs hw hW => ?_)
        obtain ⟨hc1, hc2⟩ := hw
        have hX : md_num hex xs fr = md_cl xs false num (fr + d) := by unfold md_num; rw [hend]; exact if_neg (by show ¬ fr + d = fr; omega)
        rw [← clX1 xs num (fr + d), ← clX2 xs num (fr + d)] at hc1
        exact hp_retv S hK hW hr hlk d_F_readNumber_130 (⟨⟨num, by rw [hX]; exact hc1, fun _ => by rw [hX, clX3]⟩, fun x hx => (hc2 x hx).trans (hfr x hx)⟩)
      · have c_108i := c_108
        replace c_108 : d = 0 := (nI_eq (a := d) (b := 0) (by omega) (by omega)).mp c_108
        refine lv_aload_n hx hb d_F_readNumber_111 rfl (lv_at hl 0 rfl) ?_
        refine lv_iload hx hb d_F_readNumber_112 (lv_at hl 5 rfl) ?_
        refine hp_gov hW (va_runV S (c_Ref_breakOff l g z0 N ad F hN wh te num en hF (nI fr)) (cwV 1 hts (tb_V cd_F_breakOff tq_184 tq_185 tq_186 tq_16) rfl rfl rfl hd_F_breakOff (rk_ok (by omega) (by omega))) (hp_preV hK hW (by omega) rfl hF rfl) rfl rfl hl.1 rfl (lv_room (Nat.le_of_ble_eq_true rfl)) d_F_readNumber_114 ⟨Nat.zero_le _, Nat.zero_le _⟩) (fun F_4 H locs hw hW => ?_)
        obtain ⟨hc1, hc2⟩ := hw
        refine lv_goto (tgt := 130) hx hb d_F_readNumber_117 (by decide) ?_
        have hX : md_num hex xs fr = (false, false, 0, fr) := by unfold md_num; rw [hend]; exact if_pos (by show fr + d = fr; omega)
        exact hp_retv S hK hW hr hlk d_F_readNumber_130 (⟨⟨num, by rw [hX]; exact hc1, by rw [hX]; exact fun h => by cases h⟩, fun x hx => (hc2 x hx).trans (hfr x hx)⟩)
    · have c_54i := c_54
      replace c_54 : ¬ 6 ≤ d := fun zz9 => c_54 ((nI_leI (a := 6) (b := d) (by omega) (by omega)).mpr zz9)
      refine lv_aload_n hx hb d_F_readNumber_57 rfl (lv_at hl 1 rfl) ?_
      refine lv_iload hx hb d_F_readNumber_58 (lv_at hl 5 rfl) ?_
      refine lv_iload hx hb d_F_readNumber_60 (lv_at hl 6 rfl) ?_
      refine lv_iadd hx hb d_F_readNumber_62 ?_
      rw [show ((nI fr) + (nI d)) = (nI (fr + d)) from nI_add fr d]
      refine hp_goi hW (va_runV S (c_Row_at l g z0 N ad F r n xs hrN hn hR (fr + d) (by omega)) (cwV 1 hts (tb_V cd_R_at tq_175 tq_60 tq_61 tq_3) rfl rfl rfl hd_R_at (rk_ok (by omega) (by omega))) (hp_preV hK hW (by omega) rfl hR.obj rfl) rfl rfl hl.1 rfl (lv_room (Nat.le_of_ble_eq_true rfl)) d_F_readNumber_63 ⟨Nat.zero_le _, Nat.zero_le _⟩) (fun r_5 F_6 H locs hw hW => ?_)
      obtain ⟨hvq, hFq⟩ := hw
      rw [hFq] at hW
      rw [hvq]
      refine lv_iload hx hb d_F_readNumber_66 (lv_at hl 4 rfl) ?_
      refine hp_goi hW (va_runS S (c_Ref_digitOf l g z0 N ad F hex (md_at xs (fr + d))) (va_cwS 2 hts (tb_S cd_F_digitOf tq_187 tq_188 tq_16) rfl rfl rfl hd_F_digitOf.2 (rk_ok (by omega) (by omega))) (hp_preS hK hW) rfl rfl hl.1 rfl (lv_room (Nat.le_of_ble_eq_true rfl)) d_F_readNumber_68 ⟨Nat.zero_le _, Nat.zero_le _⟩) (fun r_7 F_8 H locs hw hW => ?_)
      obtain ⟨hvq, hFq⟩ := hw
      rw [hFq] at hW
      rw [hvq]
      refine lv_if_lt (tgt := 106) hx hb d_F_readNumber_71 (by decide) (fun c_71 => ?_) (fun c_71 => ?_)
      · have c_71i := c_71
        have c_71j := Int32.not_le.mpr c_71
        have hend : (md_dgs hex xs 6 fr 0) = (fr + d, num) := by rw [hD]; exact dgs_end (Int32.not_le.mpr c_71)
        refine lv_iload hx hb d_F_readNumber_106 (lv_at hl 6 rfl) ?_
        refine lv_if_ne (tgt := 120) hx hb d_F_readNumber_108 (by decide) (fun c_108 => ?_) (fun c_108 => ?_)
        · have c_108i := c_108
          replace c_108 : ¬ d = 0 := fun zz9 => c_108 ((nI_eq (a := d) (b := 0) (by omega) (by omega)).mpr zz9)
          refine lv_aload_n hx hb d_F_readNumber_120 rfl (lv_at hl 0 rfl) ?_
          refine lv_aload_n hx hb d_F_readNumber_121 rfl (lv_at hl 1 rfl) ?_
          refine lv_iload hx hb d_F_readNumber_122 (lv_at hl 5 rfl) ?_
          refine lv_iload hx hb d_F_readNumber_124 (lv_at hl 6 rfl) ?_
          refine lv_iadd hx hb d_F_readNumber_126 ?_
          rw [show ((nI fr) + (nI d)) = (nI (fr + d)) from nI_add fr d]
          refine hp_gov hW (va_runV S (c_Ref_close l g z0 N ad F hN r n xs hrN hr86 hn hR wh te num en hF (fr + d) (by omega)) (cwV 2 hts (tb_V cd_F_close tq_181 tq_182 tq_183 tq_16) rfl rfl rfl hd_F_close (rk_ok (by omega) (by omega))) (hp_preV hK hW (by omega) rfl hF rfl) rfl rfl hl.1 rfl (lv_room (Nat.le_of_ble_eq_true rfl)) d_F_readNumber_127 ⟨Nat.zero_le _, Nat.zero_le _⟩) (fun F_10 H locs hw hW => ?_)
          obtain ⟨hc1, hc2⟩ := hw
          have hX : md_num hex xs fr = md_cl xs false num (fr + d) := by unfold md_num; rw [hend]; exact if_neg (by show ¬ fr + d = fr; omega)
          rw [← clX1 xs num (fr + d), ← clX2 xs num (fr + d)] at hc1
          exact hp_retv S hK hW hr hlk d_F_readNumber_130 (⟨⟨num, by rw [hX]; exact hc1, fun _ => by rw [hX, clX3]⟩, fun x hx => (hc2 x hx).trans (hfr x hx)⟩)
        · have c_108i := c_108
          replace c_108 : d = 0 := (nI_eq (a := d) (b := 0) (by omega) (by omega)).mp c_108
          refine lv_aload_n hx hb d_F_readNumber_111 rfl (lv_at hl 0 rfl) ?_
          refine lv_iload hx hb d_F_readNumber_112 (lv_at hl 5 rfl) ?_
          refine hp_gov hW (va_runV S (c_Ref_breakOff l g z0 N ad F hN wh te num en hF (nI fr)) (cwV 1 hts (tb_V cd_F_breakOff tq_184 tq_185 tq_186 tq_16) rfl rfl rfl hd_F_breakOff (rk_ok (by omega) (by omega))) (hp_preV hK hW (by omega) rfl hF rfl) rfl rfl hl.1 rfl (lv_room (Nat.le_of_ble_eq_true rfl)) d_F_readNumber_114 ⟨Nat.zero_le _, Nat.zero_le _⟩) (fun F_12 H locs hw hW => ?_)
          obtain ⟨hc1, hc2⟩ := hw
          refine lv_goto (tgt := 130) hx hb d_F_readNumber_117 (by decide) ?_
          have hX : md_num hex xs fr = (false, false, 0, fr) := by unfold md_num; rw [hend]; exact if_pos (by show fr + d = fr; omega)
          exact hp_retv S hK hW hr hlk d_F_readNumber_130 (⟨⟨num, by rw [hX]; exact hc1, by rw [hX]; exact fun h => by cases h⟩, fun x hx => (hc2 x hx).trans (hfr x hx)⟩)
      · have c_71i := c_71
        have c_71j := Int32.not_lt.mp c_71
        have c_71i := Int32.not_lt.mp c_71
        refine lv_aload_n hx hb d_F_readNumber_74 rfl (lv_at hl 0 rfl) ?_
        refine lv_aload_n hx hb d_F_readNumber_75 rfl (lv_at hl 0 rfl) ?_
        refine hp_get S hK hW (86) (by omega) rfl hF rfl in_kF 2 (by decide) (hts _ (List.mem_cons_of_mem _ tq_180)) rfl d_F_readNumber_76 ?_
        refine lv_iload hx hb d_F_readNumber_79 (lv_at hl 4 rfl) ?_
        refine lv_imul hx hb d_F_readNumber_81 ?_
        refine lv_aload_n hx hb d_F_readNumber_82 rfl (lv_at hl 1 rfl) ?_
        refine lv_iload hx hb d_F_readNumber_83 (lv_at hl 5 rfl) ?_
        refine lv_iload hx hb d_F_readNumber_85 (lv_at hl 6 rfl) ?_
        refine lv_iadd hx hb d_F_readNumber_87 ?_
        rw [show ((nI fr) + (nI d)) = (nI (fr + d)) from nI_add fr d]
        refine hp_goi hW (va_runV S (c_Row_at l g z0 N ad F r n xs hrN hn hR (fr + d) (by omega)) (cwV 1 hts (tb_V cd_R_at tq_175 tq_60 tq_61 tq_3) rfl rfl rfl hd_R_at (rk_ok (by omega) (by omega))) (hp_preV hK hW (by omega) rfl hR.obj rfl) rfl rfl hl.1 rfl (lv_room (Nat.le_of_ble_eq_true rfl)) d_F_readNumber_88 ⟨Nat.zero_le _, Nat.zero_le _⟩) (fun r_13 F_14 H locs hw hW => ?_)
        obtain ⟨hvq, hFq⟩ := hw
        rw [hFq] at hW
        rw [hvq]
        refine lv_iload hx hb d_F_readNumber_91 (lv_at hl 4 rfl) ?_
        refine hp_goi hW (va_runS S (c_Ref_digitOf l g z0 N ad F hex (md_at xs (fr + d))) (va_cwS 2 hts (tb_S cd_F_digitOf tq_187 tq_188 tq_16) rfl rfl rfl hd_F_digitOf.2 (rk_ok (by omega) (by omega))) (hp_preS hK hW) rfl rfl hl.1 rfl (lv_room (Nat.le_of_ble_eq_true rfl)) d_F_readNumber_93 ⟨Nat.zero_le _, Nat.zero_le _⟩) (fun r_15 F_16 H locs hw hW => ?_)
        obtain ⟨hvq, hFq⟩ := hw
        rw [hFq] at hW
        rw [hvq]
        refine lv_iadd hx hb d_F_readNumber_96 ?_
        refine hp_put S hK hW (86) (by omega) rfl hF rfl in_kF tyok_F nm_F 2 (by decide) (hts _ (List.mem_cons_of_mem _ tq_180)) rfl rfl rfl (Nat.le_of_ble_eq_true rfl) d_F_readNumber_97 (fun H locs hW => ?_)
        obtain ⟨F_17, eF_17⟩ : ∃ z, z = va_up F (86) (.inr (kF, [.int wh, .int te, .int ((num * (md_base hex)) + (md_dg hex (md_at xs (fr + d)))), .int en])) := ⟨_, rfl⟩
        replace hW : hp_W g z0 N ad F_17 s.heap H locs := by rw [eF_17]; exact hW
        have f_18 : F_17 (86) = .inr (kF, [.int wh, .int te, .int ((num * (md_base hex)) + (md_dg hex (md_at xs (fr + d)))), .int en]) := by rw [eF_17, va_up_self]
        have f_19 : F_17 (r) = .inr (kR, [.ref (ad (r + 1)), .int (nI xs.length)]) := by rw [eF_17, va_up_ne _ _ (by omega)]; exact hR.obj
        have hR_20 : vRow g ad F_17 r n xs := hR.keep (by rw [eF_17, va_up_ne _ _ hr86.1]) (by rw [eF_17, va_up_ne _ _ hr86.2])
        refine lv_iinc (v := (nI (d + 1))) (lv' := [(6, .int (nI (d + 1))), (0, .ref (ad 86)), (1, .ref (ad r)), (2, .int x2), (3, .int x3), (4, .int (md_base hex)), (5, .int (nI fr))]) hx hb d_F_readNumber_100 hl (k := 6) rfl ((nI_succ (d)).symm) (by decide) rfl (fun ls hl => ?_)
        refine lv_goto (tgt := 50) hx hb d_F_readNumber_103 (by decide) ?_
        exact ih (d + 1) _ F_17 (by omega) (by omega) f_18 hR_20 (by rw [hD, show 6 - d = (6 - (d + 1)) + 1 by omega, dgs_go c_71i]; rfl) (fun x hx => by rw [eF_17, va_up_ne _ _ hx]; exact hfr x hx) H locs ls hW (lv_sub hl [1, 2, 3, 4, 5, 6, 0] rfl)

/-! readNumber(row, q + 2) -/
set_option maxHeartbeats 400000 in
set_option maxRecDepth 100000 in
theorem c_Ref_readNumber (l : Launch) (g : hp_G) (z0 N : Nat) (ad : Nat → Nat) (F : Nat → va_E) (hN : 87 ≤ N) (r n : Nat) (xs : List Int32) (hrN : r + 1 < N) (hr86 : r ≠ 86 ∧ r + 1 ≠ 86) (hn : n < 1000000) (hR : vRow g ad F r n xs) (wh te nu en : Int32) (hF : F 86 = .inr (kF, [.int wh, .int te, .int nu, .int en])) (q : Nat) (hq : q < 400) : hp_Mv l g z0 N ad y_F_readNumber ws_F_readNumber (rk 2) [.ref (ad 86), .ref (ad r), .int (nI (q + 2))] F (fun F' => (∃ nu' : Int32, F' 86 = .inr (kF, [.int (b2 (md_num (md_hex xs q) xs (md_from xs q)).1), .int te, .int nu', .int (nI (md_num (md_hex xs q) xs (md_from xs q)).2.2.2)]) ∧ ((md_num (md_hex xs q) xs (md_from xs q)).1 = true → nu' = (md_num (md_hex xs q) xs (md_from xs q)).2.2.1)) ∧ ∀ x, x ≠ 86 → F' x = F x) := by
  refine hp_enter (cc := cc_F_readNumber) (maxL := 7) (ret := none) (by decide) rfl (Nat.le_of_ble_eq_true rfl) ?_
  intro p e s m below meth c S hr hlk hnm hK hW ls hl
  have hl : lv_has ls 7 [(0, .ref (ad 86)), (1, .ref (ad r)), (2, .int (nI (q + 2)))] := hl
  obtain ⟨hx, hb, hml, hown, hts⟩ := id S
  have in_kF : ∀ w ∈ u_ws R_F T_F 4, w ∈ ws_F_readNumber := fun w h => List.mem_cons_of_mem _ (in0_F w h)
  have in_kR : ∀ w ∈ u_ws R_R T_R 2, w ∈ ws_F_readNumber := fun w h => List.mem_cons_of_mem _ (in0_R w h)
  refine lv_aload_n hx hb d_F_readNumber_0 rfl (lv_at hl 1 rfl) ?_
  refine lv_iload_n hx hb d_F_readNumber_1 rfl (lv_at hl 2 rfl) ?_
  refine hp_goi hW (va_runV S (c_Row_at l g z0 N ad F r n xs hrN hn hR (q + 2) (by omega)) (cwV 1 hts (tb_V cd_R_at tq_175 tq_60 tq_61 tq_3) rfl rfl rfl hd_R_at (rk_ok (by omega) (by omega))) (hp_preV hK hW (by omega) rfl hR.obj rfl) rfl rfl hl.1 rfl (lv_room (Nat.le_of_ble_eq_true rfl)) d_F_readNumber_2 ⟨Nat.zero_le _, Nat.zero_le _⟩) (fun r_1 F_2 H locs hw hW => ?_)
  obtain ⟨hvq, hFq⟩ := hw
  rw [hFq] at hW
  rw [hvq]
  refine lv_bipush (v := 120) hx hb d_F_readNumber_5 (by decide) ?_
  refine lv_icmp_ne (tgt := 14) hx hb d_F_readNumber_7 (by decide) (fun c_7 => ?_) (fun c_7 => ?_)
  · have c_7i := c_7
    refine lv_iconst (v := 0) hx hb d_F_readNumber_14 (by decide) ?_
    refine lv_istore_n (lv' := [(3, .int 0), (0, .ref (ad 86)), (1, .ref (ad r)), (2, .int (nI (q + 2)))]) hx hb d_F_readNumber_15 rfl hl (by decide) rfl (fun ls hl => ?_)
    refine lv_iload_n hx hb d_F_readNumber_16 rfl (lv_at hl 0 rfl) ?_
    refine lv_if_eq (tgt := 25) hx hb d_F_readNumber_17 (by decide) (fun c_17 => ?_) (fun c_17 => absurd (show (0 : Int32) = 0 from by decide) c_17)
    refine lv_bipush (v := 10) hx hb d_F_readNumber_25 (by decide) ?_
    refine lv_istore (lv' := [(4, .int 10), (3, .int 0), (0, .ref (ad 86)), (1, .ref (ad r)), (2, .int (nI (q + 2)))]) hx hb d_F_readNumber_27 hl (by decide) rfl (fun ls hl => ?_)
    refine lv_iload_n hx hb d_F_readNumber_29 rfl (lv_at hl 1 rfl) ?_
    refine lv_if_eq (tgt := 39) hx hb d_F_readNumber_30 (by decide) (fun c_30 => ?_) (fun c_30 => absurd (show (0 : Int32) = 0 from by decide) c_30)
    refine lv_iload_n hx hb d_F_readNumber_39 rfl (lv_at hl 4 rfl) ?_
    refine lv_istore (lv' := [(5, .int (nI (q + 2))), (4, .int 10), (3, .int 0), (0, .ref (ad 86)), (1, .ref (ad r)), (2, .int (nI (q + 2)))]) hx hb d_F_readNumber_40 hl (by decide) rfl (fun ls hl => ?_)
    refine lv_iconst (v := 0) hx hb d_F_readNumber_42 (by decide) ?_
    refine lv_istore (lv' := [(6, .int 0), (5, .int (nI (q + 2))), (4, .int 10), (3, .int 0), (0, .ref (ad 86)), (1, .ref (ad r)), (2, .int (nI (q + 2)))]) hx hb d_F_readNumber_43 hl (by decide) rfl (fun ls hl => ?_)
    refine lv_aload_n hx hb d_F_readNumber_45 rfl (lv_at hl 4 rfl) ?_
    refine lv_iconst (v := 0) hx hb d_F_readNumber_46 (by decide) ?_
    refine hp_put S hK hW (86) (by omega) rfl hF rfl in_kF tyok_F nm_F 2 (by decide) (hts _ (List.mem_cons_of_mem _ tq_180)) rfl rfl rfl (Nat.le_of_ble_eq_true rfl) d_F_readNumber_47 (fun H locs hW => ?_)
    obtain ⟨F_3, eF_3⟩ : ∃ z, z = va_up F (86) (.inr (kF, [.int wh, .int te, .int 0, .int en])) := ⟨_, rfl⟩
    replace hW : hp_W g z0 N ad F_3 s.heap H locs := by rw [eF_3]; exact hW
    have f_4 : F_3 (86) = .inr (kF, [.int wh, .int te, .int 0, .int en]) := by rw [eF_3, va_up_self]
    have f_5 : F_3 (r) = .inr (kR, [.ref (ad (r + 1)), .int (nI xs.length)]) := by rw [eF_3, va_up_ne _ _ (by omega)]; exact hR.obj
    have hR_6 : vRow g ad F_3 r n xs := hR.keep (by rw [eF_3, va_up_ne _ _ hr86.1]) (by rw [eF_3, va_up_ne _ _ hr86.2])
    have hh : md_hex xs q = false := decide_eq_false c_7i
    have hq3 : md_from xs q = (q + 2) := by unfold md_from; rw [hh]; rfl
    rw [hh, hq3]
    exact lp_Ref_readNumber l g z0 N ad hN F r n xs hrN hr86 hn wh te en false (q + 2) (by omega) _ _ S hr hlk hK 7 0 0 F_3 (by omega) (by omega) f_4 hR_6 rfl (fun x hx => by rw [eF_3, va_up_ne _ _ hx]) _ _ ls hW (lv_sub hl [4, 5, 6, 3, 2, 1, 0] rfl)
  · have c_7i := c_7
    refine lv_iconst (v := 1) hx hb d_F_readNumber_10 (by decide) ?_
    refine lv_goto (tgt := 15) hx hb d_F_readNumber_11 (by decide) ?_
    refine lv_istore_n (lv' := [(3, .int 1), (0, .ref (ad 86)), (1, .ref (ad r)), (2, .int (nI (q + 2)))]) hx hb d_F_readNumber_15 rfl hl (by decide) rfl (fun ls hl => ?_)
    refine lv_iload_n hx hb d_F_readNumber_16 rfl (lv_at hl 0 rfl) ?_
    refine lv_if_eq (tgt := 25) hx hb d_F_readNumber_17 (by decide) (fun c_17 => absurd c_17 (show ¬ ((1 : Int32) = 0) from by decide)) (fun c_17 => ?_)
    refine lv_bipush (v := 16) hx hb d_F_readNumber_20 (by decide) ?_
    refine lv_goto (tgt := 27) hx hb d_F_readNumber_22 (by decide) ?_
    refine lv_istore (lv' := [(4, .int 16), (3, .int 1), (0, .ref (ad 86)), (1, .ref (ad r)), (2, .int (nI (q + 2)))]) hx hb d_F_readNumber_27 hl (by decide) rfl (fun ls hl => ?_)
    refine lv_iload_n hx hb d_F_readNumber_29 rfl (lv_at hl 1 rfl) ?_
    refine lv_if_eq (tgt := 39) hx hb d_F_readNumber_30 (by decide) (fun c_30 => absurd c_30 (show ¬ ((1 : Int32) = 0) from by decide)) (fun c_30 => ?_)
    refine lv_iload_n hx hb d_F_readNumber_33 rfl (lv_at hl 4 rfl) ?_
    refine lv_iconst (v := 1) hx hb d_F_readNumber_34 (by decide) ?_
    refine lv_iadd hx hb d_F_readNumber_35 ?_
    rw [show ((nI (q + 2)) + 1) = (nI (q + 3)) from (nI_succ (q + 2)).symm]
    refine lv_goto (tgt := 40) hx hb d_F_readNumber_36 (by decide) ?_
    refine lv_istore (lv' := [(5, .int (nI (q + 3))), (4, .int 16), (3, .int 1), (0, .ref (ad 86)), (1, .ref (ad r)), (2, .int (nI (q + 2)))]) hx hb d_F_readNumber_40 hl (by decide) rfl (fun ls hl => ?_)
    refine lv_iconst (v := 0) hx hb d_F_readNumber_42 (by decide) ?_
    refine lv_istore (lv' := [(6, .int 0), (5, .int (nI (q + 3))), (4, .int 16), (3, .int 1), (0, .ref (ad 86)), (1, .ref (ad r)), (2, .int (nI (q + 2)))]) hx hb d_F_readNumber_43 hl (by decide) rfl (fun ls hl => ?_)
    refine lv_aload_n hx hb d_F_readNumber_45 rfl (lv_at hl 4 rfl) ?_
    refine lv_iconst (v := 0) hx hb d_F_readNumber_46 (by decide) ?_
    refine hp_put S hK hW (86) (by omega) rfl hF rfl in_kF tyok_F nm_F 2 (by decide) (hts _ (List.mem_cons_of_mem _ tq_180)) rfl rfl rfl (Nat.le_of_ble_eq_true rfl) d_F_readNumber_47 (fun H locs hW => ?_)
    obtain ⟨F_7, eF_7⟩ : ∃ z, z = va_up F (86) (.inr (kF, [.int wh, .int te, .int 0, .int en])) := ⟨_, rfl⟩
    replace hW : hp_W g z0 N ad F_7 s.heap H locs := by rw [eF_7]; exact hW
    have f_8 : F_7 (86) = .inr (kF, [.int wh, .int te, .int 0, .int en]) := by rw [eF_7, va_up_self]
    have f_9 : F_7 (r) = .inr (kR, [.ref (ad (r + 1)), .int (nI xs.length)]) := by rw [eF_7, va_up_ne _ _ (by omega)]; exact hR.obj
    have hR_10 : vRow g ad F_7 r n xs := hR.keep (by rw [eF_7, va_up_ne _ _ hr86.1]) (by rw [eF_7, va_up_ne _ _ hr86.2])
    have hh : md_hex xs q = true := decide_eq_true c_7i
    have hq3 : md_from xs q = (q + 3) := by unfold md_from; rw [hh]; rfl
    rw [hh, hq3]
    exact lp_Ref_readNumber l g z0 N ad hN F r n xs hrN hr86 hn wh te en true (q + 3) (by omega) _ _ S hr hlk hK 7 0 0 F_7 (by omega) (by omega) f_8 hR_10 rfl (fun x hx => by rw [eF_7, va_up_ne _ _ hx]) _ _ ls hW (lv_sub hl [4, 5, 6, 3, 2, 1, 0] rfl)

theorem numX (hex : Bool) (xs : List Int32) (q : Nat) : (md_num hex xs q).2.1 = false := by
  unfold md_num
  split
  · rfl
  · exact clX4 _ _ _

/-! Reference.read(row, q) -/
set_option maxHeartbeats 400000 in
set_option maxRecDepth 100000 in
theorem c_Ref_read (l : Launch) (g : hp_G) (z0 N : Nat) (ad : Nat → Nat) (F : Nat → va_E) (hN : 87 ≤ N) (r n : Nat) (xs : List Int32) (hrN : r + 1 < N) (hr86 : r ≠ 86 ∧ r + 1 ≠ 86) (hn : n < 1000000) (hR : vRow g ad F r n xs) (wh te nu en : Int32) (hF : F 86 = .inr (kF, [.int wh, .int te, .int nu, .int en])) (q : Nat) (hq : q < 400) : hp_Mv l g z0 N ad y_F_read ws_F_read (rk 3) [.ref (ad 86), .ref (ad r), .int (nI q)] F (fun F' => (∃ nu' : Int32, F' 86 = .inr (kF, [.int (b2 (md_ref xs q).1), .int (b2 (md_ref xs q).2.1), .int nu', .int (nI (md_ref xs q).2.2.2)]) ∧ ((md_ref xs q).1 = true → nu' = (md_ref xs q).2.2.1)) ∧ ∀ x, x ≠ 86 → F' x = F x) := by
  refine hp_enter (cc := cc_F_read) (maxL := 4) (ret := none) (by decide) rfl (Nat.le_of_ble_eq_true rfl) ?_
  intro p e s m below meth c S hr hlk hnm hK hW ls hl
  have hl : lv_has ls 4 [(0, .ref (ad 86)), (1, .ref (ad r)), (2, .int (nI q))] := hl
  obtain ⟨hx, hb, hml, hown, hts⟩ := id S
  have in_kF : ∀ w ∈ u_ws R_F T_F 4, w ∈ ws_F_read := fun w h => List.mem_cons_of_mem _ (in0_F w h)
  have in_kR : ∀ w ∈ u_ws R_R T_R 2, w ∈ ws_F_read := fun w h => List.mem_cons_of_mem _ (in0_R w h)
  refine lv_aload_n hx hb d_F_read_0 rfl (lv_at hl 1 rfl) ?_
  refine lv_iload_n hx hb d_F_read_1 rfl (lv_at hl 2 rfl) ?_
  refine lv_iconst (v := 1) hx hb d_F_read_2 (by decide) ?_
  refine lv_iadd hx hb d_F_read_3 ?_
  rw [show ((nI q) + 1) = (nI (q + 1)) from (nI_succ q).symm]
  refine hp_goi hW (va_runV S (c_Row_at l g z0 N ad F r n xs hrN hn hR (q + 1) (by omega)) (cwV 1 hts (tb_V cd_R_at tq_175 tq_60 tq_61 tq_3) rfl rfl rfl hd_R_at (rk_ok (by omega) (by omega))) (hp_preV hK hW (by omega) rfl hR.obj rfl) rfl rfl hl.1 rfl (lv_room (Nat.le_of_ble_eq_true rfl)) d_F_read_4 ⟨Nat.zero_le _, Nat.zero_le _⟩) (fun r_1 F_2 H locs hw hW => ?_)
  obtain ⟨hvq, hFq⟩ := hw
  rw [hFq] at hW
  rw [hvq]
  refine lv_istore_n (lv' := [(3, .int (md_at xs (q + 1))), (0, .ref (ad 86)), (1, .ref (ad r)), (2, .int (nI q))]) hx hb d_F_read_7 rfl hl (by decide) rfl (fun ls hl => ?_)
  refine lv_aload_n hx hb d_F_read_8 rfl (lv_at hl 1 rfl) ?_
  refine lv_iload_n hx hb d_F_read_9 rfl (lv_at hl 0 rfl) ?_
  refine lv_bipush (v := 35) hx hb d_F_read_10 (by decide) ?_
  refine lv_icmp_eq (tgt := 19) hx hb d_F_read_12 (by decide) (fun c_12 => ?_) (fun c_12 => ?_)
  · have c_12i := c_12
    refine lv_iconst (v := 0) hx hb d_F_read_19 (by decide) ?_
    refine hp_put S hK hW (86) (by omega) rfl hF rfl in_kF tyok_F nm_F 1 (by decide) (hts _ (List.mem_cons_of_mem _ tq_176)) rfl rfl rfl (Nat.le_of_ble_eq_true rfl) d_F_read_20 (fun H locs hW => ?_)
    obtain ⟨F_3, eF_3⟩ : ∃ z, z = va_up F (86) (.inr (kF, [.int wh, .int 0, .int nu, .int en])) := ⟨_, rfl⟩
    replace hW : hp_W g z0 N ad F_3 s.heap H locs := by rw [eF_3]; exact hW
    have f_4 : F_3 (86) = .inr (kF, [.int wh, .int 0, .int nu, .int en]) := by rw [eF_3, va_up_self]
    have f_5 : F_3 (r) = .inr (kR, [.ref (ad (r + 1)), .int (nI xs.length)]) := by rw [eF_3, va_up_ne _ _ (by omega)]; exact hR.obj
    have hR_6 : vRow g ad F_3 r n xs := hR.keep (by rw [eF_3, va_up_ne _ _ hr86.1]) (by rw [eF_3, va_up_ne _ _ hr86.2])
    refine lv_aload_n hx hb d_F_read_23 rfl (lv_at hl 1 rfl) ?_
    refine hp_get S hK hW (86) (by omega) rfl f_4 rfl in_kF 1 (by decide) (hts _ (List.mem_cons_of_mem _ tq_176)) rfl d_F_read_24 ?_
    refine lv_if_ne (tgt := 41) hx hb d_F_read_27 (by decide) (fun c_27 => absurd c_27 (show ¬ (¬ (0 : Int32) = 0) from by decide)) (fun c_27 => ?_)
    refine lv_aload_n hx hb d_F_read_30 rfl (lv_at hl 1 rfl) ?_
    refine lv_aload_n hx hb d_F_read_31 rfl (lv_at hl 2 rfl) ?_
    refine lv_iload_n hx hb d_F_read_32 rfl (lv_at hl 3 rfl) ?_
    refine lv_iconst (v := 2) hx hb d_F_read_33 (by decide) ?_
    refine lv_iadd hx hb d_F_read_34 ?_
    rw [show ((nI q) + 2) = (nI (q + 2)) from nI_add q 2]
    refine hp_gov hW (va_runV S (c_Ref_readNumber l g z0 N ad F_3 hN r n xs hrN hr86 hn hR_6 wh 0 nu en f_4 q (by omega)) (cwV 2 hts (tb_V cd_F_readNumber tq_177 tq_178 tq_179 tq_16) rfl rfl rfl hd_F_readNumber (rk_ok (by omega) (by omega))) (hp_preV hK hW (by omega) rfl f_4 rfl) rfl rfl hl.1 rfl (lv_room (Nat.le_of_ble_eq_true rfl)) d_F_read_35 ⟨Nat.zero_le _, Nat.zero_le _⟩) (fun F_8 H locs hw hW => ?_)
    obtain ⟨hc1, hc2⟩ := hw
    refine lv_goto (tgt := 79) hx hb d_F_read_38 (by decide) ?_
    have hX : md_ref xs q = md_num (md_hex xs q) xs (md_from xs q) := if_pos c_12i
    obtain ⟨⟨nu2, hd1, hd2⟩, hc2⟩ := (show _ ∧ _ from ⟨hc1, hc2⟩)
    have hY := numX (md_hex xs q) xs (md_from xs q)
    exact hp_retv S hK hW hr hlk d_F_read_79 (⟨⟨nu2, by rw [hX, hY]; exact hd1, by rw [hX]; exact hd2⟩, fun x hx => by rw [hc2 x hx, eF_3, va_up_ne _ _ hx]⟩)
  · have c_12i := c_12
    refine lv_iconst (v := 1) hx hb d_F_read_15 (by decide) ?_
    refine lv_goto (tgt := 20) hx hb d_F_read_16 (by decide) ?_
    refine hp_put S hK hW (86) (by omega) rfl hF rfl in_kF tyok_F nm_F 1 (by decide) (hts _ (List.mem_cons_of_mem _ tq_176)) rfl rfl rfl (Nat.le_of_ble_eq_true rfl) d_F_read_20 (fun H locs hW => ?_)
    obtain ⟨F_9, eF_9⟩ : ∃ z, z = va_up F (86) (.inr (kF, [.int wh, .int 1, .int nu, .int en])) := ⟨_, rfl⟩
    replace hW : hp_W g z0 N ad F_9 s.heap H locs := by rw [eF_9]; exact hW
    have f_10 : F_9 (86) = .inr (kF, [.int wh, .int 1, .int nu, .int en]) := by rw [eF_9, va_up_self]
    have f_11 : F_9 (r) = .inr (kR, [.ref (ad (r + 1)), .int (nI xs.length)]) := by rw [eF_9, va_up_ne _ _ (by omega)]; exact hR.obj
    have hR_12 : vRow g ad F_9 r n xs := hR.keep (by rw [eF_9, va_up_ne _ _ hr86.1]) (by rw [eF_9, va_up_ne _ _ hr86.2])
    refine lv_aload_n hx hb d_F_read_23 rfl (lv_at hl 1 rfl) ?_
    refine hp_get S hK hW (86) (by omega) rfl f_10 rfl in_kF 1 (by decide) (hts _ (List.mem_cons_of_mem _ tq_176)) rfl d_F_read_24 ?_
    refine lv_if_ne (tgt := 41) hx hb d_F_read_27 (by decide) (fun c_27 => ?_) (fun c_27 => absurd c_27 (show ¬ (1 : Int32) = 0 from by decide))
    refine lv_iload_n hx hb d_F_read_41 rfl (lv_at hl 0 rfl) ?_
    refine lv_bipush (v := 97) hx hb d_F_read_42 (by decide) ?_
    refine lv_icmp_lt (tgt := 72) hx hb d_F_read_44 (by decide) (fun c_44 => ?_) (fun c_44 => ?_)
    · have c_44i := c_44
      have c_44j := Int32.not_le.mpr c_44
      refine lv_aload_n hx hb d_F_read_72 rfl (lv_at hl 1 rfl) ?_
      refine lv_iload_n hx hb d_F_read_73 rfl (lv_at hl 3 rfl) ?_
      refine lv_iconst (v := 1) hx hb d_F_read_74 (by decide) ?_
      refine lv_iadd hx hb d_F_read_75 ?_
      rw [show ((nI q) + 1) = (nI (q + 1)) from (nI_succ q).symm]
      refine hp_gov hW (va_runV S (c_Ref_breakOff l g z0 N ad F_9 hN wh 1 nu en f_10 (nI (q + 1))) (cwV 1 hts (tb_V cd_F_breakOff tq_184 tq_185 tq_186 tq_16) rfl rfl rfl hd_F_breakOff (rk_ok (by omega) (by omega))) (hp_preV hK hW (by omega) rfl f_10 rfl) rfl rfl hl.1 rfl (lv_room (Nat.le_of_ble_eq_true rfl)) d_F_read_76 ⟨Nat.zero_le _, Nat.zero_le _⟩) (fun F_14 H locs hw hW => ?_)
      obtain ⟨hc1, hc2⟩ := hw
      have hX : md_ref xs q = (false, true, 0, q + 1) := (if_neg c_12i).trans (if_neg (fun h => absurd c_44i (Int32.not_lt.mpr h.1)))
      exact hp_retv S hK hW hr hlk d_F_read_79 (⟨⟨_, by rw [hX]; exact hc1, by rw [hX]; exact fun h => by cases h⟩, fun x hx => by rw [hc2 x hx, eF_9, va_up_ne _ _ hx]⟩)
    · have c_44i := c_44
      have c_44j := Int32.not_lt.mp c_44
      refine lv_iload_n hx hb d_F_read_47 rfl (lv_at hl 0 rfl) ?_
      refine lv_bipush (v := 122) hx hb d_F_read_48 (by decide) ?_
      refine lv_icmp_gt (tgt := 72) hx hb d_F_read_50 (by decide) (fun c_50 => ?_) (fun c_50 => ?_)
      · have c_50i := c_50
        have c_50j := Int32.not_le.mpr c_50
        refine lv_aload_n hx hb d_F_read_72 rfl (lv_at hl 1 rfl) ?_
        refine lv_iload_n hx hb d_F_read_73 rfl (lv_at hl 3 rfl) ?_
        refine lv_iconst (v := 1) hx hb d_F_read_74 (by decide) ?_
        refine lv_iadd hx hb d_F_read_75 ?_
        rw [show ((nI q) + 1) = (nI (q + 1)) from (nI_succ q).symm]
        refine hp_gov hW (va_runV S (c_Ref_breakOff l g z0 N ad F_9 hN wh 1 nu en f_10 (nI (q + 1))) (cwV 1 hts (tb_V cd_F_breakOff tq_184 tq_185 tq_186 tq_16) rfl rfl rfl hd_F_breakOff (rk_ok (by omega) (by omega))) (hp_preV hK hW (by omega) rfl f_10 rfl) rfl rfl hl.1 rfl (lv_room (Nat.le_of_ble_eq_true rfl)) d_F_read_76 ⟨Nat.zero_le _, Nat.zero_le _⟩) (fun F_16 H locs hw hW => ?_)
        obtain ⟨hc1, hc2⟩ := hw
        have hX : md_ref xs q = (false, true, 0, q + 1) := (if_neg c_12i).trans (if_neg (fun h => absurd c_50i (Int32.not_lt.mpr h.2)))
        exact hp_retv S hK hW hr hlk d_F_read_79 (⟨⟨_, by rw [hX]; exact hc1, by rw [hX]; exact fun h => by cases h⟩, fun x hx => by rw [hc2 x hx, eF_9, va_up_ne _ _ hx]⟩)
      · have c_50i := c_50
        have c_50j := Int32.not_lt.mp c_50
        refine lv_aload_n hx hb d_F_read_53 rfl (lv_at hl 1 rfl) ?_
        refine lv_iload_n hx hb d_F_read_54 rfl (lv_at hl 0 rfl) ?_
        refine lv_bipush (v := 97) hx hb d_F_read_55 (by decide) ?_
        refine lv_isub hx hb d_F_read_57 ?_
        refine hp_put S hK hW (86) (by omega) rfl f_10 rfl in_kF tyok_F nm_F 2 (by decide) (hts _ (List.mem_cons_of_mem _ tq_180)) rfl rfl rfl (Nat.le_of_ble_eq_true rfl) d_F_read_58 (fun H locs hW => ?_)
        obtain ⟨F_17, eF_17⟩ : ∃ z, z = va_up F_9 (86) (.inr (kF, [.int wh, .int 1, .int ((md_at xs (q + 1)) - 97), .int en])) := ⟨_, rfl⟩
        replace hW : hp_W g z0 N ad F_17 s.heap H locs := by rw [eF_17]; exact hW
        have f_18 : F_17 (86) = .inr (kF, [.int wh, .int 1, .int ((md_at xs (q + 1)) - 97), .int en]) := by rw [eF_17, va_up_self]
        have f_19 : F_17 (r) = .inr (kR, [.ref (ad (r + 1)), .int (nI xs.length)]) := by rw [eF_17, va_up_ne _ _ (by omega)]; exact f_11
        have hR_20 : vRow g ad F_17 r n xs := hR_12.keep (by rw [eF_17, va_up_ne _ _ hr86.1]) (by rw [eF_17, va_up_ne _ _ hr86.2])
        refine lv_aload_n hx hb d_F_read_61 rfl (lv_at hl 1 rfl) ?_
        refine lv_aload_n hx hb d_F_read_62 rfl (lv_at hl 2 rfl) ?_
        refine lv_iload_n hx hb d_F_read_63 rfl (lv_at hl 3 rfl) ?_
        refine lv_iconst (v := 2) hx hb d_F_read_64 (by decide) ?_
        refine lv_iadd hx hb d_F_read_65 ?_
        rw [show ((nI q) + 2) = (nI (q + 2)) from nI_add q 2]
        refine hp_gov hW (va_runV S (c_Ref_close l g z0 N ad F_17 hN r n xs hrN hr86 hn hR_20 wh 1 (md_at xs (q + 1) - 97) en f_18 (q + 2) (by omega)) (cwV 2 hts (tb_V cd_F_close tq_181 tq_182 tq_183 tq_16) rfl rfl rfl hd_F_close (rk_ok (by omega) (by omega))) (hp_preV hK hW (by omega) rfl f_18 rfl) rfl rfl hl.1 rfl (lv_room (Nat.le_of_ble_eq_true rfl)) d_F_read_66 ⟨Nat.zero_le _, Nat.zero_le _⟩) (fun F_22 H locs hw hW => ?_)
        obtain ⟨hc1, hc2⟩ := hw
        refine lv_goto (tgt := 79) hx hb d_F_read_69 (by decide) ?_
        have hX : md_ref xs q = md_cl xs true (md_at xs (q + 1) - 97) (q + 2) := (if_neg c_12i).trans (if_pos ⟨Int32.not_lt.mp c_44i, Int32.not_lt.mp c_50i⟩)
        rw [← clX1 xs (md_at xs (q + 1) - 97) (q + 2) (en := true), ← clX2 xs (md_at xs (q + 1) - 97) (q + 2) (en := true)] at hc1
        exact hp_retv S hK hW hr hlk d_F_read_79 (⟨⟨_, by rw [hX, clX4]; exact hc1, fun _ => by rw [hX, clX3]⟩, fun x hx => by rw [hc2 x hx, eF_17, va_up_ne _ _ hx, eF_9, va_up_ne _ _ hx]⟩)
