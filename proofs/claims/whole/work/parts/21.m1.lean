/-! the reference: isCharacter -/
set_option maxHeartbeats 400000 in
set_option maxRecDepth 100000 in
theorem m_isCharacter (l : Launch) (g : hp_G) (z0 N : Nat) (ad : Nat → Nat) (F : Nat → va_E) (x : Int32) : hp_Mi l g z0 N ad y_M_isCharacter ws_M_isCharacter (rk 0) [.int x] F (fun v F' => v = b2 (md_ch x) ∧ F' = F) := by
  refine hp_enter (cc := cc_M_isCharacter) (maxL := 1) (ret := (some .boolean)) (by decide) rfl (Nat.le_of_ble_eq_true rfl) ?_
  intro p e s m below meth c S hr hlk hnm hK hW ls hl
  have hl : lv_has ls 1 [(0, .int x)] := hl
  obtain ⟨hx, hb, hml, hown, hts⟩ := id S
  refine lv_iload_n hx hb d_M_isCharacter_0 rfl (lv_at hl 0 rfl) ?_
  refine lv_bipush (v := 9) hx hb d_M_isCharacter_1 (by decide) ?_
  refine lv_icmp_eq (tgt := 30) hx hb d_M_isCharacter_3 (by decide) (fun c_3 => ?_) (fun c_3 => ?_)
  · have c_3i := c_3
    refine lv_iconst (v := 1) hx hb d_M_isCharacter_30 (by decide) ?_
    refine lv_goto (tgt := 35) hx hb d_M_isCharacter_31 (by decide) ?_
    exact hp_retz S hK hW hr hlk rfl d_M_isCharacter_35 (⟨by unfold md_ch b2; simp [c_3i], rfl⟩)
  · have c_3i := c_3
    refine lv_iload_n hx hb d_M_isCharacter_6 rfl (lv_at hl 0 rfl) ?_
    refine lv_bipush (v := 10) hx hb d_M_isCharacter_7 (by decide) ?_
    refine lv_icmp_eq (tgt := 30) hx hb d_M_isCharacter_9 (by decide) (fun c_9 => ?_) (fun c_9 => ?_)
    · have c_9i := c_9
      refine lv_iconst (v := 1) hx hb d_M_isCharacter_30 (by decide) ?_
      refine lv_goto (tgt := 35) hx hb d_M_isCharacter_31 (by decide) ?_
      exact hp_retz S hK hW hr hlk rfl d_M_isCharacter_35 (⟨by unfold md_ch b2; simp [c_3i, c_9i], rfl⟩)
    · have c_9i := c_9
      refine lv_iload_n hx hb d_M_isCharacter_12 rfl (lv_at hl 0 rfl) ?_
      refine lv_bipush (v := 13) hx hb d_M_isCharacter_13 (by decide) ?_
      refine lv_icmp_eq (tgt := 30) hx hb d_M_isCharacter_15 (by decide) (fun c_15 => ?_) (fun c_15 => ?_)
      · have c_15i := c_15
        refine lv_iconst (v := 1) hx hb d_M_isCharacter_30 (by decide) ?_
        refine lv_goto (tgt := 35) hx hb d_M_isCharacter_31 (by decide) ?_
        exact hp_retz S hK hW hr hlk rfl d_M_isCharacter_35 (⟨by unfold md_ch b2; simp [c_3i, c_9i, c_15i], rfl⟩)
      · have c_15i := c_15
        refine lv_iload_n hx hb d_M_isCharacter_18 rfl (lv_at hl 0 rfl) ?_
        refine lv_bipush (v := 32) hx hb d_M_isCharacter_19 (by decide) ?_
        refine lv_icmp_lt (tgt := 34) hx hb d_M_isCharacter_21 (by decide) (fun c_21 => ?_) (fun c_21 => ?_)
        · have c_21i := c_21
          have c_21j := Int32.not_le.mpr c_21
          refine lv_iconst (v := 0) hx hb d_M_isCharacter_34 (by decide) ?_
          exact hp_retz S hK hW hr hlk rfl d_M_isCharacter_35 (⟨by unfold md_ch b2; simp [c_3i, c_9i, c_15i, c_21j], rfl⟩)
        · have c_21i := c_21
          have c_21j := Int32.not_lt.mp c_21
          refine lv_iload_n hx hb d_M_isCharacter_24 rfl (lv_at hl 0 rfl) ?_
          refine lv_bipush (v := 126) hx hb d_M_isCharacter_25 (by decide) ?_
          refine lv_icmp_gt (tgt := 34) hx hb d_M_isCharacter_27 (by decide) (fun c_27 => ?_) (fun c_27 => ?_)
          · have c_27i := c_27
            have c_27j := Int32.not_le.mpr c_27
            refine lv_iconst (v := 0) hx hb d_M_isCharacter_34 (by decide) ?_
            exact hp_retz S hK hW hr hlk rfl d_M_isCharacter_35 (⟨by unfold md_ch b2; simp [c_3i, c_9i, c_15i, c_21j, c_27j], rfl⟩)
          · have c_27i := c_27
            have c_27j := Int32.not_lt.mp c_27
            refine lv_iconst (v := 1) hx hb d_M_isCharacter_30 (by decide) ?_
            refine lv_goto (tgt := 35) hx hb d_M_isCharacter_31 (by decide) ?_
            exact hp_retz S hK hW hr hlk rfl d_M_isCharacter_35 (⟨by unfold md_ch b2; simp [c_3i, c_9i, c_15i, c_21j, c_27j], rfl⟩)

/-! the reference: digit -/
set_option maxHeartbeats 400000 in
set_option maxRecDepth 100000 in
theorem m_digit_1 (l : Launch) (g : hp_G) (z0 N : Nat) (ad : Nat → Nat) (F : Nat → va_E) (x : Int32) : hp_Mi l g z0 N ad y_M_digit ws_M_digit (rk 0) [.int x, .int 1] F (fun v F' => v = md_dg true x ∧ F' = F) := by
  refine hp_enter (cc := cc_M_digit) (maxL := 2) (ret := (some .int)) (by decide) rfl (Nat.le_of_ble_eq_true rfl) ?_
  intro p e s m below meth c S hr hlk hnm hK hW ls hl
  have hl : lv_has ls 2 [(0, .int x), (1, .int 1)] := hl
  obtain ⟨hx, hb, hml, hown, hts⟩ := id S
  refine lv_iload_n hx hb d_M_digit_0 rfl (lv_at hl 0 rfl) ?_
  refine lv_bipush (v := 48) hx hb d_M_digit_1 (by decide) ?_
  refine lv_icmp_lt (tgt := 17) hx hb d_M_digit_3 (by decide) (fun c_3 => ?_) (fun c_3 => ?_)
  · have c_3i := c_3
    have c_3j := Int32.not_le.mpr c_3
    refine lv_iload_n hx hb d_M_digit_17 rfl (lv_at hl 1 rfl) ?_
    refine lv_if_eq (tgt := 38) hx hb d_M_digit_18 (by decide) (fun c_18 => absurd c_18 (show ¬ ((1 : Int32) = 0) from by decide)) (fun c_18 => ?_)
    refine lv_iload_n hx hb d_M_digit_21 rfl (lv_at hl 0 rfl) ?_
    refine lv_bipush (v := 97) hx hb d_M_digit_22 (by decide) ?_
    refine lv_icmp_lt (tgt := 38) hx hb d_M_digit_24 (by decide) (fun c_24 => ?_) (fun c_24 => ?_)
    · have c_24i := c_24
      have c_24j := Int32.not_le.mpr c_24
      refine lv_iload_n hx hb d_M_digit_38 rfl (lv_at hl 1 rfl) ?_
      refine lv_if_eq (tgt := 59) hx hb d_M_digit_39 (by decide) (fun c_39 => absurd c_39 (show ¬ ((1 : Int32) = 0) from by decide)) (fun c_39 => ?_)
      refine lv_iload_n hx hb d_M_digit_42 rfl (lv_at hl 0 rfl) ?_
      refine lv_bipush (v := 65) hx hb d_M_digit_43 (by decide) ?_
      refine lv_icmp_lt (tgt := 59) hx hb d_M_digit_45 (by decide) (fun c_45 => ?_) (fun c_45 => ?_)
      · have c_45i := c_45
        have c_45j := Int32.not_le.mpr c_45
        refine lv_iconst (v := (-1)) hx hb d_M_digit_59 (by decide) ?_
        exact hp_reti S hK hW hr hlk d_M_digit_60 (⟨by unfold md_dg; simp [c_3j, c_24j, c_45j], rfl⟩)
      · have c_45i := c_45
        have c_45j := Int32.not_lt.mp c_45
        refine lv_iload_n hx hb d_M_digit_48 rfl (lv_at hl 0 rfl) ?_
        refine lv_bipush (v := 70) hx hb d_M_digit_49 (by decide) ?_
        refine lv_icmp_gt (tgt := 59) hx hb d_M_digit_51 (by decide) (fun c_51 => ?_) (fun c_51 => ?_)
        · have c_51i := c_51
          have c_51j := Int32.not_le.mpr c_51
          refine lv_iconst (v := (-1)) hx hb d_M_digit_59 (by decide) ?_
          exact hp_reti S hK hW hr hlk d_M_digit_60 (⟨by unfold md_dg; simp [c_3j, c_24j, c_45j, c_51j], rfl⟩)
        · have c_51i := c_51
          have c_51j := Int32.not_lt.mp c_51
          refine lv_iload_n hx hb d_M_digit_54 rfl (lv_at hl 0 rfl) ?_
          refine lv_bipush (v := 55) hx hb d_M_digit_55 (by decide) ?_
          refine lv_isub hx hb d_M_digit_57 ?_
          exact hp_reti S hK hW hr hlk d_M_digit_58 (⟨by unfold md_dg; simp [c_3j, c_24j, c_45j, c_51j], rfl⟩)
    · have c_24i := c_24
      have c_24j := Int32.not_lt.mp c_24
      refine lv_iload_n hx hb d_M_digit_27 rfl (lv_at hl 0 rfl) ?_
      refine lv_bipush (v := 102) hx hb d_M_digit_28 (by decide) ?_
      refine lv_icmp_gt (tgt := 38) hx hb d_M_digit_30 (by decide) (fun c_30 => ?_) (fun c_30 => ?_)
      · have c_30i := c_30
        have c_30j := Int32.not_le.mpr c_30
        refine lv_iload_n hx hb d_M_digit_38 rfl (lv_at hl 1 rfl) ?_
        refine lv_if_eq (tgt := 59) hx hb d_M_digit_39 (by decide) (fun c_39 => absurd c_39 (show ¬ ((1 : Int32) = 0) from by decide)) (fun c_39 => ?_)
        refine lv_iload_n hx hb d_M_digit_42 rfl (lv_at hl 0 rfl) ?_
        refine lv_bipush (v := 65) hx hb d_M_digit_43 (by decide) ?_
        refine lv_icmp_lt (tgt := 59) hx hb d_M_digit_45 (by decide) (fun c_45 => ?_) (fun c_45 => ?_)
        · have c_45i := c_45
          have c_45j := Int32.not_le.mpr c_45
          refine lv_iconst (v := (-1)) hx hb d_M_digit_59 (by decide) ?_
          exact hp_reti S hK hW hr hlk d_M_digit_60 (⟨by unfold md_dg; simp [c_3j, c_24j, c_30j, c_45j], rfl⟩)
        · have c_45i := c_45
          have c_45j := Int32.not_lt.mp c_45
          refine lv_iload_n hx hb d_M_digit_48 rfl (lv_at hl 0 rfl) ?_
          refine lv_bipush (v := 70) hx hb d_M_digit_49 (by decide) ?_
          refine lv_icmp_gt (tgt := 59) hx hb d_M_digit_51 (by decide) (fun c_51 => ?_) (fun c_51 => ?_)
          · have c_51i := c_51
            have c_51j := Int32.not_le.mpr c_51
            refine lv_iconst (v := (-1)) hx hb d_M_digit_59 (by decide) ?_
            exact hp_reti S hK hW hr hlk d_M_digit_60 (⟨by unfold md_dg; simp [c_3j, c_24j, c_30j, c_45j, c_51j], rfl⟩)
          · have c_51i := c_51
            have c_51j := Int32.not_lt.mp c_51
            refine lv_iload_n hx hb d_M_digit_54 rfl (lv_at hl 0 rfl) ?_
            refine lv_bipush (v := 55) hx hb d_M_digit_55 (by decide) ?_
            refine lv_isub hx hb d_M_digit_57 ?_
            exact hp_reti S hK hW hr hlk d_M_digit_58 (⟨by unfold md_dg; simp [c_3j, c_24j, c_30j, c_45j, c_51j], rfl⟩)
      · have c_30i := c_30
        have c_30j := Int32.not_lt.mp c_30
        refine lv_iload_n hx hb d_M_digit_33 rfl (lv_at hl 0 rfl) ?_
        refine lv_bipush (v := 87) hx hb d_M_digit_34 (by decide) ?_
        refine lv_isub hx hb d_M_digit_36 ?_
        exact hp_reti S hK hW hr hlk d_M_digit_37 (⟨by unfold md_dg; simp [c_3j, c_24j, c_30j], rfl⟩)
  · have c_3i := c_3
    have c_3j := Int32.not_lt.mp c_3
    refine lv_iload_n hx hb d_M_digit_6 rfl (lv_at hl 0 rfl) ?_
    refine lv_bipush (v := 57) hx hb d_M_digit_7 (by decide) ?_
    refine lv_icmp_gt (tgt := 17) hx hb d_M_digit_9 (by decide) (fun c_9 => ?_) (fun c_9 => ?_)
    · have c_9i := c_9
      have c_9j := Int32.not_le.mpr c_9
      refine lv_iload_n hx hb d_M_digit_17 rfl (lv_at hl 1 rfl) ?_
      refine lv_if_eq (tgt := 38) hx hb d_M_digit_18 (by decide) (fun c_18 => absurd c_18 (show ¬ ((1 : Int32) = 0) from by decide)) (fun c_18 => ?_)
      refine lv_iload_n hx hb d_M_digit_21 rfl (lv_at hl 0 rfl) ?_
      refine lv_bipush (v := 97) hx hb d_M_digit_22 (by decide) ?_
      refine lv_icmp_lt (tgt := 38) hx hb d_M_digit_24 (by decide) (fun c_24 => ?_) (fun c_24 => ?_)
      · have c_24i := c_24
        have c_24j := Int32.not_le.mpr c_24
        refine lv_iload_n hx hb d_M_digit_38 rfl (lv_at hl 1 rfl) ?_
        refine lv_if_eq (tgt := 59) hx hb d_M_digit_39 (by decide) (fun c_39 => absurd c_39 (show ¬ ((1 : Int32) = 0) from by decide)) (fun c_39 => ?_)
        refine lv_iload_n hx hb d_M_digit_42 rfl (lv_at hl 0 rfl) ?_
        refine lv_bipush (v := 65) hx hb d_M_digit_43 (by decide) ?_
        refine lv_icmp_lt (tgt := 59) hx hb d_M_digit_45 (by decide) (fun c_45 => ?_) (fun c_45 => ?_)
        · have c_45i := c_45
          have c_45j := Int32.not_le.mpr c_45
          refine lv_iconst (v := (-1)) hx hb d_M_digit_59 (by decide) ?_
          exact hp_reti S hK hW hr hlk d_M_digit_60 (⟨by unfold md_dg; simp [c_3j, c_9j, c_24j, c_45j], rfl⟩)
        · have c_45i := c_45
          have c_45j := Int32.not_lt.mp c_45
          refine lv_iload_n hx hb d_M_digit_48 rfl (lv_at hl 0 rfl) ?_
          refine lv_bipush (v := 70) hx hb d_M_digit_49 (by decide) ?_
          refine lv_icmp_gt (tgt := 59) hx hb d_M_digit_51 (by decide) (fun c_51 => ?_) (fun c_51 => ?_)
          · have c_51i := c_51
            have c_51j := Int32.not_le.mpr c_51
            refine lv_iconst (v := (-1)) hx hb d_M_digit_59 (by decide) ?_
            exact hp_reti S hK hW hr hlk d_M_digit_60 (⟨by unfold md_dg; simp [c_3j, c_9j, c_24j, c_45j, c_51j], rfl⟩)
          · have c_51i := c_51
            have c_51j := Int32.not_lt.mp c_51
            refine lv_iload_n hx hb d_M_digit_54 rfl (lv_at hl 0 rfl) ?_
            refine lv_bipush (v := 55) hx hb d_M_digit_55 (by decide) ?_
            refine lv_isub hx hb d_M_digit_57 ?_
            exact hp_reti S hK hW hr hlk d_M_digit_58 (⟨by unfold md_dg; simp [c_3j, c_9j, c_24j, c_45j, c_51j], rfl⟩)
      · have c_24i := c_24
        have c_24j := Int32.not_lt.mp c_24
        refine lv_iload_n hx hb d_M_digit_27 rfl (lv_at hl 0 rfl) ?_
        refine lv_bipush (v := 102) hx hb d_M_digit_28 (by decide) ?_
        refine lv_icmp_gt (tgt := 38) hx hb d_M_digit_30 (by decide) (fun c_30 => ?_) (fun c_30 => ?_)
        · have c_30i := c_30
          have c_30j := Int32.not_le.mpr c_30
          refine lv_iload_n hx hb d_M_digit_38 rfl (lv_at hl 1 rfl) ?_
          refine lv_if_eq (tgt := 59) hx hb d_M_digit_39 (by decide) (fun c_39 => absurd c_39 (show ¬ ((1 : Int32) = 0) from by decide)) (fun c_39 => ?_)
          refine lv_iload_n hx hb d_M_digit_42 rfl (lv_at hl 0 rfl) ?_
          refine lv_bipush (v := 65) hx hb d_M_digit_43 (by decide) ?_
          refine lv_icmp_lt (tgt := 59) hx hb d_M_digit_45 (by decide) (fun c_45 => ?_) (fun c_45 => ?_)
          · have c_45i := c_45
            have c_45j := Int32.not_le.mpr c_45
            refine lv_iconst (v := (-1)) hx hb d_M_digit_59 (by decide) ?_
            exact hp_reti S hK hW hr hlk d_M_digit_60 (⟨by unfold md_dg; simp [c_3j, c_9j, c_24j, c_30j, c_45j], rfl⟩)
          · have c_45i := c_45
            have c_45j := Int32.not_lt.mp c_45
            refine lv_iload_n hx hb d_M_digit_48 rfl (lv_at hl 0 rfl) ?_
            refine lv_bipush (v := 70) hx hb d_M_digit_49 (by decide) ?_
            refine lv_icmp_gt (tgt := 59) hx hb d_M_digit_51 (by decide) (fun c_51 => ?_) (fun c_51 => ?_)
            · have c_51i := c_51
              have c_51j := Int32.not_le.mpr c_51
              refine lv_iconst (v := (-1)) hx hb d_M_digit_59 (by decide) ?_
              exact hp_reti S hK hW hr hlk d_M_digit_60 (⟨by unfold md_dg; simp [c_3j, c_9j, c_24j, c_30j, c_45j, c_51j], rfl⟩)
            · have c_51i := c_51
              have c_51j := Int32.not_lt.mp c_51
              refine lv_iload_n hx hb d_M_digit_54 rfl (lv_at hl 0 rfl) ?_
              refine lv_bipush (v := 55) hx hb d_M_digit_55 (by decide) ?_
              refine lv_isub hx hb d_M_digit_57 ?_
              exact hp_reti S hK hW hr hlk d_M_digit_58 (⟨by unfold md_dg; simp [c_3j, c_9j, c_24j, c_30j, c_45j, c_51j], rfl⟩)
        · have c_30i := c_30
          have c_30j := Int32.not_lt.mp c_30
          refine lv_iload_n hx hb d_M_digit_33 rfl (lv_at hl 0 rfl) ?_
          refine lv_bipush (v := 87) hx hb d_M_digit_34 (by decide) ?_
          refine lv_isub hx hb d_M_digit_36 ?_
          exact hp_reti S hK hW hr hlk d_M_digit_37 (⟨by unfold md_dg; simp [c_3j, c_9j, c_24j, c_30j], rfl⟩)
    · have c_9i := c_9
      have c_9j := Int32.not_lt.mp c_9
      refine lv_iload_n hx hb d_M_digit_12 rfl (lv_at hl 0 rfl) ?_
      refine lv_bipush (v := 48) hx hb d_M_digit_13 (by decide) ?_
      refine lv_isub hx hb d_M_digit_15 ?_
      exact hp_reti S hK hW hr hlk d_M_digit_16 (⟨(dg_0 (Int32.not_lt.mp c_3i) (Int32.not_lt.mp c_9i)).symm, rfl⟩)

/-! the reference: digit -/
set_option maxHeartbeats 400000 in
set_option maxRecDepth 100000 in
theorem m_digit_0 (l : Launch) (g : hp_G) (z0 N : Nat) (ad : Nat → Nat) (F : Nat → va_E) (x : Int32) : hp_Mi l g z0 N ad y_M_digit ws_M_digit (rk 0) [.int x, .int 0] F (fun v F' => v = md_dg false x ∧ F' = F) := by
  refine hp_enter (cc := cc_M_digit) (maxL := 2) (ret := (some .int)) (by decide) rfl (Nat.le_of_ble_eq_true rfl) ?_
  intro p e s m below meth c S hr hlk hnm hK hW ls hl
  have hl : lv_has ls 2 [(0, .int x), (1, .int 0)] := hl
  obtain ⟨hx, hb, hml, hown, hts⟩ := id S
  refine lv_iload_n hx hb d_M_digit_0 rfl (lv_at hl 0 rfl) ?_
  refine lv_bipush (v := 48) hx hb d_M_digit_1 (by decide) ?_
  refine lv_icmp_lt (tgt := 17) hx hb d_M_digit_3 (by decide) (fun c_3 => ?_) (fun c_3 => ?_)
  · have c_3i := c_3
    have c_3j := Int32.not_le.mpr c_3
    refine lv_iload_n hx hb d_M_digit_17 rfl (lv_at hl 1 rfl) ?_
    refine lv_if_eq (tgt := 38) hx hb d_M_digit_18 (by decide) (fun c_18 => ?_) (fun c_18 => absurd (show (0 : Int32) = 0 from by decide) c_18)
    refine lv_iload_n hx hb d_M_digit_38 rfl (lv_at hl 1 rfl) ?_
    refine lv_if_eq (tgt := 59) hx hb d_M_digit_39 (by decide) (fun c_39 => ?_) (fun c_39 => absurd (show (0 : Int32) = 0 from by decide) c_39)
    refine lv_iconst (v := (-1)) hx hb d_M_digit_59 (by decide) ?_
    exact hp_reti S hK hW hr hlk d_M_digit_60 (⟨by unfold md_dg; simp [c_3j], rfl⟩)
  · have c_3i := c_3
    have c_3j := Int32.not_lt.mp c_3
    refine lv_iload_n hx hb d_M_digit_6 rfl (lv_at hl 0 rfl) ?_
    refine lv_bipush (v := 57) hx hb d_M_digit_7 (by decide) ?_
    refine lv_icmp_gt (tgt := 17) hx hb d_M_digit_9 (by decide) (fun c_9 => ?_) (fun c_9 => ?_)
    · have c_9i := c_9
      have c_9j := Int32.not_le.mpr c_9
      refine lv_iload_n hx hb d_M_digit_17 rfl (lv_at hl 1 rfl) ?_
      refine lv_if_eq (tgt := 38) hx hb d_M_digit_18 (by decide) (fun c_18 => ?_) (fun c_18 => absurd (show (0 : Int32) = 0 from by decide) c_18)
      refine lv_iload_n hx hb d_M_digit_38 rfl (lv_at hl 1 rfl) ?_
      refine lv_if_eq (tgt := 59) hx hb d_M_digit_39 (by decide) (fun c_39 => ?_) (fun c_39 => absurd (show (0 : Int32) = 0 from by decide) c_39)
      refine lv_iconst (v := (-1)) hx hb d_M_digit_59 (by decide) ?_
      exact hp_reti S hK hW hr hlk d_M_digit_60 (⟨by unfold md_dg; simp [c_3j, c_9j], rfl⟩)
    · have c_9i := c_9
      have c_9j := Int32.not_lt.mp c_9
      refine lv_iload_n hx hb d_M_digit_12 rfl (lv_at hl 0 rfl) ?_
      refine lv_bipush (v := 48) hx hb d_M_digit_13 (by decide) ?_
      refine lv_isub hx hb d_M_digit_15 ?_
      exact hp_reti S hK hW hr hlk d_M_digit_16 (⟨(dg_0 (Int32.not_lt.mp c_3i) (Int32.not_lt.mp c_9i)).symm, rfl⟩)

theorem m_digit (l : Launch) (g : hp_G) (z0 N : Nat) (ad : Nat → Nat) (F : Nat → va_E) (hex : Bool) (x : Int32) : hp_Mi l g z0 N ad y_M_digit ws_M_digit (rk 0) [.int x, .int (b2 hex)] F (fun v F' => v = md_dg hex x ∧ F' = F) := by
  cases hex
  · exact m_digit_0 l g z0 N ad F x
  · exact m_digit_1 l g z0 N ad F x

set_option maxHeartbeats 400000 in
set_option maxRecDepth 100000 in
theorem m_length_0 (l : Launch) (g : hp_G) (z0 N : Nat) (ad : Nat → Nat) (F : Nat → va_E) (hN : 96 ≤ N) (tape : List Int32) (kn : Nat → Bool) (rt : Nat → List Int32) (la mm : List Int32) (ap : Nat → Int32) (tc fp me dp fa ou ki nu be : Int32) (hS : mS g ad F tape kn rt la mm [] ap tc fp me dp fa ou ki nu be) : hp_Mi l g z0 N ad y_M_length ws_M_length (rk 0) [.ref (ad 87)] F (fun v F' => v = nI (mC tape rt ([] : List Nat)).length ∧ F' = F) := by
  obtain ⟨tp, hs, sz, tx, vl, ey, md, hR, ⟨htl, htp⟩, hT, ⟨hll, hvl⟩, hKs, hml0, hmd⟩ := id hS
  refine hp_enter (cc := cc_M_length) (maxL := 1) (ret := (some .int)) (by decide) rfl (Nat.le_of_ble_eq_true rfl) ?_
  intro p e s m below meth c S hr hlk hnm hK hW ls hl
  have hl : lv_has ls 1 [(0, .ref (ad 87))] := hl
  obtain ⟨hx, hb, hml, hown, hts⟩ := id S
  have in_kM : ∀ w ∈ u_ws R_M T_M 21, w ∈ ws_M_length := fun w h => List.mem_cons_of_mem _ (in0_M w h)
  refine lv_aload_n hx hb d_M_length_0 rfl (lv_at hl 0 rfl) ?_
  refine hp_get S hK hW (87) (by omega) rfl hR.1 rfl in_kM 11 (by decide) (hts _ (List.mem_cons_of_mem _ tq_107)) rfl d_M_length_1 ?_
  refine lv_if_ne (tgt := 14) hx hb d_M_length_4 (by decide) (fun c_4 => absurd c_4 (show ¬ (¬ ((nI (([] : List Nat)).length) : Int32) = 0) from fun h => h rfl)) (fun c_4 => ?_)
  refine lv_aload_n hx hb d_M_length_7 rfl (lv_at hl 0 rfl) ?_
  refine hp_get S hK hW (87) (by omega) rfl hR.1 rfl in_kM 2 (by decide) (hts _ (List.mem_cons_of_mem _ tq_98)) rfl d_M_length_8 ?_
  refine lv_goto (tgt := 28) hx hb d_M_length_11 (by decide) ?_
  exact hp_reti S hK hW hr hlk d_M_length_28 (⟨rfl, rfl⟩)

set_option maxHeartbeats 400000 in
set_option maxRecDepth 100000 in
theorem m_length_1 (l : Launch) (g : hp_G) (z0 N : Nat) (ad : Nat → Nat) (F : Nat → va_E) (hN : 96 ≤ N) (tape : List Int32) (kn : Nat → Bool) (rt : Nat → List Int32) (la mm : List Int32) (k : Nat) (st1 : List Nat) (ap : Nat → Int32) (tc fp me dp fa ou ki nu be : Int32) (hS : mS g ad F tape kn rt la mm (k :: st1) ap tc fp me dp fa ou ki nu be) : hp_Mi l g z0 N ad y_M_length ws_M_length (rk 0) [.ref (ad 87)] F (fun v F' => v = nI (mC tape rt (k :: st1)).length ∧ F' = F) := by
  obtain ⟨tp, hs, sz, tx, vl, ey, md, hR, ⟨htl, htp⟩, hT, ⟨hll, hvl⟩, hKs, hml0, hmd⟩ := id hS
  have hk := hKs.2.2 k List.mem_cons_self
  have hk26 := hKs.1
  have hTk := (hT k hk.1).2 hk.2
  have hkl := hTk.2.1
  have hk1 := hk.1
  refine hp_enter (cc := cc_M_length) (maxL := 1) (ret := (some .int)) (by decide) rfl (Nat.le_of_ble_eq_true rfl) ?_
  intro p e s m below meth c S hr hlk hnm hK hW ls hl
  have hl : lv_has ls 1 [(0, .ref (ad 87))] := hl
  obtain ⟨hx, hb, hml, hown, hts⟩ := id S
  have in_kM : ∀ w ∈ u_ws R_M T_M 21, w ∈ ws_M_length := fun w h => List.mem_cons_of_mem _ (in0_M w h)
  refine lv_aload_n hx hb d_M_length_0 rfl (lv_at hl 0 rfl) ?_
  refine hp_get S hK hW (87) (by omega) rfl hR.1 rfl in_kM 11 (by decide) (hts _ (List.mem_cons_of_mem _ tq_107)) rfl d_M_length_1 ?_
  refine lv_if_ne (tgt := 14) hx hb d_M_length_4 (by decide) (fun c_4 => ?_) (fun c_4 => absurd c_4 (show ¬ ((nI (k :: st1).length) : Int32) = 0 from nI_ne0 (by rw [List.length_cons]; omega) (by omega)))
  refine lv_aload_n hx hb d_M_length_14 rfl (lv_at hl 0 rfl) ?_
  refine hp_get S hK hW (87) (by omega) rfl hR.1 rfl in_kM 4 (by decide) (hts _ (List.mem_cons_of_mem _ tq_100)) rfl d_M_length_15 ?_
  refine lv_aload_n hx hb d_M_length_18 rfl (lv_at hl 0 rfl) ?_
  refine hp_get S hK hW (87) (by omega) rfl hR.1 rfl in_kM 12 (by decide) (hts _ (List.mem_cons_of_mem _ tq_108)) rfl d_M_length_19 ?_
  refine lv_aload_n hx hb d_M_length_22 rfl (lv_at hl 0 rfl) ?_
  refine hp_get S hK hW (87) (by omega) rfl hR.1 rfl in_kM 11 (by decide) (hts _ (List.mem_cons_of_mem _ tq_107)) rfl d_M_length_23 ?_
  refine hp_iald S hK hW (93) (by omega) rfl hR.2.2.2.2.2.2.1 (vp_in_nI (by omega) (by omega)) d_M_length_26 ?_
  rw [show (ey ((nI (k :: st1).length) : Int32).toNatClampNeg) = (nI k) from (by rw [nI_clamp (by omega)]; exact hKs.2.1 0 (by rw [List.length_cons]; omega))]
  refine hp_iald S hK hW (90) (by omega) rfl hR.2.2.2.1 (vp_in_nI hk.1 (by omega)) d_M_length_27 ?_
  rw [show (sz ((nI k) : Int32).toNatClampNeg) = (nI (rt k).length) from (by rw [nI_clamp (by omega)]; exact hTk.1)]
  exact hp_reti S hK hW hr hlk d_M_length_28 (⟨rfl, rfl⟩)

theorem m_length (l : Launch) (g : hp_G) (z0 N : Nat) (ad : Nat → Nat) (F : Nat → va_E) (hN : 96 ≤ N) (tape : List Int32) (kn : Nat → Bool) (rt : Nat → List Int32) (la mm : List Int32) (stk : List Nat) (ap : Nat → Int32) (tc fp me dp fa ou ki nu be : Int32) (hS : mS g ad F tape kn rt la mm stk ap tc fp me dp fa ou ki nu be) : hp_Mi l g z0 N ad y_M_length ws_M_length (rk 0) [.ref (ad 87)] F (fun v F' => v = nI (mC tape rt stk).length ∧ F' = F) := by
  cases stk with
  | nil => exact m_length_0 l g z0 N ad F hN tape kn rt la mm ap tc fp me dp fa ou ki nu be hS
  | cons k st1 => exact m_length_1 l g z0 N ad F hN tape kn rt la mm k st1 ap tc fp me dp fa ou ki nu be hS

set_option maxHeartbeats 400000 in
set_option maxRecDepth 100000 in
theorem m_byteOf_0 (l : Launch) (g : hp_G) (z0 N : Nat) (ad : Nat → Nat) (F : Nat → va_E) (hN : 96 ≤ N) (tape : List Int32) (kn : Nat → Bool) (rt : Nat → List Int32) (la mm : List Int32) (ap : Nat → Int32) (tc fp me dp fa ou ki nu be : Int32) (hS : mS g ad F tape kn rt la mm [] ap tc fp me dp fa ou ki nu be) (q : Nat) (hq : q < 1000000) : hp_Mi l g z0 N ad y_M_byteOf ws_M_byteOf (rk 1) [.ref (ad 87), .int (nI q)] F (fun v F' => v = md_at (mC tape rt ([] : List Nat)) q ∧ F' = F) := by
  obtain ⟨tp, hs, sz, tx, vl, ey, md, hR, ⟨htl, htp⟩, hT, ⟨hll, hvl⟩, hKs, hml0, hmd⟩ := id hS
  refine hp_enter (cc := cc_M_byteOf) (maxL := 2) (ret := (some .int)) (by decide) rfl (Nat.le_of_ble_eq_true rfl) ?_
  intro p e s m below meth c S hr hlk hnm hK hW ls hl
  have hl : lv_has ls 2 [(0, .ref (ad 87)), (1, .int (nI q))] := hl
  obtain ⟨hx, hb, hml, hown, hts⟩ := id S
  have in_kM : ∀ w ∈ u_ws R_M T_M 21, w ∈ ws_M_byteOf := fun w h => List.mem_cons_of_mem _ (in0_M w h)
  refine lv_iload_n hx hb d_M_byteOf_0 rfl (lv_at hl 1 rfl) ?_
  refine lv_aload_n hx hb d_M_byteOf_1 rfl (lv_at hl 0 rfl) ?_
  refine hp_goi hW (va_runV S (m_length l g z0 N ad F hN tape kn rt la mm (([] : List Nat)) ap tc fp me dp fa ou ki nu be hS) (cwV 0 hts (tb_V cd_M_length tq_117 tq_119 tq_120 tq_118) rfl rfl rfl hd_M_length (rk_ok (by omega) (by omega))) (hp_preV hK hW (by omega) rfl hR.1 rfl) rfl rfl hl.1 rfl (lv_room (Nat.le_of_ble_eq_true rfl)) d_M_byteOf_2 ⟨Nat.zero_le _, Nat.zero_le _⟩) (fun r_1 F_2 H locs hw hW => ?_)
  obtain ⟨hvq, hFq⟩ := hw
  rw [hFq] at hW
  rw [hvq]
  rw [show mC tape rt ([] : List Nat) = tape from rfl]
  refine lv_icmp_lt (tgt := 10) hx hb d_M_byteOf_5 (by decide) (fun c_5 => ?_) (fun c_5 => ?_)
  · have c_5i := c_5
    replace c_5 : q < tape.length := (nI_ltI (a := q) (b := tape.length) (by omega) (by omega)).mp c_5
    refine lv_aload_n hx hb d_M_byteOf_10 rfl (lv_at hl 0 rfl) ?_
    refine hp_get S hK hW (87) (by omega) rfl hR.1 rfl in_kM 11 (by decide) (hts _ (List.mem_cons_of_mem _ tq_107)) rfl d_M_byteOf_11 ?_
    refine lv_if_ne (tgt := 26) hx hb d_M_byteOf_14 (by decide) (fun c_14 => absurd c_14 (show ¬ (¬ ((nI (([] : List Nat)).length) : Int32) = 0) from fun h => h rfl)) (fun c_14 => ?_)
    refine lv_aload_n hx hb d_M_byteOf_17 rfl (lv_at hl 0 rfl) ?_
    refine hp_get S hK hW (87) (by omega) rfl hR.1 rfl in_kM 1 (by decide) (hts _ (List.mem_cons_of_mem _ tq_97)) rfl d_M_byteOf_18 ?_
    refine lv_iload_n hx hb d_M_byteOf_21 rfl (lv_at hl 1 rfl) ?_
    refine hp_iald S hK hW (88) (by omega) rfl hR.2.1 (vp_in_nI (by omega) (by omega)) d_M_byteOf_22 ?_
    rw [show (tp ((nI q) : Int32).toNatClampNeg) = (md_at tape q) from (by rw [nI_clamp (by omega)]; have := htp q (by omega); rwa [Nat.zero_add] at this)]
    refine lv_goto (tgt := 45) hx hb d_M_byteOf_23 (by decide) ?_
    exact hp_reti S hK hW hr hlk d_M_byteOf_45 (⟨rfl, rfl⟩)
  · have c_5i := c_5
    replace c_5 : ¬ q < tape.length := fun zz9 => c_5 ((nI_ltI (a := q) (b := tape.length) (by omega) (by omega)).mpr zz9)
    refine lv_iconst (v := (-1)) hx hb d_M_byteOf_8 (by decide) ?_
    exact hp_reti S hK hW hr hlk d_M_byteOf_9 (⟨(md_at_ge (by omega)).symm, rfl⟩)

set_option maxHeartbeats 400000 in
set_option maxRecDepth 100000 in
theorem m_byteOf_1 (l : Launch) (g : hp_G) (z0 N : Nat) (ad : Nat → Nat) (F : Nat → va_E) (hN : 96 ≤ N) (tape : List Int32) (kn : Nat → Bool) (rt : Nat → List Int32) (la mm : List Int32) (k : Nat) (st1 : List Nat) (ap : Nat → Int32) (tc fp me dp fa ou ki nu be : Int32) (hS : mS g ad F tape kn rt la mm (k :: st1) ap tc fp me dp fa ou ki nu be) (q : Nat) (hq : q < 1000000) : hp_Mi l g z0 N ad y_M_byteOf ws_M_byteOf (rk 1) [.ref (ad 87), .int (nI q)] F (fun v F' => v = md_at (mC tape rt (k :: st1)) q ∧ F' = F) := by
  obtain ⟨tp, hs, sz, tx, vl, ey, md, hR, ⟨htl, htp⟩, hT, ⟨hll, hvl⟩, hKs, hml0, hmd⟩ := id hS
  have hk := hKs.2.2 k List.mem_cons_self
  have hk26 := hKs.1
  have hTk := (hT k hk.1).2 hk.2
  have hkl := hTk.2.1
  have hk1 := hk.1
  refine hp_enter (cc := cc_M_byteOf) (maxL := 2) (ret := (some .int)) (by decide) rfl (Nat.le_of_ble_eq_true rfl) ?_
  intro p e s m below meth c S hr hlk hnm hK hW ls hl
  have hl : lv_has ls 2 [(0, .ref (ad 87)), (1, .int (nI q))] := hl
  obtain ⟨hx, hb, hml, hown, hts⟩ := id S
  have in_kM : ∀ w ∈ u_ws R_M T_M 21, w ∈ ws_M_byteOf := fun w h => List.mem_cons_of_mem _ (in0_M w h)
  refine lv_iload_n hx hb d_M_byteOf_0 rfl (lv_at hl 1 rfl) ?_
  refine lv_aload_n hx hb d_M_byteOf_1 rfl (lv_at hl 0 rfl) ?_
  refine hp_goi hW (va_runV S (m_length l g z0 N ad F hN tape kn rt la mm (k :: st1) ap tc fp me dp fa ou ki nu be hS) (cwV 0 hts (tb_V cd_M_length tq_117 tq_119 tq_120 tq_118) rfl rfl rfl hd_M_length (rk_ok (by omega) (by omega))) (hp_preV hK hW (by omega) rfl hR.1 rfl) rfl rfl hl.1 rfl (lv_room (Nat.le_of_ble_eq_true rfl)) d_M_byteOf_2 ⟨Nat.zero_le _, Nat.zero_le _⟩) (fun r_1 F_2 H locs hw hW => ?_)
  obtain ⟨hvq, hFq⟩ := hw
  rw [hFq] at hW
  rw [hvq]
  rw [show mC tape rt (k :: st1) = (rt k) from rfl]
  refine lv_icmp_lt (tgt := 10) hx hb d_M_byteOf_5 (by decide) (fun c_5 => ?_) (fun c_5 => ?_)
  · have c_5i := c_5
    replace c_5 : q < (rt k).length := (nI_ltI (a := q) (b := (rt k).length) (by omega) (by omega)).mp c_5
    refine lv_aload_n hx hb d_M_byteOf_10 rfl (lv_at hl 0 rfl) ?_
    refine hp_get S hK hW (87) (by omega) rfl hR.1 rfl in_kM 11 (by decide) (hts _ (List.mem_cons_of_mem _ tq_107)) rfl d_M_byteOf_11 ?_
    refine lv_if_ne (tgt := 26) hx hb d_M_byteOf_14 (by decide) (fun c_14 => ?_) (fun c_14 => absurd c_14 (show ¬ ((nI (k :: st1).length) : Int32) = 0 from nI_ne0 (by rw [List.length_cons]; omega) (by omega)))
    refine lv_aload_n hx hb d_M_byteOf_26 rfl (lv_at hl 0 rfl) ?_
    refine hp_get S hK hW (87) (by omega) rfl hR.1 rfl in_kM 5 (by decide) (hts _ (List.mem_cons_of_mem _ tq_101)) rfl d_M_byteOf_27 ?_
    refine lv_bipush (v := 100) hx hb d_M_byteOf_30 (by decide) ?_
    refine lv_aload_n hx hb d_M_byteOf_32 rfl (lv_at hl 0 rfl) ?_
    refine hp_get S hK hW (87) (by omega) rfl hR.1 rfl in_kM 12 (by decide) (hts _ (List.mem_cons_of_mem _ tq_108)) rfl d_M_byteOf_33 ?_
    refine lv_aload_n hx hb d_M_byteOf_36 rfl (lv_at hl 0 rfl) ?_
    refine hp_get S hK hW (87) (by omega) rfl hR.1 rfl in_kM 11 (by decide) (hts _ (List.mem_cons_of_mem _ tq_107)) rfl d_M_byteOf_37 ?_
    refine hp_iald S hK hW (93) (by omega) rfl hR.2.2.2.2.2.2.1 (vp_in_nI (by omega) (by omega)) d_M_byteOf_40 ?_
    rw [show (ey ((nI (k :: st1).length) : Int32).toNatClampNeg) = (nI k) from (by rw [nI_clamp (by omega)]; exact hKs.2.1 0 (by rw [List.length_cons]; omega))]
    refine lv_imul hx hb d_M_byteOf_41 ?_
    rw [show (100 * (nI k)) = (nI (100 * k)) from pk_mul 100 k]
    refine lv_iload_n hx hb d_M_byteOf_42 rfl (lv_at hl 1 rfl) ?_
    refine lv_iadd hx hb d_M_byteOf_43 ?_
    rw [show ((nI (100 * k)) + (nI q)) = (nI (100 * k + q)) from nI_add _ _]
    refine hp_iald S hK hW (91) (by omega) rfl hR.2.2.2.2.1 (vp_in_nI (by omega) (by omega)) d_M_byteOf_44 ?_
    rw [show (tx ((nI (100 * k + q)) : Int32).toNatClampNeg) = (md_at (rt k) q) from (by rw [nI_clamp (by omega)]; exact hTk.2.2 q (by omega))]
    exact hp_reti S hK hW hr hlk d_M_byteOf_45 (⟨rfl, rfl⟩)
  · have c_5i := c_5
    replace c_5 : ¬ q < (rt k).length := fun zz9 => c_5 ((nI_ltI (a := q) (b := (rt k).length) (by omega) (by omega)).mpr zz9)
    refine lv_iconst (v := (-1)) hx hb d_M_byteOf_8 (by decide) ?_
    exact hp_reti S hK hW hr hlk d_M_byteOf_9 (⟨(md_at_ge (by omega)).symm, rfl⟩)

theorem m_byteOf (l : Launch) (g : hp_G) (z0 N : Nat) (ad : Nat → Nat) (F : Nat → va_E) (hN : 96 ≤ N) (tape : List Int32) (kn : Nat → Bool) (rt : Nat → List Int32) (la mm : List Int32) (stk : List Nat) (ap : Nat → Int32) (tc fp me dp fa ou ki nu be : Int32) (hS : mS g ad F tape kn rt la mm stk ap tc fp me dp fa ou ki nu be) (q : Nat) (hq : q < 1000000) : hp_Mi l g z0 N ad y_M_byteOf ws_M_byteOf (rk 1) [.ref (ad 87), .int (nI q)] F (fun v F' => v = md_at (mC tape rt stk) q ∧ F' = F) := by
  cases stk with
  | nil => exact m_byteOf_0 l g z0 N ad F hN tape kn rt la mm ap tc fp me dp fa ou ki nu be hS q hq
  | cons k st1 => exact m_byteOf_1 l g z0 N ad F hN tape kn rt la mm k st1 ap tc fp me dp fa ou ki nu be hS q hq

/-! the reference: fails -/
set_option maxHeartbeats 400000 in
set_option maxRecDepth 100000 in
theorem m_fails (l : Launch) (g : hp_G) (z0 N : Nat) (ad : Nat → Nat) (F : Nat → va_E) (hN : 96 ≤ N) (tape : List Int32) (kn : Nat → Bool) (rt : Nat → List Int32) (la mm : List Int32) (stk : List Nat) (ap : Nat → Int32) (tc fp me dp fa ou ki nu be : Int32) (hS : mS g ad F tape kn rt la mm stk ap tc fp me dp fa ou ki nu be) (f a : Int32) : hp_Mv l g z0 N ad y_M_fails ws_M_fails (rk 0) [.ref (ad 87), .int f, .int a] F (fun F' => mS g ad F' tape kn rt la mm stk ap tc (if stk.length = 0 then a else ou) me dp f ou ki nu be ∧ mFr F F') := by
  have hsl := (show stk.length ≤ 26 from by obtain ⟨tp, hs, sz, tx, vl, ey, md, hR, hA, hT, hB, hKs, hC⟩ := id hS; exact hKs.1)
  obtain ⟨tp, hs, sz, tx, vl, ey, md, hR, ⟨htl, htp⟩, hT, ⟨hll, hvl⟩, hKs, hml0, hmd⟩ := id hS
  refine hp_enter (cc := cc_M_fails) (maxL := 3) (ret := none) (by decide) rfl (Nat.le_of_ble_eq_true rfl) ?_
  intro p e s m below meth c S hr hlk hnm hK hW ls hl
  have hl : lv_has ls 3 [(0, .ref (ad 87)), (1, .int f), (2, .int a)] := hl
  obtain ⟨hx, hb, hml, hown, hts⟩ := id S
  have in_kM : ∀ w ∈ u_ws R_M T_M 21, w ∈ ws_M_fails := fun w h => List.mem_cons_of_mem _ (in0_M w h)
  refine lv_aload_n hx hb d_M_fails_0 rfl (lv_at hl 0 rfl) ?_
  refine lv_iload_n hx hb d_M_fails_1 rfl (lv_at hl 1 rfl) ?_
  refine hp_put S hK hW (87) (by omega) rfl hR.1 rfl in_kM tyok_M nm_M 14 (by decide) (hts _ (List.mem_cons_of_mem _ tq_110)) rfl rfl rfl (Nat.le_of_ble_eq_true rfl) d_M_fails_2 (fun H locs hW => ?_)
  obtain ⟨F_1, eF_1⟩ : ∃ z, z = va_up F (87) (.inr (kM, [.int tc, .ref (ad 88), .int (nI tape.length), .ref (ad 89), .ref (ad 90), .ref (ad 91), .ref (ad 92), .int (nI la.length), .int fp, .int me, .int dp, .int (nI stk.length), .ref (ad 93), .ref (ad 94), .int f, .int ou, .int ki, .int nu, .int be, .ref (ad 95), .int (nI mm.length)])) := ⟨_, rfl⟩
  replace hW : hp_W g z0 N ad F_1 s.heap H locs := by rw [eF_1]; exact hW
  have f_2 : F_1 (87) = .inr (kM, [.int tc, .ref (ad 88), .int (nI tape.length), .ref (ad 89), .ref (ad 90), .ref (ad 91), .ref (ad 92), .int (nI la.length), .int fp, .int me, .int dp, .int (nI stk.length), .ref (ad 93), .ref (ad 94), .int f, .int ou, .int ki, .int nu, .int be, .ref (ad 95), .int (nI mm.length)]) := by rw [eF_1, va_up_self]
  have f_3 : F_1 (88) = .inl (g.2 0, 200, .inl tp) := by rw [eF_1, va_up_ne _ _ (by omega)]; exact hR.2.1
  have f_4 : F_1 (89) = .inl (g.2 2, 26, .inl hs) := by rw [eF_1, va_up_ne _ _ (by omega)]; exact hR.2.2.1
  have f_5 : F_1 (90) = .inl (g.2 0, 26, .inl sz) := by rw [eF_1, va_up_ne _ _ (by omega)]; exact hR.2.2.2.1
  have f_6 : F_1 (91) = .inl (g.2 0, 2600, .inl tx) := by rw [eF_1, va_up_ne _ _ (by omega)]; exact hR.2.2.2.2.1
  have f_7 : F_1 (92) = .inl (g.2 0, 301, .inl vl) := by rw [eF_1, va_up_ne _ _ (by omega)]; exact hR.2.2.2.2.2.1
  have f_8 : F_1 (93) = .inl (g.2 0, 28, .inl ey) := by rw [eF_1, va_up_ne _ _ (by omega)]; exact hR.2.2.2.2.2.2.1
  have f_9 : F_1 (94) = .inl (g.2 0, 28, .inl ap) := by rw [eF_1, va_up_ne _ _ (by omega)]; exact hR.2.2.2.2.2.2.2.1
  have f_10 : F_1 (95) = .inl (g.2 0, 204, .inl md) := by rw [eF_1, va_up_ne _ _ (by omega)]; exact hR.2.2.2.2.2.2.2.2
  have hf_11 : mFr F F_1 := fun x hx => by rw [eF_1, va_up_ne _ _ (by omega)]
  refine lv_aload_n hx hb d_M_fails_5 rfl (lv_at hl 0 rfl) ?_
  refine lv_aload_n hx hb d_M_fails_6 rfl (lv_at hl 0 rfl) ?_
  refine hp_get S hK hW (87) (by omega) rfl f_2 rfl in_kM 11 (by decide) (hts _ (List.mem_cons_of_mem _ tq_107)) rfl d_M_fails_7 ?_
  refine lv_if_ne (tgt := 17) hx hb d_M_fails_10 (by decide) (fun c_10 => ?_) (fun c_10 => ?_)
  · have c_10i := c_10
    replace c_10 : ¬ stk.length = 0 := fun zz9 => c_10 ((nI_eq (a := stk.length) (b := 0) (by omega) (by omega)).mpr zz9)
    refine lv_aload_n hx hb d_M_fails_17 rfl (lv_at hl 0 rfl) ?_
    refine hp_get S hK hW (87) (by omega) rfl f_2 rfl in_kM 15 (by decide) (hts _ (List.mem_cons_of_mem _ tq_111)) rfl d_M_fails_18 ?_
    refine hp_put S hK hW (87) (by omega) rfl f_2 rfl in_kM tyok_M nm_M 8 (by decide) (hts _ (List.mem_cons_of_mem _ tq_104)) rfl rfl rfl (Nat.le_of_ble_eq_true rfl) d_M_fails_21 (fun H locs hW => ?_)
    obtain ⟨F_12, eF_12⟩ : ∃ z, z = va_up F_1 (87) (.inr (kM, [.int tc, .ref (ad 88), .int (nI tape.length), .ref (ad 89), .ref (ad 90), .ref (ad 91), .ref (ad 92), .int (nI la.length), .int ou, .int me, .int dp, .int (nI stk.length), .ref (ad 93), .ref (ad 94), .int f, .int ou, .int ki, .int nu, .int be, .ref (ad 95), .int (nI mm.length)])) := ⟨_, rfl⟩
    replace hW : hp_W g z0 N ad F_12 s.heap H locs := by rw [eF_12]; exact hW
    have f_13 : F_12 (87) = .inr (kM, [.int tc, .ref (ad 88), .int (nI tape.length), .ref (ad 89), .ref (ad 90), .ref (ad 91), .ref (ad 92), .int (nI la.length), .int ou, .int me, .int dp, .int (nI stk.length), .ref (ad 93), .ref (ad 94), .int f, .int ou, .int ki, .int nu, .int be, .ref (ad 95), .int (nI mm.length)]) := by rw [eF_12, va_up_self]
    have f_14 : F_12 (88) = .inl (g.2 0, 200, .inl tp) := by rw [eF_12, va_up_ne _ _ (by omega)]; exact f_3
    have f_15 : F_12 (89) = .inl (g.2 2, 26, .inl hs) := by rw [eF_12, va_up_ne _ _ (by omega)]; exact f_4
    have f_16 : F_12 (90) = .inl (g.2 0, 26, .inl sz) := by rw [eF_12, va_up_ne _ _ (by omega)]; exact f_5
    have f_17 : F_12 (91) = .inl (g.2 0, 2600, .inl tx) := by rw [eF_12, va_up_ne _ _ (by omega)]; exact f_6
    have f_18 : F_12 (92) = .inl (g.2 0, 301, .inl vl) := by rw [eF_12, va_up_ne _ _ (by omega)]; exact f_7
    have f_19 : F_12 (93) = .inl (g.2 0, 28, .inl ey) := by rw [eF_12, va_up_ne _ _ (by omega)]; exact f_8
    have f_20 : F_12 (94) = .inl (g.2 0, 28, .inl ap) := by rw [eF_12, va_up_ne _ _ (by omega)]; exact f_9
    have f_21 : F_12 (95) = .inl (g.2 0, 204, .inl md) := by rw [eF_12, va_up_ne _ _ (by omega)]; exact f_10
    have hf_22 : mFr F_1 F_12 := fun x hx => by rw [eF_12, va_up_ne _ _ (by omega)]
    exact hp_retv S hK hW hr hlk d_M_fails_24 (by rw [if_neg c_10]; exact ⟨⟨tp, hs, sz, tx, vl, ey, md, ⟨f_13, f_14, f_15, f_16, f_17, f_18, f_19, f_20, f_21⟩, ⟨htl, htp⟩, hT, ⟨hll, hvl⟩, hKs, hml0, hmd⟩, (hf_11.tr hf_22)⟩)
  · have c_10i := c_10
    replace c_10 : stk.length = 0 := (nI_eq (a := stk.length) (b := 0) (by omega) (by omega)).mp c_10
    refine lv_iload_n hx hb d_M_fails_13 rfl (lv_at hl 2 rfl) ?_
    refine lv_goto (tgt := 21) hx hb d_M_fails_14 (by decide) ?_
    refine hp_put S hK hW (87) (by omega) rfl f_2 rfl in_kM tyok_M nm_M 8 (by decide) (hts _ (List.mem_cons_of_mem _ tq_104)) rfl rfl rfl (Nat.le_of_ble_eq_true rfl) d_M_fails_21 (fun H locs hW => ?_)
    obtain ⟨F_23, eF_23⟩ : ∃ z, z = va_up F_1 (87) (.inr (kM, [.int tc, .ref (ad 88), .int (nI tape.length), .ref (ad 89), .ref (ad 90), .ref (ad 91), .ref (ad 92), .int (nI la.length), .int a, .int me, .int dp, .int (nI stk.length), .ref (ad 93), .ref (ad 94), .int f, .int ou, .int ki, .int nu, .int be, .ref (ad 95), .int (nI mm.length)])) := ⟨_, rfl⟩
    replace hW : hp_W g z0 N ad F_23 s.heap H locs := by rw [eF_23]; exact hW
    have f_24 : F_23 (87) = .inr (kM, [.int tc, .ref (ad 88), .int (nI tape.length), .ref (ad 89), .ref (ad 90), .ref (ad 91), .ref (ad 92), .int (nI la.length), .int a, .int me, .int dp, .int (nI stk.length), .ref (ad 93), .ref (ad 94), .int f, .int ou, .int ki, .int nu, .int be, .ref (ad 95), .int (nI mm.length)]) := by rw [eF_23, va_up_self]
    have f_25 : F_23 (88) = .inl (g.2 0, 200, .inl tp) := by rw [eF_23, va_up_ne _ _ (by omega)]; exact f_3
    have f_26 : F_23 (89) = .inl (g.2 2, 26, .inl hs) := by rw [eF_23, va_up_ne _ _ (by omega)]; exact f_4
    have f_27 : F_23 (90) = .inl (g.2 0, 26, .inl sz) := by rw [eF_23, va_up_ne _ _ (by omega)]; exact f_5
    have f_28 : F_23 (91) = .inl (g.2 0, 2600, .inl tx) := by rw [eF_23, va_up_ne _ _ (by omega)]; exact f_6
    have f_29 : F_23 (92) = .inl (g.2 0, 301, .inl vl) := by rw [eF_23, va_up_ne _ _ (by omega)]; exact f_7
    have f_30 : F_23 (93) = .inl (g.2 0, 28, .inl ey) := by rw [eF_23, va_up_ne _ _ (by omega)]; exact f_8
    have f_31 : F_23 (94) = .inl (g.2 0, 28, .inl ap) := by rw [eF_23, va_up_ne _ _ (by omega)]; exact f_9
    have f_32 : F_23 (95) = .inl (g.2 0, 204, .inl md) := by rw [eF_23, va_up_ne _ _ (by omega)]; exact f_10
    have hf_33 : mFr F_1 F_23 := fun x hx => by rw [eF_23, va_up_ne _ _ (by omega)]
    exact hp_retv S hK hW hr hlk d_M_fails_24 (by rw [if_pos c_10]; exact ⟨⟨tp, hs, sz, tx, vl, ey, md, ⟨f_24, f_25, f_26, f_27, f_28, f_29, f_30, f_31, f_32⟩, ⟨htl, htp⟩, hT, ⟨hll, hvl⟩, hKs, hml0, hmd⟩, (hf_11.tr hf_33)⟩)

/-! the reference: stops -/
set_option maxHeartbeats 400000 in
set_option maxRecDepth 100000 in
theorem m_stops (l : Launch) (g : hp_G) (z0 N : Nat) (ad : Nat → Nat) (F : Nat → va_E) (hN : 96 ≤ N) (tape : List Int32) (kn : Nat → Bool) (rt : Nat → List Int32) (la mm : List Int32) (stk : List Nat) (ap : Nat → Int32) (tc fp me dp fa ou ki nu be : Int32) (hS : mS g ad F tape kn rt la mm stk ap tc fp me dp fa ou ki nu be) (q : Nat) (hq : q < 1000000) (hxl : (mC tape rt stk).length < 1000000) : hp_Mv l g z0 N ad y_M_stops ws_M_stops (rk 1) [.ref (ad 87), .int (nI q)] F (fun F' => mS g ad F' tape kn rt la mm stk ap tc (if stk.length = 0 then (nI q) else ou) me dp (nI (if stk.length = 0 ∨ q < (mC tape rt stk).length then 1 else 7)) ou ki nu be ∧ mFr F F') := by
  have hsl := (show stk.length ≤ 26 from by obtain ⟨tp, hs, sz, tx, vl, ey, md, hR, hA, hT, hB, hKs, hC⟩ := id hS; exact hKs.1)
  obtain ⟨tp, hs, sz, tx, vl, ey, md, hR, ⟨htl, htp⟩, hT, ⟨hll, hvl⟩, hKs, hml0, hmd⟩ := id hS
  refine hp_enter (cc := cc_M_stops) (maxL := 2) (ret := none) (by decide) rfl (Nat.le_of_ble_eq_true rfl) ?_
  intro p e s m below meth c S hr hlk hnm hK hW ls hl
  have hl : lv_has ls 2 [(0, .ref (ad 87)), (1, .int (nI q))] := hl
  obtain ⟨hx, hb, hml, hown, hts⟩ := id S
  have in_kM : ∀ w ∈ u_ws R_M T_M 21, w ∈ ws_M_stops := fun w h => List.mem_cons_of_mem _ (in0_M w h)
  refine lv_aload_n hx hb d_M_stops_0 rfl (lv_at hl 0 rfl) ?_
  refine lv_aload_n hx hb d_M_stops_1 rfl (lv_at hl 0 rfl) ?_
  refine hp_get S hK hW (87) (by omega) rfl hR.1 rfl in_kM 11 (by decide) (hts _ (List.mem_cons_of_mem _ tq_107)) rfl d_M_stops_2 ?_
  refine lv_if_le (tgt := 21) hx hb d_M_stops_5 (by decide) (fun c_5 => ?_) (fun c_5 => ?_)
  · have c_5i := c_5
    replace c_5 : stk.length ≤ 0 := (nI_leI (a := stk.length) (b := 0) (by omega) (by omega)).mp c_5
    refine lv_iconst (v := 1) hx hb d_M_stops_21 (by decide) ?_
    refine lv_iload_n hx hb d_M_stops_22 rfl (lv_at hl 1 rfl) ?_
    refine hp_gov hW (va_runV S (m_fails l g z0 N ad F hN tape kn rt la mm stk ap tc fp me dp fa ou ki nu be hS 1 (nI q)) (cwV 2 hts (tb_V cd_M_fails tq_121 tq_122 tq_123 tq_118) rfl rfl rfl hd_M_fails (rk_ok (by omega) (by omega))) (hp_preV hK hW (by omega) rfl hR.1 rfl) rfl rfl hl.1 rfl (lv_room (Nat.le_of_ble_eq_true rfl)) d_M_stops_23 ⟨Nat.zero_le _, Nat.zero_le _⟩) (fun F_2 H locs hw hW => ?_)
    obtain ⟨hS1, hg1⟩ := hw
    obtain ⟨tp, hs, sz, tx, vl, ey, md, hR, ⟨htl, htp⟩, hT, ⟨hll, hvl⟩, hKs, hml0, hmd⟩ := id hS1
    exact hp_retv S hK hW hr hlk d_M_stops_26 (by rw [show (if stk.length = 0 ∨ q < (mC tape rt stk).length then (1 : Nat) else 7) = 1 from if_pos (by omega)]; exact ⟨hS1, hg1⟩)
  · have c_5i := c_5
    replace c_5 : ¬ stk.length ≤ 0 := fun zz9 => c_5 ((nI_leI (a := stk.length) (b := 0) (by omega) (by omega)).mpr zz9)
    refine lv_iload_n hx hb d_M_stops_8 rfl (lv_at hl 1 rfl) ?_
    refine lv_aload_n hx hb d_M_stops_9 rfl (lv_at hl 0 rfl) ?_
    refine hp_goi hW (va_runV S (m_length l g z0 N ad F hN tape kn rt la mm stk ap tc fp me dp fa ou ki nu be hS) (cwV 0 hts (tb_V cd_M_length tq_117 tq_119 tq_120 tq_118) rfl rfl rfl hd_M_length (rk_ok (by omega) (by omega))) (hp_preV hK hW (by omega) rfl hR.1 rfl) rfl rfl hl.1 rfl (lv_room (Nat.le_of_ble_eq_true rfl)) d_M_stops_10 ⟨Nat.zero_le _, Nat.zero_le _⟩) (fun r_3 F_4 H locs hw hW => ?_)
    obtain ⟨hvq, hFq⟩ := hw
    rw [hFq] at hW
    rw [hvq]
    refine lv_icmp_lt (tgt := 21) hx hb d_M_stops_13 (by decide) (fun c_13 => ?_) (fun c_13 => ?_)
    · have c_13i := c_13
      replace c_13 : q < (mC tape rt stk).length := (nI_ltI (a := q) (b := (mC tape rt stk).length) (by omega) (by omega)).mp c_13
      refine lv_iconst (v := 1) hx hb d_M_stops_21 (by decide) ?_
      refine lv_iload_n hx hb d_M_stops_22 rfl (lv_at hl 1 rfl) ?_
      refine hp_gov hW (va_runV S (m_fails l g z0 N ad F hN tape kn rt la mm stk ap tc fp me dp fa ou ki nu be hS 1 (nI q)) (cwV 2 hts (tb_V cd_M_fails tq_121 tq_122 tq_123 tq_118) rfl rfl rfl hd_M_fails (rk_ok (by omega) (by omega))) (hp_preV hK hW (by omega) rfl hR.1 rfl) rfl rfl hl.1 rfl (lv_room (Nat.le_of_ble_eq_true rfl)) d_M_stops_23 ⟨Nat.zero_le _, Nat.zero_le _⟩) (fun F_6 H locs hw hW => ?_)
      obtain ⟨hS1, hg1⟩ := hw
      obtain ⟨tp, hs, sz, tx, vl, ey, md, hR, ⟨htl, htp⟩, hT, ⟨hll, hvl⟩, hKs, hml0, hmd⟩ := id hS1
      exact hp_retv S hK hW hr hlk d_M_stops_26 (by rw [show (if stk.length = 0 ∨ q < (mC tape rt stk).length then (1 : Nat) else 7) = 1 from if_pos (by omega)]; exact ⟨hS1, hg1⟩)
    · have c_13i := c_13
      replace c_13 : ¬ q < (mC tape rt stk).length := fun zz9 => c_13 ((nI_ltI (a := q) (b := (mC tape rt stk).length) (by omega) (by omega)).mpr zz9)
      refine lv_bipush (v := 7) hx hb d_M_stops_16 (by decide) ?_
      refine lv_goto (tgt := 22) hx hb d_M_stops_18 (by decide) ?_
      refine lv_iload_n hx hb d_M_stops_22 rfl (lv_at hl 1 rfl) ?_
      refine hp_gov hW (va_runV S (m_fails l g z0 N ad F hN tape kn rt la mm stk ap tc fp me dp fa ou ki nu be hS 7 (nI q)) (cwV 2 hts (tb_V cd_M_fails tq_121 tq_122 tq_123 tq_118) rfl rfl rfl hd_M_fails (rk_ok (by omega) (by omega))) (hp_preV hK hW (by omega) rfl hR.1 rfl) rfl rfl hl.1 rfl (lv_room (Nat.le_of_ble_eq_true rfl)) d_M_stops_23 ⟨Nat.zero_le _, Nat.zero_le _⟩) (fun F_8 H locs hw hW => ?_)
      obtain ⟨hS1, hg1⟩ := hw
      obtain ⟨tp, hs, sz, tx, vl, ey, md, hR, ⟨htl, htp⟩, hT, ⟨hll, hvl⟩, hKs, hml0, hmd⟩ := id hS1
      exact hp_retv S hK hW hr hlk d_M_stops_26 (by rw [show (if stk.length = 0 ∨ q < (mC tape rt stk).length then (1 : Nat) else 7) = 7 from if_neg (by omega)]; exact ⟨hS1, hg1⟩)
