theorem sy_z0 : ((0, 0) : Int × Int).1 ≤ (0 : Int32).toInt ∧ (0 : Int32).toInt ≤ ((0, 0) : Int × Int).2 := ⟨by decide, by decide⟩
theorem sy_stp_ok {bx : sy_B} {ρ : Nat → Int32} (hρ : sy_in bx ρ) {Z : List Int32} {S : List Value} {M : xi_M} {i : Instr} {A B : sy_S} (h : sy_stp bx Z S M i A = some B) : xi_stp Z (S.map (sy_i ρ)) M i (sy_s ρ A) = some (sy_s ρ B) := by
  obtain ⟨pc, L, st, w⟩ := A
  cases i with
  | iconst k => cases h; rfl
  | bipush k => cases h; rfl
  | sipush k => cases h; rfl
  | iload k => exact sy_ldi_ok h
  | iload_n k => exact sy_ldi_ok h
  | aload k => exact sy_lda_ok h
  | aload_n k => exact sy_lda_ok h
  | istore k => exact sy_sti_ok h
  | istore_n k => exact sy_sti_ok h
  | astore k => exact sy_sta_ok h
  | astore_n k => exact sy_sta_ok h
  | iinc k z => exact sy_inc_ok hρ h
  | iadd => exact sy_bin_ok hρ h
  | isub => exact sy_bin_ok hρ h
  | imul => exact sy_bin_ok hρ h
  | iand => exact sy_bin_ok hρ h
  | ior => exact sy_bin_ok hρ h
  | ixor => exact sy_bin_ok hρ h
  | ishl => exact sy_bin_ok hρ h
  | ishr => exact sy_bin_ok hρ h
  | i2l => exact sy_i2l_ok hρ h
  | lcmp => exact sy_lcmp_ok h
  | dup => exact sy_dup_ok h
  | dup2 => exact sy_dup2_ok h
  | pop => exact sy_pop_ok h
  | goto o => exact sy_go1_ok h
  | ifCond cc o =>
    cases cc with
    | eq => exact sy_if1_ok (t := sy_eq) hρ (fun q x b hb hx => sy_eq_ok hb hx sy_z0) h
    | ne => exact sy_if1_ok (t := (fun a b => sy_not (sy_eq a b))) hρ (fun q x b hb hx => sy_ne_ok hb hx sy_z0) h
    | lt => exact sy_if1_ok (t := sy_lt) hρ (fun q x b hb hx => sy_lt_ok hb hx sy_z0) h
    | ge => exact sy_if1_ok (t := (fun a b => sy_le b a)) hρ (fun q x b hb hx => sy_le_ok hb sy_z0 hx) h
    | gt => exact sy_if1_ok (t := (fun a b => sy_lt b a)) hρ (fun q x b hb hx => sy_lt_ok hb sy_z0 hx) h
    | le => exact sy_if1_ok (t := sy_le) hρ (fun q x b hb hx => sy_le_ok hb hx sy_z0) h
  | if_icmp cc o =>
    cases cc with
    | eq => exact sy_if2_ok (t := sy_eq) hρ (fun q r x y b hb hx hy => sy_eq_ok hb hx hy) h
    | ne => exact sy_if2_ok (t := (fun a b => sy_not (sy_eq a b))) hρ (fun q r x y b hb hx hy => sy_ne_ok hb hx hy) h
    | lt => exact sy_if2_ok (t := sy_lt) hρ (fun q r x y b hb hx hy => sy_lt_ok hb hx hy) h
    | ge => exact sy_if2_ok (t := (fun a b => sy_le b a)) hρ (fun q r x y b hb hx hy => sy_le_ok hb hy hx) h
    | gt => exact sy_if2_ok (t := (fun a b => sy_lt b a)) hρ (fun q r x y b hb hx hy => sy_lt_ok hb hy hx) h
    | le => exact sy_if2_ok (t := sy_le) hρ (fun q r x y b hb hx hy => sy_le_ok hb hx hy) h
  | tableswitch d lo hi offs => exact sy_tab_ok hρ h
  | lookupswitch d ps => exact sy_lok_ok hρ h
  | getfield n => exact sy_get_ok h
  | putfield n => exact sy_set_ok h
  | getstatic n => exact sy_gst_ok h
  | iaload => exact sy_iald_ok hρ h
  | baload => exact sy_zald_ok hρ h
  | laload => exact sy_lald_ok hρ h
  | iastore => exact sy_iast_ok hρ h
  | bastore => exact sy_zast_ok hρ h
  | lastore => exact sy_last_ok hρ h
  | arraylength => exact sy_alen_ok h
  | new n => exact sy_new_ok h
  | newarray t => exact sy_newa_ok hρ h
  | invokespecial n =>
    have h1 := sy_oin_ok (ρ := ρ) (show sy_oin (xi_ob M n && L.length == M.2.2.1) pc L st w = some B from h)
    show xi_oin (xi_ob M n && (sy_L ρ L).length == M.2.2.1) pc (sy_L ρ L) (st.map (sy_v ρ)) (w.map (sy_e ρ)) = _
    rw [sy_Llen]
    exact h1
  | _ => exact nomatch (show (none : Option sy_S) = some B from h)
