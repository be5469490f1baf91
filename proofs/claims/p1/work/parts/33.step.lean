/-! Every step of the interpreter is a step of the machine. -/
theorem xi_stp_ok {Y : xi_Y} {d n : Nat} {M : xi_M} (hM : xi_ml[n]? = some M) {i : Instr} {len : Nat} {A B : xi_S} (hd : decode M.2.1 A.1 = .ok (i, len)) (hlen : xi_sw i = true ∨ xi_len i = len) (h : xi_stp Y.2.2.2.2.2.1 Y.2.2.2.2.2.2.1 M i A = some B) : xi_To Y d n A B := by
  obtain ⟨pc, L, st, w⟩ := A
  dsimp only at hd
  cases i with
  | tableswitch dd lo hi offs => exact xi_tab_ok hM hd h
  | lookupswitch dd ps => exact xi_lok_ok hM hd h
  | iconst k =>
    rcases hlen with hlen | rfl
    · cases hlen
    · cases h; exact xi_row hM fun ls hl p l e R s m args below meth c H locs cells slots Q hx hb k => lv_iconst hx hb hd rfl k
  | bipush k =>
    rcases hlen with hlen | rfl
    · cases hlen
    · cases h; exact xi_row hM fun ls hl p l e R s m args below meth c H locs cells slots Q hx hb k => lv_bipush hx hb hd rfl k
  | sipush k =>
    rcases hlen with hlen | rfl
    · cases hlen
    · cases h; exact xi_row hM fun ls hl p l e R s m args below meth c H locs cells slots Q hx hb k => lv_sipush hx hb hd rfl k
  | iload k =>
    rcases hlen with hlen | rfl
    · cases hlen
    · exact xi_ldi_ok hM (fun ls rest x hl p l e R s m args below meth c H locs cells slots Q hx hb k => lv_iload hx hb hd hl k) h
  | iload_n k =>
    rcases hlen with hlen | rfl
    · cases hlen
    · exact xi_ldi_ok hM (fun ls rest x hl p l e R s m args below meth c H locs cells slots Q hx hb k => lv_iload_n hx hb hd rfl hl k) h
  | aload k =>
    rcases hlen with hlen | rfl
    · cases hlen
    · exact xi_lda_ok hM (fun ls rest x hl p l e R s m args below meth c H locs cells slots Q hx hb k => lv_aload hx hb hd hl k) h
  | aload_n k =>
    rcases hlen with hlen | rfl
    · cases hlen
    · exact xi_lda_ok hM (fun ls rest x hl p l e R s m args below meth c H locs cells slots Q hx hb k => lv_aload_n hx hb hd rfl hl k) h
  | istore k =>
    rcases hlen with hlen | rfl
    · cases hlen
    · exact xi_sti_ok hM (fun x p l e R s m args below meth c H locs cells slots Q ls rest hx hb hl hk kk => lv_istore hx hb hd hl hk rfl kk) h
  | istore_n k =>
    rcases hlen with hlen | rfl
    · cases hlen
    · exact xi_sti_ok hM (fun x p l e R s m args below meth c H locs cells slots Q ls rest hx hb hl hk kk => lv_istore_n hx hb hd rfl hl hk rfl kk) h
  | astore k =>
    rcases hlen with hlen | rfl
    · cases hlen
    · exact xi_sta_ok hM (fun x p l e R s m args below meth c H locs cells slots Q ls rest hx hb hl hk kk => lv_astore hx hb hd hl hk rfl kk) h
  | astore_n k =>
    rcases hlen with hlen | rfl
    · cases hlen
    · exact xi_sta_ok hM (fun x p l e R s m args below meth c H locs cells slots Q ls rest hx hb hl hk kk => lv_astore_n hx hb hd rfl hl hk rfl kk) h
  | iinc k z =>
    rcases hlen with hlen | rfl
    · cases hlen
    · exact xi_inc_ok hM hd h
  | iadd =>
    rcases hlen with hlen | rfl
    · cases hlen
    · exact xi_bin_ok hM (fun ls rest x y p l e R s m args below meth c H locs cells slots Q hx hb k => lv_iadd hx hb hd k) h
  | isub =>
    rcases hlen with hlen | rfl
    · cases hlen
    · exact xi_bin_ok hM (fun ls rest x y p l e R s m args below meth c H locs cells slots Q hx hb k => lv_isub hx hb hd k) h
  | imul =>
    rcases hlen with hlen | rfl
    · cases hlen
    · exact xi_bin_ok hM (fun ls rest x y p l e R s m args below meth c H locs cells slots Q hx hb k => lv_imul hx hb hd k) h
  | iand =>
    rcases hlen with hlen | rfl
    · cases hlen
    · exact xi_bin_ok hM (fun ls rest x y p l e R s m args below meth c H locs cells slots Q hx hb k => lv_iand hx hb hd k) h
  | ior =>
    rcases hlen with hlen | rfl
    · cases hlen
    · exact xi_bin_ok hM (fun ls rest x y p l e R s m args below meth c H locs cells slots Q hx hb k => lv_ior hx hb hd k) h
  | ixor =>
    rcases hlen with hlen | rfl
    · cases hlen
    · exact xi_bin_ok hM (fun ls rest x y p l e R s m args below meth c H locs cells slots Q hx hb k => lv_ixor hx hb hd k) h
  | ishl =>
    rcases hlen with hlen | rfl
    · cases hlen
    · exact xi_bin_ok hM (fun ls rest x y p l e R s m args below meth c H locs cells slots Q hx hb k => lv_ishl hx hb hd k) h
  | ishr =>
    rcases hlen with hlen | rfl
    · cases hlen
    · exact xi_bin_ok hM (fun ls rest x y p l e R s m args below meth c H locs cells slots Q hx hb k => lv_ishr hx hb hd k) h
  | iushr =>
    rcases hlen with hlen | rfl
    · cases hlen
    · exact xi_bin_ok hM (fun ls rest x y p l e R s m args below meth c H locs cells slots Q hx hb k => lv_iushr hx hb hd rfl k) h
  | irem =>
    rcases hlen with hlen | rfl
    · cases hlen
    · exact xi_rem_ok hM hd h
  | i2l =>
    rcases hlen with hlen | rfl
    · cases hlen
    · exact xi_i2l_ok hM hd h
  | lcmp =>
    rcases hlen with hlen | rfl
    · cases hlen
    · exact xi_lcmp_ok hM hd h
  | dup =>
    rcases hlen with hlen | rfl
    · cases hlen
    · exact xi_dup_ok hM hd h
  | dup2 =>
    rcases hlen with hlen | rfl
    · cases hlen
    · exact xi_dup2_ok hM hd h
  | pop =>
    rcases hlen with hlen | rfl
    · cases hlen
    · exact xi_pop_ok hM hd h
  | goto o =>
    rcases hlen with hlen | rfl
    · cases hlen
    · exact xi_go1_ok hM (fun ls tgt ht p l e R s m args below meth c H locs cells slots Q hx hb k => lv_goto hx hb hd ht k) h
  | ifCond cc o =>
    rcases hlen with hlen | rfl
    · cases hlen
    · cases cc with
      | eq => exact xi_if1_ok hM (fun ls rest x tgt ht => ⟨fun t1 p l e R s m args below meth c H locs cells slots Q hx hb k => lv_if_eq hx hb hd ht (fun _ => k) (fun q => absurd (of_decide_eq_true t1) q), fun t1 p l e R s m args below meth c H locs cells slots Q hx hb k => lv_if_eq hx hb hd ht (fun q => absurd q (of_decide_eq_false t1)) (fun _ => k)⟩) h
      | ne => exact xi_if1_ok hM (fun ls rest x tgt ht => ⟨fun t1 p l e R s m args below meth c H locs cells slots Q hx hb k => lv_if_ne hx hb hd ht (fun _ => k) (fun q => absurd q (of_decide_eq_true t1)), fun t1 p l e R s m args below meth c H locs cells slots Q hx hb k => lv_if_ne hx hb hd ht (fun q => absurd q (of_decide_eq_false t1)) (fun _ => k)⟩) h
      | lt => exact xi_if1_ok hM (fun ls rest x tgt ht => ⟨fun t1 p l e R s m args below meth c H locs cells slots Q hx hb k => lv_if_lt hx hb hd ht (fun _ => k) (fun q => absurd (of_decide_eq_true t1) q), fun t1 p l e R s m args below meth c H locs cells slots Q hx hb k => lv_if_lt hx hb hd ht (fun q => absurd q (of_decide_eq_false t1)) (fun _ => k)⟩) h
      | ge => exact xi_if1_ok hM (fun ls rest x tgt ht => ⟨fun t1 p l e R s m args below meth c H locs cells slots Q hx hb k => lv_if_ge hx hb hd ht (fun _ => k) (fun q => absurd (of_decide_eq_true t1) q), fun t1 p l e R s m args below meth c H locs cells slots Q hx hb k => lv_if_ge hx hb hd ht (fun q => absurd q (of_decide_eq_false t1)) (fun _ => k)⟩) h
      | gt => exact xi_if1_ok hM (fun ls rest x tgt ht => ⟨fun t1 p l e R s m args below meth c H locs cells slots Q hx hb k => lv_if_gt hx hb hd ht (fun _ => k) (fun q => absurd (of_decide_eq_true t1) q), fun t1 p l e R s m args below meth c H locs cells slots Q hx hb k => lv_if_gt hx hb hd ht (fun q => absurd q (of_decide_eq_false t1)) (fun _ => k)⟩) h
      | le => exact xi_if1_ok hM (fun ls rest x tgt ht => ⟨fun t1 p l e R s m args below meth c H locs cells slots Q hx hb k => lv_if_le hx hb hd ht (fun _ => k) (fun q => absurd (of_decide_eq_true t1) q), fun t1 p l e R s m args below meth c H locs cells slots Q hx hb k => lv_if_le hx hb hd ht (fun q => absurd q (of_decide_eq_false t1)) (fun _ => k)⟩) h
  | if_icmp cc o =>
    rcases hlen with hlen | rfl
    · cases hlen
    · cases cc with
      | eq => exact xi_if2_ok hM (fun ls rest x y tgt ht => ⟨fun t1 p l e R s m args below meth c H locs cells slots Q hx hb k => lv_icmp_eq hx hb hd ht (fun _ => k) (fun q => absurd (of_decide_eq_true t1) q), fun t1 p l e R s m args below meth c H locs cells slots Q hx hb k => lv_icmp_eq hx hb hd ht (fun q => absurd q (of_decide_eq_false t1)) (fun _ => k)⟩) h
      | ne => exact xi_if2_ok hM (fun ls rest x y tgt ht => ⟨fun t1 p l e R s m args below meth c H locs cells slots Q hx hb k => lv_icmp_ne hx hb hd ht (fun _ => k) (fun q => absurd q (of_decide_eq_true t1)), fun t1 p l e R s m args below meth c H locs cells slots Q hx hb k => lv_icmp_ne hx hb hd ht (fun q => absurd q (of_decide_eq_false t1)) (fun _ => k)⟩) h
      | lt => exact xi_if2_ok hM (fun ls rest x y tgt ht => ⟨fun t1 p l e R s m args below meth c H locs cells slots Q hx hb k => lv_icmp_lt hx hb hd ht (fun _ => k) (fun q => absurd (of_decide_eq_true t1) q), fun t1 p l e R s m args below meth c H locs cells slots Q hx hb k => lv_icmp_lt hx hb hd ht (fun q => absurd q (of_decide_eq_false t1)) (fun _ => k)⟩) h
      | ge => exact xi_if2_ok hM (fun ls rest x y tgt ht => ⟨fun t1 p l e R s m args below meth c H locs cells slots Q hx hb k => lv_icmp_ge hx hb hd ht (fun _ => k) (fun q => absurd (of_decide_eq_true t1) q), fun t1 p l e R s m args below meth c H locs cells slots Q hx hb k => lv_icmp_ge hx hb hd ht (fun q => absurd q (of_decide_eq_false t1)) (fun _ => k)⟩) h
      | gt => exact xi_if2_ok hM (fun ls rest x y tgt ht => ⟨fun t1 p l e R s m args below meth c H locs cells slots Q hx hb k => lv_icmp_gt hx hb hd ht (fun _ => k) (fun q => absurd (of_decide_eq_true t1) q), fun t1 p l e R s m args below meth c H locs cells slots Q hx hb k => lv_icmp_gt hx hb hd ht (fun q => absurd q (of_decide_eq_false t1)) (fun _ => k)⟩) h
      | le => exact xi_if2_ok hM (fun ls rest x y tgt ht => ⟨fun t1 p l e R s m args below meth c H locs cells slots Q hx hb k => lv_icmp_le hx hb hd ht (fun _ => k) (fun q => absurd (of_decide_eq_true t1) q), fun t1 p l e R s m args below meth c H locs cells slots Q hx hb k => lv_icmp_le hx hb hd ht (fun q => absurd q (of_decide_eq_false t1)) (fun _ => k)⟩) h
  | getfield x =>
    rcases hlen with hlen | rfl
    · cases hlen
    · exact xi_get_ok hM hd h
  | putfield x =>
    rcases hlen with hlen | rfl
    · cases hlen
    · exact xi_set_ok hM hd h
  | getstatic x =>
    rcases hlen with hlen | rfl
    · cases hlen
    · exact xi_gst_ok hM hd h
  | iaload =>
    rcases hlen with hlen | rfl
    · cases hlen
    · exact xi_iald_ok hM rfl rfl hd h
  | baload =>
    rcases hlen with hlen | rfl
    · cases hlen
    · exact xi_zald_ok hM hd h
  | laload =>
    rcases hlen with hlen | rfl
    · cases hlen
    · exact xi_lald_ok hM hd h
  | iastore =>
    rcases hlen with hlen | rfl
    · cases hlen
    · exact xi_iast_ok hM hd h
  | bastore =>
    rcases hlen with hlen | rfl
    · cases hlen
    · exact xi_zast_ok hM hd h
  | lastore =>
    rcases hlen with hlen | rfl
    · cases hlen
    · exact xi_last_ok hM hd h
  | arraylength =>
    rcases hlen with hlen | rfl
    · cases hlen
    · exact xi_alen_ok hM rfl rfl hd h
  | new x =>
    rcases hlen with hlen | rfl
    · cases hlen
    · exact xi_new_ok hM hd h
  | newarray t =>
    rcases hlen with hlen | rfl
    · cases hlen
    · exact xi_newa_ok hM hd h
  | invokespecial x =>
    rcases hlen with hlen | rfl
    · cases hlen
    · exact xi_oin_ok hM hd h
  | _ => exact nomatch (show (none : Option xi_S) = some B from h)
