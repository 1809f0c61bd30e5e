section
variable {X : Cx} {M : MI} {R : Room} {d : Nat} {Q : Po} {J : Nat → Ct} {K : Ct}
set_option maxHeartbeats 4000000 in
set_option maxRecDepth 100000 in
theorem sd_all (hJ : ∀ t, Sd X M R d Q t (J t)) {pc len : Nat} (ins : Instr) (h : List Nat) (ms : List MI) (hn : ins ≠ .nop) (hd : decode M.2.1 pc = .ok (ins, len)) (hc : ch1 M pc (ins, h, ms) len = true) (hK : Sd X M R d Q (pc + len) K) : Sd X M R d Q pc (vi X R d Q J (ins, h, ms) K) := by
  cases ins
  case nop => exact absurd rfl hn
  case iconst => exact sd_iconst hd hc hK
  case bipush => exact sd_bipush hd hc hK
  case sipush => exact sd_sipush hd hc hK
  case lconst => exact sd_lconst hd hc hK
  case ldc =>
    match h, hc with
    | 0 :: v :: w :: h, hc => exact sd_ldcI hd hc hK
    | 1 :: i :: h, hc => exact sd_ldcS hd hc hK
    | [], hc => cases hc
    | [_], hc => simp [ch1] at hc
    | [0, _], hc => simp [ch1] at hc
    | (k + 2) :: _ :: _, hc => simp [ch1] at hc
  case ldc_w =>
    match h, hc with
    | v :: w :: h, hc => exact sd_ldcw hd hc hK
    | [], hc => cases hc
    | [_], hc => simp [ch1] at hc
  case ldc2_w =>
    match h, hc with
    | v :: w :: h, hc => exact sd_ldc2 hd hc hK
    | [], hc => cases hc
    | [_], hc => simp [ch1] at hc
  case iload_n => exact sd_iload_n hd hc hK
  case iload => exact sd_iload hd hc hK
  case lload_n => exact sd_lload_n hd hc hK
  case lload => exact sd_lload hd hc hK
  case aload_n => exact sd_aload_n hd hc hK
  case aload => exact sd_aload hd hc hK
  case istore_n => exact sd_istore_n hd hc hK
  case istore => exact sd_istore hd hc hK
  case lstore_n => exact sd_lstore_n hd hc hK
  case lstore => exact sd_lstore hd hc hK
  case astore_n => exact sd_astore_n hd hc hK
  case astore => exact sd_astore hd hc hK
  case iinc => exact sd_iinc hd hc hK
  case iadd => exact sd_iadd hd hc hK
  case isub => exact sd_isub hd hc hK
  case imul => exact sd_imul hd hc hK
  case iand => exact sd_iand hd hc hK
  case ior => exact sd_ior hd hc hK
  case ixor => exact sd_ixor hd hc hK
  case ishl => exact sd_ishl hd hc hK
  case ishr => exact sd_ishr hd hc hK
  case iushr => exact sd_iushr hd hc hK
  case idiv => exact sd_idiv hd hc hK
  case irem => exact sd_irem hd hc hK
  case ladd => exact sd_ladd hd hc hK
  case lsub => exact sd_lsub hd hc hK
  case lmul => exact sd_lmul hd hc hK
  case land => exact sd_land hd hc hK
  case lor => exact sd_lor hd hc hK
  case lxor => exact sd_lxor hd hc hK
  case ldiv => exact sd_ldiv hd hc hK
  case lrem => exact sd_lrem hd hc hK
  case lcmp => exact sd_lcmp hd hc hK
  case lshl => exact sd_lshl hd hc hK
  case lshr => exact sd_lshr hd hc hK
  case lushr => exact sd_lushr hd hc hK
  case ineg => exact sd_ineg hd hc hK
  case i2l => exact sd_i2l hd hc hK
  case l2i => exact sd_l2i hd hc hK
  case i2b => exact sd_i2b hd hc hK
  case i2s => exact sd_i2s hd hc hK
  case i2c => exact sd_i2c hd hc hK
  case dup => exact sd_dup hd hc hK
  case pop => exact sd_pop hd hc hK
  case dup2 =>
    match h, hc with
    | 0 :: h, hc => exact sd_dup2a hd hc hK
    | 1 :: h, hc => exact sd_dup2b hd hc hK
    | [], hc => intro _ _ _ _ _ hv; exact (hv : False).elim
    | (k + 2) :: _, hc => intro _ _ _ _ _ hv; exact (hv : False).elim
  case pop2 =>
    match h, hc with
    | 0 :: h, hc => exact sd_pop2a hd hc hK
    | 1 :: h, hc => exact sd_pop2b hd hc hK
    | [], hc => intro _ _ _ _ _ hv; exact (hv : False).elim
    | (k + 2) :: _, hc => intro _ _ _ _ _ hv; exact (hv : False).elim
  case if_icmp =>
    match h, hc with
    | t :: h, hc => exact sd_icmp (hJ t) hd hc hK
    | [], hc => cases hc
  case ifCond =>
    match h, hc with
    | t :: h, hc => exact sd_ifc (hJ t) hd hc hK
    | [], hc => cases hc
  case goto =>
    match h, hc with
    | t :: h, hc => exact sd_goto (hJ t) hd hc
    | [], hc => cases hc
  case tableswitch =>
    match h, hc with
    | t :: h, hc => exact sd_table hJ hd hc
    | [], hc => cases hc
  case lookupswitch =>
    match h, hc with
    | t :: h, hc => exact sd_lookup hJ hd hc
    | [], hc => cases hc
  case getfield =>
    match h, hc with
    | 0 :: ci :: k :: w :: h, hc => exact sd_getI hd hc hK
    | 1 :: ci :: k :: w :: h, hc => exact sd_getL hd hc hK
    | 2 :: ci :: k :: w :: h, hc => exact sd_getR hd hc hK
    | (n + 3) :: ci :: k :: w :: h, hc => intro _ _ _ _ _ hv; exact (hv : False).elim
    | [], hc => cases hc
    | [_], hc => simp [ch1] at hc
    | [_, _], hc => simp [ch1] at hc
    | [_, _, _], hc => simp [ch1] at hc
  case putfield =>
    match h, hc with
    | 0 :: ci :: k :: w :: h, hc => exact sd_putI hd hc hK
    | 1 :: ci :: k :: w :: h, hc => exact sd_putL hd hc hK
    | 2 :: ci :: k :: w :: h, hc => exact sd_putR hd hc hK
    | 3 :: ci :: k :: w :: h, hc => exact sd_putZ hd hc hK
    | (n + 4) :: ci :: k :: w :: h, hc => intro _ _ _ _ _ hv; exact (hv : False).elim
    | [], hc => cases hc
    | [_], hc => simp [ch1] at hc
    | [_, _], hc => simp [ch1] at hc
    | [_, _, _], hc => simp [ch1] at hc
  case iaload =>
    match h, hc with
    | [], hc => cases hc
    | 0 :: h, hc => exact sd_iaload hd hc hK
    | 9 :: h, hc => exact sd_ialoadS hd hc hK
    | 1 :: h, hc => intro _ _ _ _ _ hv; exact (hv : False).elim
    | 2 :: h, hc => intro _ _ _ _ _ hv; exact (hv : False).elim
    | 3 :: h, hc => intro _ _ _ _ _ hv; exact (hv : False).elim
    | 4 :: h, hc => intro _ _ _ _ _ hv; exact (hv : False).elim
    | 5 :: h, hc => intro _ _ _ _ _ hv; exact (hv : False).elim
    | 6 :: h, hc => intro _ _ _ _ _ hv; exact (hv : False).elim
    | 7 :: h, hc => intro _ _ _ _ _ hv; exact (hv : False).elim
    | 8 :: h, hc => intro _ _ _ _ _ hv; exact (hv : False).elim
    | (k + 10) :: h, hc => intro _ _ _ _ _ hv; exact (hv : False).elim
  case laload => exact sd_laload hd hc hK
  case baload =>
    match h, hc with
    | [], hc => intro _ _ _ _ _ hv; exact (hv : False).elim
    | t :: h, hc => exact sd_baload hd hc hK
  case aaload =>
    match h, hc with
    | [], hc => intro _ _ _ _ _ hv; exact (hv : False).elim
    | t :: h, hc => exact sd_aaload hd hc hK
  case iastore => exact sd_iastore hd hc hK
  case bastore =>
    match h, hc with
    | [], hc => intro _ _ _ _ _ hv; exact (hv : False).elim
    | 0 :: h, hc => intro _ _ _ _ _ hv; exact (hv : False).elim
    | 1 :: h, hc => intro _ _ _ _ _ hv; exact (hv : False).elim
    | 2 :: h, hc => intro _ _ _ _ _ hv; exact (hv : False).elim
    | 3 :: h, hc => exact sd_bastoreB hd hc hK
    | 4 :: h, hc => exact sd_bastoreZ hd hc hK
    | (k + 5) :: h, hc => intro _ _ _ _ _ hv; exact (hv : False).elim
  case lastore => exact sd_lastore hd hc hK
  case aastore =>
    match h, hc with
    | [], hc => intro _ _ _ _ _ hv; exact (hv : False).elim
    | t :: h, hc => exact sd_aastore hd hc hK
  case arraylength =>
    match h, hc with
    | [], hc => intro _ _ _ _ _ hv; exact (hv : False).elim
    | [0], hc => intro _ _ _ _ _ hv; exact (hv : False).elim
    | 0 :: t :: h, hc => exact sd_alen hd hc hK
    | 1 :: h, hc => exact sd_alenS hd hc hK
    | (k + 2) :: h, hc => intro _ _ _ _ _ hv; exact (hv : False).elim
  case new =>
    match h, hc with
    | ci :: w1 :: w2 :: w3 :: h, hc => exact sd_new hd hc hK
    | [], hc => cases hc
    | [_], hc => simp [ch1] at hc
    | [_, _], hc => simp [ch1] at hc
    | [_, _, _], hc => simp [ch1] at hc
  case newarray =>
    match h, hc with
    | t :: w :: h, hc => exact sd_newarray hd hc hK
    | [], hc => cases hc
    | [_], hc => simp [ch1] at hc
  case anewarray =>
    match h, hc with
    | t :: ci :: w1 :: w2 :: h, hc => exact sd_anewarray hd hc hK
    | [], hc => cases hc
    | [_], hc => simp [ch1] at hc
    | [_, _], hc => simp [ch1] at hc
    | [_, _, _], hc => simp [ch1] at hc
  case lreturn => exact sd_lreturn hd hc
  case return_ => exact sd_vreturn hd hc
  case ireturn =>
    match h, hc with
    | [], hc => intro _ _ _ _ _ hv; exact (hv : False).elim
    | 0 :: h, hc => exact sd_ireturn hd hc
    | 1 :: h, hc => exact sd_zreturn hd hc
    | (k + 2) :: h, hc => intro _ _ _ _ _ hv; exact (hv : False).elim
  case invokestatic =>
    match h, ms, hc with
    | 0 :: n :: mc :: mS :: w0 :: w1 :: w2 :: w3 :: h, N :: ms, hc => exact sd_static hd hc hK
    | 1 :: w1 :: w2 :: w3 :: w4 :: h, ms, hc => exact sd_cpyI hd hc hK
    | 2 :: w1 :: w2 :: w3 :: w4 :: h, ms, hc => exact sd_cpyL hd hc hK
    | 3 :: w1 :: w2 :: w3 :: w4 :: h, ms, hc => exact sd_cpyB hd hc hK
    | 4 :: w1 :: w2 :: w3 :: w4 :: h, ms, hc => exact sd_mmin hd hc hK
    | 5 :: w1 :: w2 :: w3 :: w4 :: h, ms, hc => exact sd_mmax hd hc hK
    | (k + 6) :: _, ms, hc => intro _ _ _ _ _ hv; exact (hv : False).elim
    | [], ms, hc => cases hc
    | [_ + 1], ms, hc => simp [ch1] at hc
    | [_ + 1, _], ms, hc => simp [ch1] at hc
    | [_ + 1, _, _], ms, hc => simp [ch1] at hc
    | [_ + 1, _, _, _], ms, hc => simp [ch1] at hc
    | [0], ms, hc => simp [ch1] at hc
    | [0, _], ms, hc => simp [ch1] at hc
    | [0, _, _], ms, hc => simp [ch1] at hc
    | [0, _, _, _], ms, hc => simp [ch1] at hc
    | [0, _, _, _, _], ms, hc => simp [ch1] at hc
    | [0, _, _, _, _, _], ms, hc => simp [ch1] at hc
    | [0, _, _, _, _, _, _], ms, hc => simp [ch1] at hc
    | 0 :: _ :: _ :: _ :: _ :: _ :: _ :: _ :: _, [], hc => simp [ch1] at hc
  case invokespecial =>
    match h, ms, hc with
    | 0 :: n :: mc :: mS :: w0 :: w1 :: w2 :: w3 :: h, N :: ms, hc => exact sd_special hd hc hK
    | 1 :: n :: mc :: mS :: w0 :: w1 :: w2 :: w3 :: h, N :: ms, hc => exact sd_specialN hd hc hK
    | 2 :: w1 :: w2 :: w3 :: h, ms, hc => exact sd_objInit hd hc hK
    | (k + 3) :: _, ms, hc => intro _ _ _ _ _ hv; exact (hv : False).elim
    | [], ms, hc => cases hc
    | [2], ms, hc => simp [ch1] at hc
    | [2, _], ms, hc => simp [ch1] at hc
    | [2, _, _], ms, hc => simp [ch1] at hc
    | [0], ms, hc => simp [ch1] at hc
    | [0, _], ms, hc => simp [ch1] at hc
    | [0, _, _], ms, hc => simp [ch1] at hc
    | [0, _, _, _], ms, hc => simp [ch1] at hc
    | [0, _, _, _, _], ms, hc => simp [ch1] at hc
    | [0, _, _, _, _, _], ms, hc => simp [ch1] at hc
    | [0, _, _, _, _, _, _], ms, hc => simp [ch1] at hc
    | 0 :: _ :: _ :: _ :: _ :: _ :: _ :: _ :: _, [], hc => simp [ch1] at hc
    | [1], ms, hc => simp [ch1] at hc
    | [1, _], ms, hc => simp [ch1] at hc
    | [1, _, _], ms, hc => simp [ch1] at hc
    | [1, _, _, _], ms, hc => simp [ch1] at hc
    | [1, _, _, _, _], ms, hc => simp [ch1] at hc
    | [1, _, _, _, _, _], ms, hc => simp [ch1] at hc
    | [1, _, _, _, _, _, _], ms, hc => simp [ch1] at hc
    | 1 :: _ :: _ :: _ :: _ :: _ :: _ :: _ :: _, [], hc => simp [ch1] at hc
  case invokevirtual =>
    match h, ms, hc with
    | 0 :: n :: mc :: mS :: ci :: w0 :: w1 :: w2 :: w3 :: w4 :: h, N :: ms, hc => exact sd_virtual hd hc hK
    | 1 :: n :: mc :: mS :: ci :: w0 :: w1 :: w2 :: w3 :: w4 :: h, N :: ms, hc => exact sd_virtualS hd hc hK
    | (k + 2) :: _, ms, hc => intro _ _ _ _ _ hv; exact (hv : False).elim
    | [], ms, hc => cases hc
    | [_], ms, hc => simp [ch1] at hc
    | [_, _], ms, hc => simp [ch1] at hc
    | [_, _, _], ms, hc => simp [ch1] at hc
    | [_, _, _, _], ms, hc => simp [ch1] at hc
    | [_, _, _, _, _], ms, hc => simp [ch1] at hc
    | [_, _, _, _, _, _], ms, hc => simp [ch1] at hc
    | [_, _, _, _, _, _, _], ms, hc => simp [ch1] at hc
    | [_, _, _, _, _, _, _, _], ms, hc => simp [ch1] at hc
    | [_, _, _, _, _, _, _, _, _], ms, hc => simp [ch1] at hc
    | _ :: _ :: _ :: _ :: _ :: _ :: _ :: _ :: _ :: _ :: _, [], hc => simp [ch1] at hc
  all_goals (intro _ _ _ _ _ hv; exact (hv : False).elim)
theorem vl_sound (hJ : ∀ t, Sd X M R d Q t (J t)) : ∀ (is : List AI) (pc : Nat), chL M pc is = true → Sd X M R d Q pc (vl X R d Q J is)
  | [], _, _ => fun _ _ _ _ _ hv => hv.elim
  | (ins, h, ms) :: is, pc, hc => by
    show Sd X M R d Q pc (vi X R d Q J (ins, h, ms) (vl X R d Q J is))
    by_cases hn : ins = .nop
    · subst hn
      cases h with
      | nil => exact fun _ _ _ _ _ hv => (hv : False).elim
      | cons t h =>
        have ht : pc = t := of_decide_eq_true hc
        subst ht
        exact hJ pc
    · have hc' : (match decode M.2.1 pc with | .ok (j, len) => decide (j = ins) && (ch1 M pc (ins, h, ms) len && chL M (pc + len) is) | _ => false) = true := by
        cases ins <;> first | exact hc | exact absurd rfl hn
      cases hdc : decode M.2.1 pc with
      | error x => rw [hdc] at hc'; cases hc'
      | ok q =>
        obtain ⟨j, len⟩ := q
        rw [hdc] at hc'
        simp only [Bool.and_eq_true, decide_eq_true_eq] at hc'
        obtain ⟨rfl, h1, h2⟩ := hc'
        exact sd_all hJ j h ms hn hdc h1 (vl_sound hJ is (pc + len) h2)
/-- a block -/
theorem wp_blk {pc c0 s0 : Nat} {lv : Lv} {st : List Value} {σ : Mm} {is : List AI} (hc : chL M pc is = true) (h : vl X R d Q (fun t c0 s0 lv st σ => Wp X M R d Q c0 s0 t lv st σ) is c0 s0 lv st σ) : Wp X M R d Q c0 s0 pc lv st σ :=
  vl_sound (J := fun t c0 s0 lv st σ => Wp X M R d Q c0 s0 t lv st σ) (fun t c0 s0 lv st σ hv => hv) is pc hc c0 s0 lv st σ h
end
