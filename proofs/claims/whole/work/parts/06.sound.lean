/-! The check of an instruction against the bytes and the tables' words -/
def clNm (ci : Nat) : String := match vwCl[ci]? with
  | some q => q.1
  | none => ""
def clFd (ci k : Nat) : String × String × String × Bool := match vwCl[ci]? with
  | some q => q.2.1 k
  | none => ("", "", "", false)
def aTy : Nat → FieldType
  | 1 => .int
  | 2 => .long
  | 3 => .byte
  | 4 => .boolean
  | 5 => .object RX2
  | 6 => .object RX6
  | _ => .object RX8
/-- the words of a method's code -/
def mWd (N : MI) : Cond := .code N.1 N.2.1 N.2.2.1 N.2.2.2
def okN (N : MI) (n h : Nat) : Bool := inT h (mWd N) && decide (N.1.cls ≠ "java/lang/invoke/MethodHandle") && decide (N.1.cls ≠ "java/lang/invoke/VarHandle") && decide ((parseMethodDescriptor N.1.desc).map (fun d => d.parameters.length) = some n) && decide (N.2.2.1 ≤ 45)
def ch1 (M : MI) (pc : Nat) (i : AI) (len : Nat) : Bool :=
  match i with
  | (.iconst _, _, _) => len == 1
  | (.bipush n, _, _) => len == 2 && decide ((Int8.ofInt n).toInt32 = Int32.ofInt n)
  | (.sipush n, _, _) => len == 3 && decide ((Int16.ofInt n).toInt32 = Int32.ofInt n)
  | (.lconst _, _, _) => len == 1
  | (.ldc x, 0 :: v :: h :: _, _) => len == 2 && inT h (.constant M.1.cls x (Int32.ofNat v))
  | (.ldc x, 1 :: i :: _, _) => len == 2 && (match stT[i]? with | some q => decide (q.1 = M.1.cls) && decide (q.2.1 = x) && decide (i < 1000000) | none => false)
  | (.ldc_w x, v :: h :: _, _) => len == 3 && inT h (.constant M.1.cls x (Int32.ofNat v))
  | (.ldc2_w x, v :: h :: _, _) => len == 3 && inT h (.constantLong M.1.cls x (Int64.ofNat v))
  | (.iload_n _, _, _) => len == 1
  | (.iload _, _, _) => len == 2
  | (.lload_n _, _, _) => len == 1
  | (.lload _, _, _) => len == 2
  | (.aload_n _, _, _) => len == 1
  | (.aload _, _, _) => len == 2
  | (.istore_n k, _, _) => len == 1 && decide ((k : Nat) < M.2.2.1)
  | (.istore k, _, _) => len == 2 && decide (k < M.2.2.1)
  | (.lstore_n k, _, _) => len == 1 && decide ((k : Nat) + 1 < M.2.2.1)
  | (.lstore k, _, _) => len == 2 && decide (k + 1 < M.2.2.1)
  | (.astore_n k, _, _) => len == 1 && decide ((k : Nat) < M.2.2.1)
  | (.astore k, _, _) => len == 2 && decide (k < M.2.2.1)
  | (.iinc k _, _, _) => len == 3 && decide (k < M.2.2.1)
  | (.if_icmp _ off, t :: _, _) => len == 3 && decide ((pc : Int) + off = (t : Int))
  | (.ifCond _ off, t :: _, _) => len == 3 && decide ((pc : Int) + off = (t : Int))
  | (.goto off, t :: _, _) => len == 3 && decide ((pc : Int) + off = (t : Int))
  | (.tableswitch df lo hi offs, dt :: ts, _) => decide ((pc : Int) + df = (dt : Int)) && decide (hi = lo + ts.length - 1) && decide (-1000 < lo) && decide (hi < 1000) && decide (offs.toList.map (fun o => (pc : Int) + o) = ts.map (fun (t : Nat) => (t : Int)))
  | (.lookupswitch df ps, dt :: ts, _) => decide ((pc : Int) + df = (dt : Int)) && ((ps.toList.zip (ps.toList.drop 1)).all (fun (a, next) => decide (a.1 < next.1))) && decide (ps.toList.map (fun q => (pc : Int) + q.2) = ts.map (fun (t : Nat) => (t : Int))) && ps.toList.all (fun q => decide ((Int32.ofInt q.1).toInt = q.1))
  | (.getfield x, ty :: ci :: k :: h :: _, _) => len == 3 && decide (ci < 11) && decide (k < nF ci) && inT h (.fieldLink M.1.cls x (clFd ci k).1 (clFd ci k).2.1 (clFd ci k).2.2.1) && (match ty with | 0 => decide (clTy ci k = .int ∨ clTy ci k = .boolean) | 1 => decide (clTy ci k = .long) | _ => isR (clTy ci k))
  | (.putfield x, ty :: ci :: k :: h :: _, _) => len == 3 && decide (ci < 11) && decide (k < nF ci) && inT h (.fieldLink M.1.cls x (clFd ci k).1 (clFd ci k).2.1 (clFd ci k).2.2.1) && (match ty with | 0 => decide (clTy ci k = .int) | 1 => decide (clTy ci k = .long) | 2 => isR (clTy ci k) | _ => decide (clTy ci k = .boolean)) && (!(clFd ci k).2.2.2 || (decide (M.1.name = "<init>") && decide ((clFd ci k).1 = M.1.cls)))
  | (.iaload, _ :: _, _) => len == 1
  | (.new x, ci :: h1 :: h2 :: h3 :: _, _) => len == 3 && decide (ci < 11) && inT h1 (.classLink M.1.cls x (clNm ci)) && inT h2 (.instantiable (clNm ci) (nF ci)) && inT h3 (.initialized (clNm ci))
  | (.newarray ty, t :: h :: _, _) => len == 2 && decide (0 < t) && decide (t < 5) && decide (newarray.typeOf ty = aTy t) && inT h (.arrayClass (aTy t))
  | (.anewarray x, t :: ci :: h1 :: h2 :: _, _) => len == 3 && decide (4 < t) && decide (t < 8) && decide (aTy t = .object (clNm ci)) && inT h1 (.classLink M.1.cls x (clNm ci)) && decide (lw_tbl[h2]? = some (.arrayOver (.object (clNm ci))))
  | (.invokespecial x, 2 :: h1 :: h2 :: h3 :: _, _) => len == 3 && inT h1 (.methodLink M.1.cls x Lib.objectInit) && inT h2 (.instanceMethod Lib.objectInit) && inT h3 (.code Lib.objectInit ⟨#[0xb1]⟩ 1 none)
  | (.invokestatic x, 4 :: h1 :: h2 :: h3 :: h4 :: _, _) => len == 3 && inT h1 (.methodLink M.1.cls x Lib.Math.min.name) && inT h2 (.static Lib.Math.min.name) && inT h3 (.initialized "java/lang/Math") && inT h4 (.code Lib.Math.min.name Lib.Math.min.code 2 (some .int))
  | (.invokestatic x, 5 :: h1 :: h2 :: h3 :: h4 :: _, _) => len == 3 && inT h1 (.methodLink M.1.cls x Lib.Math.max.name) && inT h2 (.static Lib.Math.max.name) && inT h3 (.initialized "java/lang/Math") && inT h4 (.code Lib.Math.max.name Lib.Math.max.code 2 (some .int))
  | (.invokestatic x, (_ + 1) :: h1 :: h2 :: h3 :: h4 :: _, _) => len == 3 && inT h1 (.methodLink M.1.cls x arraycopyName) && inT h2 (.native arraycopyName) && inT h3 (.static arraycopyName) && inT h4 (.initialized "java/lang/System")
  | (.invokestatic x, 0 :: n :: _ :: _ :: h0 :: h1 :: h2 :: h3 :: _, N :: _) => len == 3 && okN N n h0 && inT h1 (.methodLink M.1.cls x N.1) && inT h2 (.static N.1) && inT h3 (.initialized N.1.cls)
  | (.invokespecial x, 0 :: n :: _ :: _ :: h0 :: h1 :: h2 :: h3 :: _, N :: _) => len == 3 && okN N n h0 && decide (N.1.name = "<init>") && decide (N.2.2.2 = none) && inT h1 (.methodLink M.1.cls x N.1) && inT h2 (.instanceMethod N.1) && inT h3 (.initialized N.1.cls)
  | (.invokespecial x, 1 :: n :: _ :: _ :: h0 :: h1 :: h2 :: h3 :: _, N :: _) => len == 3 && okN N n h0 && decide (N.1.name = "<init>") && decide (N.2.2.2 = none) && (match nsT[h1]? with | some q => decide (q.1 = M.1.cls) && decide (q.2.1 = x) && decide (q.2.2.1 = N.1) | none => false) && inT h2 (.instanceMethod N.1) && inT h3 (.initialized N.1.cls)
  | (.invokevirtual x, 0 :: n :: _ :: _ :: ci :: h0 :: h1 :: h2 :: h3 :: h4 :: _, N :: _) => len == 3 && okN N n h0 && decide (ci < 11) && decide (N.1.cls = clNm ci) && inT h1 (.methodLink M.1.cls x N.1) && inT h2 (.instanceMethod N.1) && inT h3 (.selects (clNm ci) N.1 N.1) && inT h4 (.initialized (clNm ci))
  | (.invokevirtual x, 1 :: n :: _ :: _ :: _ :: h0 :: h1 :: h2 :: h3 :: h4 :: _, N :: _) => len == 3 && okN N n h0 && decide (N.1.cls = "java/lang/String") && inT h1 (.methodLink M.1.cls x N.1) && inT h2 (.instanceMethod N.1) && inT h3 (.selects "java/lang/String" N.1 N.1) && inT h4 (.initialized "java/lang/String")
  | (.ireturn, 0 :: _, _) => len == 1 && decide (M.2.2.2 = some .int)
  | (.ireturn, 1 :: _, _) => len == 1 && decide (M.2.2.2 = some .boolean)
  | (.lreturn, _, _) => len == 1 && decide (M.2.2.2 = some .long)
  | (.return_, _, _) => len == 1 && decide (M.2.2.2 = none)
  | (.iadd, _, _) => len == 1
  | (.isub, _, _) => len == 1
  | (.imul, _, _) => len == 1
  | (.iand, _, _) => len == 1
  | (.ior, _, _) => len == 1
  | (.ixor, _, _) => len == 1
  | (.ishl, _, _) => len == 1
  | (.ishr, _, _) => len == 1
  | (.iushr, _, _) => len == 1
  | (.idiv, _, _) => len == 1
  | (.irem, _, _) => len == 1
  | (.ladd, _, _) => len == 1
  | (.lsub, _, _) => len == 1
  | (.lmul, _, _) => len == 1
  | (.land, _, _) => len == 1
  | (.lor, _, _) => len == 1
  | (.lxor, _, _) => len == 1
  | (.ldiv, _, _) => len == 1
  | (.lrem, _, _) => len == 1
  | (.lcmp, _, _) => len == 1
  | (.lshl, _, _) => len == 1
  | (.lshr, _, _) => len == 1
  | (.lushr, _, _) => len == 1
  | (.ineg, _, _) => len == 1
  | (.i2l, _, _) => len == 1
  | (.l2i, _, _) => len == 1
  | (.i2b, _, _) => len == 1
  | (.i2s, _, _) => len == 1
  | (.i2c, _, _) => len == 1
  | (.dup, _, _) => len == 1
  | (.pop, _, _) => len == 1
  | (.dup2, _, _) => len == 1
  | (.pop2, _, _) => len == 1
  | (.laload, _, _) => len == 1
  | (.baload, _, _) => len == 1
  | (.aaload, _, _) => len == 1
  | (.iastore, _, _) => len == 1
  | (.bastore, _, _) => len == 1
  | (.lastore, _, _) => len == 1
  | (.aastore, _, _) => len == 1
  | (.arraylength, _, _) => len == 1
  | _ => false
def chL (M : MI) : Nat → List AI → Bool
  | _, [] => true
  | pc, i :: is => match i with
    | (.nop, t :: _, _) => decide (pc = t)
    | _ => match decode M.2.1 pc with
      | .ok (j, len) => decide (j = i.1) && (ch1 M pc i len && chL M (pc + len) is)
      | _ => false

section
variable {X : Cx} {M : MI} {R : Room} {d : Nat} {Q : Po} {J : Nat → Ct} {pc len : Nat} {K : Ct} {h : List Nat} {ms : List MI}
def Sd (X : Cx) (M : MI) (R : Room) (d : Nat) (Q : Po) (pc : Nat) (K : Ct) : Prop := ∀ c0 s0 lv st σ, K c0 s0 lv st σ → Wp X M R d Q c0 s0 pc lv st σ
theorem W.at {p : Program} {l : Launch} {e : Env} {s : State} {m : MethodId} {args : Array Value} {below : List Frame} {meth : Method} {c : Code} {H : Heap} {locs : List Loc} {cells slots : Nat} {Q : State → Prop} {pc : Nat} {ls : Array Slot} {st st' : List Value} (h : st = st') (k : W p l e R s m args below meth c H locs cells slots Q (F0 m pc ls st')) : W p l e R s m args below meth c H locs cells slots Q (F0 m pc ls st) := h ▸ k

theorem sd_iadd (hd : decode M.2.1 pc = .ok (.iadd, len)) (hc : ch1 M pc (.iadd, h, ms) len = true) (hK : Sd X M R d Q (pc + len) K) : Sd X M R d Q pc (vi X R d Q J (.iadd, h, ms) K) := by
  intro c0 s0 lv st σ hv
  obtain ⟨a, b, r, rfl, hv⟩ := kII_e hv
  have hlen : len = 1 := by simpa [ch1] using hc
  subst hlen
  intro p e s m args below meth c H locs ls hE h1 h2 hn0 hH hS hl
  exact lv_iadd hE.1 hE.2.1 hd (hK _ _ _ _ _ hv p e s m args below meth c H locs ls hE h1 h2 hn0 hH hS hl)
theorem sd_isub (hd : decode M.2.1 pc = .ok (.isub, len)) (hc : ch1 M pc (.isub, h, ms) len = true) (hK : Sd X M R d Q (pc + len) K) : Sd X M R d Q pc (vi X R d Q J (.isub, h, ms) K) := by
  intro c0 s0 lv st σ hv
  obtain ⟨a, b, r, rfl, hv⟩ := kII_e hv
  have hlen : len = 1 := by simpa [ch1] using hc
  subst hlen
  intro p e s m args below meth c H locs ls hE h1 h2 hn0 hH hS hl
  exact lv_isub hE.1 hE.2.1 hd (hK _ _ _ _ _ hv p e s m args below meth c H locs ls hE h1 h2 hn0 hH hS hl)
theorem sd_imul (hd : decode M.2.1 pc = .ok (.imul, len)) (hc : ch1 M pc (.imul, h, ms) len = true) (hK : Sd X M R d Q (pc + len) K) : Sd X M R d Q pc (vi X R d Q J (.imul, h, ms) K) := by
  intro c0 s0 lv st σ hv
  obtain ⟨a, b, r, rfl, hv⟩ := kII_e hv
  have hlen : len = 1 := by simpa [ch1] using hc
  subst hlen
  intro p e s m args below meth c H locs ls hE h1 h2 hn0 hH hS hl
  exact lv_imul hE.1 hE.2.1 hd (hK _ _ _ _ _ hv p e s m args below meth c H locs ls hE h1 h2 hn0 hH hS hl)
theorem sd_iand (hd : decode M.2.1 pc = .ok (.iand, len)) (hc : ch1 M pc (.iand, h, ms) len = true) (hK : Sd X M R d Q (pc + len) K) : Sd X M R d Q pc (vi X R d Q J (.iand, h, ms) K) := by
  intro c0 s0 lv st σ hv
  obtain ⟨a, b, r, rfl, hv⟩ := kII_e hv
  have hlen : len = 1 := by simpa [ch1] using hc
  subst hlen
  intro p e s m args below meth c H locs ls hE h1 h2 hn0 hH hS hl
  exact lv_iand hE.1 hE.2.1 hd (hK _ _ _ _ _ hv p e s m args below meth c H locs ls hE h1 h2 hn0 hH hS hl)
theorem sd_ior (hd : decode M.2.1 pc = .ok (.ior, len)) (hc : ch1 M pc (.ior, h, ms) len = true) (hK : Sd X M R d Q (pc + len) K) : Sd X M R d Q pc (vi X R d Q J (.ior, h, ms) K) := by
  intro c0 s0 lv st σ hv
  obtain ⟨a, b, r, rfl, hv⟩ := kII_e hv
  have hlen : len = 1 := by simpa [ch1] using hc
  subst hlen
  intro p e s m args below meth c H locs ls hE h1 h2 hn0 hH hS hl
  exact lv_ior hE.1 hE.2.1 hd (hK _ _ _ _ _ hv p e s m args below meth c H locs ls hE h1 h2 hn0 hH hS hl)
theorem sd_ixor (hd : decode M.2.1 pc = .ok (.ixor, len)) (hc : ch1 M pc (.ixor, h, ms) len = true) (hK : Sd X M R d Q (pc + len) K) : Sd X M R d Q pc (vi X R d Q J (.ixor, h, ms) K) := by
  intro c0 s0 lv st σ hv
  obtain ⟨a, b, r, rfl, hv⟩ := kII_e hv
  have hlen : len = 1 := by simpa [ch1] using hc
  subst hlen
  intro p e s m args below meth c H locs ls hE h1 h2 hn0 hH hS hl
  exact lv_ixor hE.1 hE.2.1 hd (hK _ _ _ _ _ hv p e s m args below meth c H locs ls hE h1 h2 hn0 hH hS hl)
theorem sd_ishl (hd : decode M.2.1 pc = .ok (.ishl, len)) (hc : ch1 M pc (.ishl, h, ms) len = true) (hK : Sd X M R d Q (pc + len) K) : Sd X M R d Q pc (vi X R d Q J (.ishl, h, ms) K) := by
  intro c0 s0 lv st σ hv
  obtain ⟨a, b, r, rfl, hv⟩ := kII_e hv
  have hlen : len = 1 := by simpa [ch1] using hc
  subst hlen
  intro p e s m args below meth c H locs ls hE h1 h2 hn0 hH hS hl
  exact lv_ishl hE.1 hE.2.1 hd (hK _ _ _ _ _ hv p e s m args below meth c H locs ls hE h1 h2 hn0 hH hS hl)
theorem sd_ishr (hd : decode M.2.1 pc = .ok (.ishr, len)) (hc : ch1 M pc (.ishr, h, ms) len = true) (hK : Sd X M R d Q (pc + len) K) : Sd X M R d Q pc (vi X R d Q J (.ishr, h, ms) K) := by
  intro c0 s0 lv st σ hv
  obtain ⟨a, b, r, rfl, hv⟩ := kII_e hv
  have hlen : len = 1 := by simpa [ch1] using hc
  subst hlen
  intro p e s m args below meth c H locs ls hE h1 h2 hn0 hH hS hl
  exact lv_ishr hE.1 hE.2.1 hd (hK _ _ _ _ _ hv p e s m args below meth c H locs ls hE h1 h2 hn0 hH hS hl)
theorem sd_iushr (hd : decode M.2.1 pc = .ok (.iushr, len)) (hc : ch1 M pc (.iushr, h, ms) len = true) (hK : Sd X M R d Q (pc + len) K) : Sd X M R d Q pc (vi X R d Q J (.iushr, h, ms) K) := by
  intro c0 s0 lv st σ hv
  obtain ⟨a, b, r, rfl, hv⟩ := kII_e hv
  have hlen : len = 1 := by simpa [ch1] using hc
  subst hlen
  intro p e s m args below meth c H locs ls hE h1 h2 hn0 hH hS hl
  exact lv_iushr hE.1 hE.2.1 hd rfl (hK _ _ _ _ _ hv p e s m args below meth c H locs ls hE h1 h2 hn0 hH hS hl)
theorem sd_idiv (hd : decode M.2.1 pc = .ok (.idiv, len)) (hc : ch1 M pc (.idiv, h, ms) len = true) (hK : Sd X M R d Q (pc + len) K) : Sd X M R d Q pc (vi X R d Q J (.idiv, h, ms) K) := by
  intro c0 s0 lv st σ hv
  obtain ⟨a, b, r, rfl, hv⟩ := kII_e hv
  obtain ⟨hne, hv⟩ := hv
  have hlen : len = 1 := by simpa [ch1] using hc
  subst hlen
  intro p e s m args below meth c H locs ls hE h1 h2 hn0 hH hS hl
  exact lv_idiv hE.1 hE.2.1 hd hne (hK _ _ _ _ _ hv p e s m args below meth c H locs ls hE h1 h2 hn0 hH hS hl)
theorem sd_irem (hd : decode M.2.1 pc = .ok (.irem, len)) (hc : ch1 M pc (.irem, h, ms) len = true) (hK : Sd X M R d Q (pc + len) K) : Sd X M R d Q pc (vi X R d Q J (.irem, h, ms) K) := by
  intro c0 s0 lv st σ hv
  obtain ⟨a, b, r, rfl, hv⟩ := kII_e hv
  obtain ⟨hne, hv⟩ := hv
  have hlen : len = 1 := by simpa [ch1] using hc
  subst hlen
  intro p e s m args below meth c H locs ls hE h1 h2 hn0 hH hS hl
  exact lv_irem hE.1 hE.2.1 hd hne (hK _ _ _ _ _ hv p e s m args below meth c H locs ls hE h1 h2 hn0 hH hS hl)
theorem sd_ladd (hd : decode M.2.1 pc = .ok (.ladd, len)) (hc : ch1 M pc (.ladd, h, ms) len = true) (hK : Sd X M R d Q (pc + len) K) : Sd X M R d Q pc (vi X R d Q J (.ladd, h, ms) K) := by
  intro c0 s0 lv st σ hv
  obtain ⟨a, b, r, rfl, hv⟩ := kLL_e hv
  have hlen : len = 1 := by simpa [ch1] using hc
  subst hlen
  intro p e s m args below meth c H locs ls hE h1 h2 hn0 hH hS hl
  exact lv_ladd hE.1 hE.2.1 hd (hK _ _ _ _ _ hv p e s m args below meth c H locs ls hE h1 h2 hn0 hH hS hl)
theorem sd_lsub (hd : decode M.2.1 pc = .ok (.lsub, len)) (hc : ch1 M pc (.lsub, h, ms) len = true) (hK : Sd X M R d Q (pc + len) K) : Sd X M R d Q pc (vi X R d Q J (.lsub, h, ms) K) := by
  intro c0 s0 lv st σ hv
  obtain ⟨a, b, r, rfl, hv⟩ := kLL_e hv
  have hlen : len = 1 := by simpa [ch1] using hc
  subst hlen
  intro p e s m args below meth c H locs ls hE h1 h2 hn0 hH hS hl
  exact lv_lsub hE.1 hE.2.1 hd (hK _ _ _ _ _ hv p e s m args below meth c H locs ls hE h1 h2 hn0 hH hS hl)
theorem sd_lmul (hd : decode M.2.1 pc = .ok (.lmul, len)) (hc : ch1 M pc (.lmul, h, ms) len = true) (hK : Sd X M R d Q (pc + len) K) : Sd X M R d Q pc (vi X R d Q J (.lmul, h, ms) K) := by
  intro c0 s0 lv st σ hv
  obtain ⟨a, b, r, rfl, hv⟩ := kLL_e hv
  have hlen : len = 1 := by simpa [ch1] using hc
  subst hlen
  intro p e s m args below meth c H locs ls hE h1 h2 hn0 hH hS hl
  exact lv_lmul hE.1 hE.2.1 hd (hK _ _ _ _ _ hv p e s m args below meth c H locs ls hE h1 h2 hn0 hH hS hl)
theorem sd_land (hd : decode M.2.1 pc = .ok (.land, len)) (hc : ch1 M pc (.land, h, ms) len = true) (hK : Sd X M R d Q (pc + len) K) : Sd X M R d Q pc (vi X R d Q J (.land, h, ms) K) := by
  intro c0 s0 lv st σ hv
  obtain ⟨a, b, r, rfl, hv⟩ := kLL_e hv
  have hlen : len = 1 := by simpa [ch1] using hc
  subst hlen
  intro p e s m args below meth c H locs ls hE h1 h2 hn0 hH hS hl
  exact lv_land hE.1 hE.2.1 hd (hK _ _ _ _ _ hv p e s m args below meth c H locs ls hE h1 h2 hn0 hH hS hl)
theorem sd_lor (hd : decode M.2.1 pc = .ok (.lor, len)) (hc : ch1 M pc (.lor, h, ms) len = true) (hK : Sd X M R d Q (pc + len) K) : Sd X M R d Q pc (vi X R d Q J (.lor, h, ms) K) := by
  intro c0 s0 lv st σ hv
  obtain ⟨a, b, r, rfl, hv⟩ := kLL_e hv
  have hlen : len = 1 := by simpa [ch1] using hc
  subst hlen
  intro p e s m args below meth c H locs ls hE h1 h2 hn0 hH hS hl
  exact lv_lor hE.1 hE.2.1 hd (hK _ _ _ _ _ hv p e s m args below meth c H locs ls hE h1 h2 hn0 hH hS hl)
theorem sd_lxor (hd : decode M.2.1 pc = .ok (.lxor, len)) (hc : ch1 M pc (.lxor, h, ms) len = true) (hK : Sd X M R d Q (pc + len) K) : Sd X M R d Q pc (vi X R d Q J (.lxor, h, ms) K) := by
  intro c0 s0 lv st σ hv
  obtain ⟨a, b, r, rfl, hv⟩ := kLL_e hv
  have hlen : len = 1 := by simpa [ch1] using hc
  subst hlen
  intro p e s m args below meth c H locs ls hE h1 h2 hn0 hH hS hl
  exact lv_lxor hE.1 hE.2.1 hd (hK _ _ _ _ _ hv p e s m args below meth c H locs ls hE h1 h2 hn0 hH hS hl)
theorem sd_ldiv (hd : decode M.2.1 pc = .ok (.ldiv, len)) (hc : ch1 M pc (.ldiv, h, ms) len = true) (hK : Sd X M R d Q (pc + len) K) : Sd X M R d Q pc (vi X R d Q J (.ldiv, h, ms) K) := by
  intro c0 s0 lv st σ hv
  obtain ⟨a, b, r, rfl, hv⟩ := kLL_e hv
  obtain ⟨hne, hv⟩ := hv
  have hlen : len = 1 := by simpa [ch1] using hc
  subst hlen
  intro p e s m args below meth c H locs ls hE h1 h2 hn0 hH hS hl
  exact lv_ldiv hE.1 hE.2.1 hd hne (hK _ _ _ _ _ hv p e s m args below meth c H locs ls hE h1 h2 hn0 hH hS hl)
theorem sd_lrem (hd : decode M.2.1 pc = .ok (.lrem, len)) (hc : ch1 M pc (.lrem, h, ms) len = true) (hK : Sd X M R d Q (pc + len) K) : Sd X M R d Q pc (vi X R d Q J (.lrem, h, ms) K) := by
  intro c0 s0 lv st σ hv
  obtain ⟨a, b, r, rfl, hv⟩ := kLL_e hv
  obtain ⟨hne, hv⟩ := hv
  have hlen : len = 1 := by simpa [ch1] using hc
  subst hlen
  intro p e s m args below meth c H locs ls hE h1 h2 hn0 hH hS hl
  exact lv_lrem hE.1 hE.2.1 hd hne (hK _ _ _ _ _ hv p e s m args below meth c H locs ls hE h1 h2 hn0 hH hS hl)
theorem sd_lcmp (hd : decode M.2.1 pc = .ok (.lcmp, len)) (hc : ch1 M pc (.lcmp, h, ms) len = true) (hK : Sd X M R d Q (pc + len) K) : Sd X M R d Q pc (vi X R d Q J (.lcmp, h, ms) K) := by
  intro c0 s0 lv st σ hv
  obtain ⟨a, b, r, rfl, hv⟩ := kLL_e hv
  have hlen : len = 1 := by simpa [ch1] using hc
  subst hlen
  intro p e s m args below meth c H locs ls hE h1 h2 hn0 hH hS hl
  exact W.lcmp hE.1 hE.2.1 hd (hK _ _ _ _ _ hv p e s m args below meth c H locs ls hE h1 h2 hn0 hH hS hl)
theorem sd_lshl (hd : decode M.2.1 pc = .ok (.lshl, len)) (hc : ch1 M pc (.lshl, h, ms) len = true) (hK : Sd X M R d Q (pc + len) K) : Sd X M R d Q pc (vi X R d Q J (.lshl, h, ms) K) := by
  intro c0 s0 lv st σ hv
  obtain ⟨a, b, r, rfl, hv⟩ := kLI_e hv
  have hlen : len = 1 := by simpa [ch1] using hc
  subst hlen
  intro p e s m args below meth c H locs ls hE h1 h2 hn0 hH hS hl
  exact lv_lshl hE.1 hE.2.1 hd rfl (hK _ _ _ _ _ hv p e s m args below meth c H locs ls hE h1 h2 hn0 hH hS hl)
theorem sd_lshr (hd : decode M.2.1 pc = .ok (.lshr, len)) (hc : ch1 M pc (.lshr, h, ms) len = true) (hK : Sd X M R d Q (pc + len) K) : Sd X M R d Q pc (vi X R d Q J (.lshr, h, ms) K) := by
  intro c0 s0 lv st σ hv
  obtain ⟨a, b, r, rfl, hv⟩ := kLI_e hv
  have hlen : len = 1 := by simpa [ch1] using hc
  subst hlen
  intro p e s m args below meth c H locs ls hE h1 h2 hn0 hH hS hl
  exact lv_lshr hE.1 hE.2.1 hd rfl (hK _ _ _ _ _ hv p e s m args below meth c H locs ls hE h1 h2 hn0 hH hS hl)
theorem sd_lushr (hd : decode M.2.1 pc = .ok (.lushr, len)) (hc : ch1 M pc (.lushr, h, ms) len = true) (hK : Sd X M R d Q (pc + len) K) : Sd X M R d Q pc (vi X R d Q J (.lushr, h, ms) K) := by
  intro c0 s0 lv st σ hv
  obtain ⟨a, b, r, rfl, hv⟩ := kLI_e hv
  have hlen : len = 1 := by simpa [ch1] using hc
  subst hlen
  intro p e s m args below meth c H locs ls hE h1 h2 hn0 hH hS hl
  exact lv_lushr hE.1 hE.2.1 hd rfl (hK _ _ _ _ _ hv p e s m args below meth c H locs ls hE h1 h2 hn0 hH hS hl)
theorem sd_ineg (hd : decode M.2.1 pc = .ok (.ineg, len)) (hc : ch1 M pc (.ineg, h, ms) len = true) (hK : Sd X M R d Q (pc + len) K) : Sd X M R d Q pc (vi X R d Q J (.ineg, h, ms) K) := by
  intro c0 s0 lv st σ hv
  obtain ⟨a, r, rfl, hv⟩ := kI_e hv
  have hlen : len = 1 := by simpa [ch1] using hc
  subst hlen
  intro p e s m args below meth c H locs ls hE h1 h2 hn0 hH hS hl
  exact lv_ineg hE.1 hE.2.1 hd (hK _ _ _ _ _ hv p e s m args below meth c H locs ls hE h1 h2 hn0 hH hS hl)
theorem sd_i2l (hd : decode M.2.1 pc = .ok (.i2l, len)) (hc : ch1 M pc (.i2l, h, ms) len = true) (hK : Sd X M R d Q (pc + len) K) : Sd X M R d Q pc (vi X R d Q J (.i2l, h, ms) K) := by
  intro c0 s0 lv st σ hv
  obtain ⟨a, r, rfl, hv⟩ := kI_e hv
  have hlen : len = 1 := by simpa [ch1] using hc
  subst hlen
  intro p e s m args below meth c H locs ls hE h1 h2 hn0 hH hS hl
  exact lv_i2l hE.1 hE.2.1 hd rfl (hK _ _ _ _ _ hv p e s m args below meth c H locs ls hE h1 h2 hn0 hH hS hl)
theorem sd_i2b (hd : decode M.2.1 pc = .ok (.i2b, len)) (hc : ch1 M pc (.i2b, h, ms) len = true) (hK : Sd X M R d Q (pc + len) K) : Sd X M R d Q pc (vi X R d Q J (.i2b, h, ms) K) := by
  intro c0 s0 lv st σ hv
  obtain ⟨a, r, rfl, hv⟩ := kI_e hv
  have hlen : len = 1 := by simpa [ch1] using hc
  subst hlen
  intro p e s m args below meth c H locs ls hE h1 h2 hn0 hH hS hl
  exact lv_i2b hE.1 hE.2.1 hd rfl (hK _ _ _ _ _ hv p e s m args below meth c H locs ls hE h1 h2 hn0 hH hS hl)
theorem sd_i2s (hd : decode M.2.1 pc = .ok (.i2s, len)) (hc : ch1 M pc (.i2s, h, ms) len = true) (hK : Sd X M R d Q (pc + len) K) : Sd X M R d Q pc (vi X R d Q J (.i2s, h, ms) K) := by
  intro c0 s0 lv st σ hv
  obtain ⟨a, r, rfl, hv⟩ := kI_e hv
  have hlen : len = 1 := by simpa [ch1] using hc
  subst hlen
  intro p e s m args below meth c H locs ls hE h1 h2 hn0 hH hS hl
  exact lv_i2s hE.1 hE.2.1 hd rfl (hK _ _ _ _ _ hv p e s m args below meth c H locs ls hE h1 h2 hn0 hH hS hl)
theorem sd_i2c (hd : decode M.2.1 pc = .ok (.i2c, len)) (hc : ch1 M pc (.i2c, h, ms) len = true) (hK : Sd X M R d Q (pc + len) K) : Sd X M R d Q pc (vi X R d Q J (.i2c, h, ms) K) := by
  intro c0 s0 lv st σ hv
  obtain ⟨a, r, rfl, hv⟩ := kI_e hv
  have hlen : len = 1 := by simpa [ch1] using hc
  subst hlen
  intro p e s m args below meth c H locs ls hE h1 h2 hn0 hH hS hl
  exact lv_i2c hE.1 hE.2.1 hd rfl (hK _ _ _ _ _ hv p e s m args below meth c H locs ls hE h1 h2 hn0 hH hS hl)
theorem sd_l2i (hd : decode M.2.1 pc = .ok (.l2i, len)) (hc : ch1 M pc (.l2i, h, ms) len = true) (hK : Sd X M R d Q (pc + len) K) : Sd X M R d Q pc (vi X R d Q J (.l2i, h, ms) K) := by
  intro c0 s0 lv st σ hv
  obtain ⟨a, r, rfl, hv⟩ := kL_e hv
  have hlen : len = 1 := by simpa [ch1] using hc
  subst hlen
  intro p e s m args below meth c H locs ls hE h1 h2 hn0 hH hS hl
  exact lv_l2i hE.1 hE.2.1 hd rfl (hK _ _ _ _ _ hv p e s m args below meth c H locs ls hE h1 h2 hn0 hH hS hl)
theorem sd_iconst {n : Int} (hd : decode M.2.1 pc = .ok (.iconst n, len)) (hc : ch1 M pc (.iconst n, h, ms) len = true) (hK : Sd X M R d Q (pc + len) K) : Sd X M R d Q pc (vi X R d Q J (.iconst n, h, ms) K) := by
  intro c0 s0 lv st σ hv
  have hlen : len = 1 := by simpa [ch1] using hc
  subst hlen
  intro p e s m args below meth c H locs ls hE h1 h2 hn0 hH hS hl
  exact lv_iconst hE.1 hE.2.1 hd rfl (hK _ _ _ _ _ hv p e s m args below meth c H locs ls hE h1 h2 hn0 hH hS hl)
theorem sd_bipush {n : Int} (hd : decode M.2.1 pc = .ok (.bipush n, len)) (hc : ch1 M pc (.bipush n, h, ms) len = true) (hK : Sd X M R d Q (pc + len) K) : Sd X M R d Q pc (vi X R d Q J (.bipush n, h, ms) K) := by
  intro c0 s0 lv st σ hv
  obtain ⟨hlen, hn⟩ : len = 2 ∧ (Int8.ofInt n).toInt32 = Int32.ofInt n := by simpa [ch1] using hc
  subst hlen
  intro p e s m args below meth c H locs ls hE h1 h2 hn0 hH hS hl
  exact lv_bipush hE.1 hE.2.1 hd hn (hK _ _ _ _ _ hv p e s m args below meth c H locs ls hE h1 h2 hn0 hH hS hl)
theorem sd_sipush {n : Int} (hd : decode M.2.1 pc = .ok (.sipush n, len)) (hc : ch1 M pc (.sipush n, h, ms) len = true) (hK : Sd X M R d Q (pc + len) K) : Sd X M R d Q pc (vi X R d Q J (.sipush n, h, ms) K) := by
  intro c0 s0 lv st σ hv
  obtain ⟨hlen, hn⟩ : len = 3 ∧ (Int16.ofInt n).toInt32 = Int32.ofInt n := by simpa [ch1] using hc
  subst hlen
  intro p e s m args below meth c H locs ls hE h1 h2 hn0 hH hS hl
  exact lv_sipush hE.1 hE.2.1 hd hn (hK _ _ _ _ _ hv p e s m args below meth c H locs ls hE h1 h2 hn0 hH hS hl)
theorem sd_lconst {n : Fin 2} (hd : decode M.2.1 pc = .ok (.lconst n, len)) (hc : ch1 M pc (.lconst n, h, ms) len = true) (hK : Sd X M R d Q (pc + len) K) : Sd X M R d Q pc (vi X R d Q J (.lconst n, h, ms) K) := by
  intro c0 s0 lv st σ hv
  have hlen : len = 1 := by simpa [ch1] using hc
  subst hlen
  intro p e s m args below meth c H locs ls hE h1 h2 hn0 hH hS hl
  exact lv_lconst hE.1 hE.2.1 hd rfl (hK _ _ _ _ _ hv p e s m args below meth c H locs ls hE h1 h2 hn0 hH hS hl)
theorem sd_ldcI {x v k : Nat} (hd : decode M.2.1 pc = .ok (.ldc x, len)) (hc : ch1 M pc (.ldc x, 0 :: v :: k :: h, ms) len = true) (hK : Sd X M R d Q (pc + len) K) : Sd X M R d Q pc (vi X R d Q J (.ldc x, 0 :: v :: k :: h, ms) K) := by
  intro c0 s0 lv st σ hv
  obtain ⟨hlen, hn⟩ : len = 2 ∧ inT k (.constant M.1.cls x (Int32.ofNat v)) = true := by simpa [ch1] using hc
  subst hlen
  intro p e s m args below meth c H locs ls hE h1 h2 hn0 hH hS hl
  obtain ⟨hx, hb, hr, hml, hlk, hnm, hown, hts, hrest⟩ := id hE
  exact lv_ldc hx hb hown (hts _ (inT_mem hn)) hd (hK _ _ _ _ _ hv p e s m args below meth c H locs ls hE h1 h2 hn0 hH hS hl)
theorem sd_ldcw {x v k : Nat} (hd : decode M.2.1 pc = .ok (.ldc_w x, len)) (hc : ch1 M pc (.ldc_w x, v :: k :: h, ms) len = true) (hK : Sd X M R d Q (pc + len) K) : Sd X M R d Q pc (vi X R d Q J (.ldc_w x, v :: k :: h, ms) K) := by
  intro c0 s0 lv st σ hv
  obtain ⟨hlen, hn⟩ : len = 3 ∧ inT k (.constant M.1.cls x (Int32.ofNat v)) = true := by simpa [ch1] using hc
  subst hlen
  intro p e s m args below meth c H locs ls hE h1 h2 hn0 hH hS hl
  obtain ⟨hx, hb, hr, hml, hlk, hnm, hown, hts, hrest⟩ := id hE
  exact lv_ldcw hx hb hown (hts _ (inT_mem hn)) hd (hK _ _ _ _ _ hv p e s m args below meth c H locs ls hE h1 h2 hn0 hH hS hl)
theorem sd_ldc2 {x v k : Nat} (hd : decode M.2.1 pc = .ok (.ldc2_w x, len)) (hc : ch1 M pc (.ldc2_w x, v :: k :: h, ms) len = true) (hK : Sd X M R d Q (pc + len) K) : Sd X M R d Q pc (vi X R d Q J (.ldc2_w x, v :: k :: h, ms) K) := by
  intro c0 s0 lv st σ hv
  obtain ⟨hlen, hn⟩ : len = 3 ∧ inT k (.constantLong M.1.cls x (Int64.ofNat v)) = true := by simpa [ch1] using hc
  subst hlen
  intro p e s m args below meth c H locs ls hE h1 h2 hn0 hH hS hl
  obtain ⟨hx, hb, hr, hml, hlk, hnm, hown, hts, hrest⟩ := id hE
  exact lv_ldc2 hx hb hown (hts _ (inT_mem hn)) hd (hK _ _ _ _ _ hv p e s m args below meth c H locs ls hE h1 h2 hn0 hH hS hl)
theorem sd_ldcS {x i : Nat} (hd : decode M.2.1 pc = .ok (.ldc x, len)) (hc : ch1 M pc (.ldc x, 1 :: i :: h, ms) len = true) (hK : Sd X M R d Q (pc + len) K) : Sd X M R d Q pc (vi X R d Q J (.ldc x, 1 :: i :: h, ms) K) := by
  intro c0 s0 lv st σ hv
  simp only [ch1, Bool.and_eq_true, beq_iff_eq] at hc
  obtain ⟨hlen, hn⟩ := hc
  subst hlen
  cases hq : stT[i]? with
  | none => rw [hq] at hn; cases hn
  | some q =>
    rw [hq] at hn
    simp only [Bool.and_eq_true, decide_eq_true_eq] at hn
    obtain ⟨⟨e1, e2⟩, e3⟩ := hn
    intro p e s m args below meth c H locs ls hE h1 h2 hn0 hH hS hl
    obtain ⟨hx, hb, hr, hml, hlk, hnm, hown, hts, hKk, hO, hrest⟩ := id hE
    have hZ := hO.2.1 i q hq
    rw [e1, e2] at hZ
    have := hK _ _ _ _ _ hv p e s m args below meth c H locs ls hE h1 h2 hn0 hH hS hl
    refine va_ldcS hx hb hown hZ hd ?_
    have ea : adr X (1000000 + i) = cxS X i := by unfold adr; rw [if_neg (by omega), if_pos (by omega), Nat.add_sub_cancel_left]
    rw [List.map_cons, tv_ref, ea] at this
    exact this
theorem sd_iload_n {k : Fin 4} (hd : decode M.2.1 pc = .ok (.iload_n k, len)) (hc : ch1 M pc (.iload_n k, h, ms) len = true) (hK : Sd X M R d Q (pc + len) K) : Sd X M R d Q pc (vi X R d Q J (.iload_n k, h, ms) K) := by
  intro c0 s0 lv st σ hv
  obtain ⟨v, hg, hv⟩ := kLd_e hv
  obtain ⟨a, r, ha, hv⟩ := kI_e hv
  cases ha
  have hlen : len = 1 := by simpa [ch1] using hc
  subst hlen
  intro p e s m args below meth c H locs ls hE h1 h2 hn0 hH hS hl
  exact lv_iload_n hE.1 hE.2.1 hd rfl (hl.2.2 _ _ (lget_at _ _ _ hg)) (hK _ _ _ _ _ hv p e s m args below meth c H locs ls hE h1 h2 hn0 hH hS hl)
theorem sd_iload {k : Nat} (hd : decode M.2.1 pc = .ok (.iload k, len)) (hc : ch1 M pc (.iload k, h, ms) len = true) (hK : Sd X M R d Q (pc + len) K) : Sd X M R d Q pc (vi X R d Q J (.iload k, h, ms) K) := by
  intro c0 s0 lv st σ hv
  obtain ⟨v, hg, hv⟩ := kLd_e hv
  obtain ⟨a, r, ha, hv⟩ := kI_e hv
  cases ha
  have hlen : len = 2 := by simpa [ch1] using hc
  subst hlen
  intro p e s m args below meth c H locs ls hE h1 h2 hn0 hH hS hl
  exact lv_iload hE.1 hE.2.1 hd (hl.2.2 _ _ (lget_at _ _ _ hg)) (hK _ _ _ _ _ hv p e s m args below meth c H locs ls hE h1 h2 hn0 hH hS hl)
theorem sd_lload_n {k : Fin 4} (hd : decode M.2.1 pc = .ok (.lload_n k, len)) (hc : ch1 M pc (.lload_n k, h, ms) len = true) (hK : Sd X M R d Q (pc + len) K) : Sd X M R d Q pc (vi X R d Q J (.lload_n k, h, ms) K) := by
  intro c0 s0 lv st σ hv
  obtain ⟨v, hg, hv⟩ := kLd_e hv
  obtain ⟨a, r, ha, hv⟩ := kL_e hv
  cases ha
  have hlen : len = 1 := by simpa [ch1] using hc
  subst hlen
  intro p e s m args below meth c H locs ls hE h1 h2 hn0 hH hS hl
  exact lv_lload_n hE.1 hE.2.1 hd rfl (hl.2.2 _ _ (lget_at _ _ _ hg)) (hK _ _ _ _ _ hv p e s m args below meth c H locs ls hE h1 h2 hn0 hH hS hl)
theorem sd_lload {k : Nat} (hd : decode M.2.1 pc = .ok (.lload k, len)) (hc : ch1 M pc (.lload k, h, ms) len = true) (hK : Sd X M R d Q (pc + len) K) : Sd X M R d Q pc (vi X R d Q J (.lload k, h, ms) K) := by
  intro c0 s0 lv st σ hv
  obtain ⟨v, hg, hv⟩ := kLd_e hv
  obtain ⟨a, r, ha, hv⟩ := kL_e hv
  cases ha
  have hlen : len = 2 := by simpa [ch1] using hc
  subst hlen
  intro p e s m args below meth c H locs ls hE h1 h2 hn0 hH hS hl
  exact lv_lload hE.1 hE.2.1 hd (hl.2.2 _ _ (lget_at _ _ _ hg)) (hK _ _ _ _ _ hv p e s m args below meth c H locs ls hE h1 h2 hn0 hH hS hl)
theorem sd_aload_n {k : Fin 4} (hd : decode M.2.1 pc = .ok (.aload_n k, len)) (hc : ch1 M pc (.aload_n k, h, ms) len = true) (hK : Sd X M R d Q (pc + len) K) : Sd X M R d Q pc (vi X R d Q J (.aload_n k, h, ms) K) := by
  intro c0 s0 lv st σ hv
  obtain ⟨v, hg, hv⟩ := kLd_e hv
  obtain ⟨a, r, ha, hv⟩ := kR_e hv
  cases ha
  have hlen : len = 1 := by simpa [ch1] using hc
  subst hlen
  intro p e s m args below meth c H locs ls hE h1 h2 hn0 hH hS hl
  exact lv_aload_n hE.1 hE.2.1 hd rfl (hl.2.2 _ _ (lget_at _ _ _ hg)) (hK _ _ _ _ _ hv p e s m args below meth c H locs ls hE h1 h2 hn0 hH hS hl)
theorem sd_aload {k : Nat} (hd : decode M.2.1 pc = .ok (.aload k, len)) (hc : ch1 M pc (.aload k, h, ms) len = true) (hK : Sd X M R d Q (pc + len) K) : Sd X M R d Q pc (vi X R d Q J (.aload k, h, ms) K) := by
  intro c0 s0 lv st σ hv
  obtain ⟨v, hg, hv⟩ := kLd_e hv
  obtain ⟨a, r, ha, hv⟩ := kR_e hv
  cases ha
  have hlen : len = 2 := by simpa [ch1] using hc
  subst hlen
  intro p e s m args below meth c H locs ls hE h1 h2 hn0 hH hS hl
  exact lv_aload hE.1 hE.2.1 hd (hl.2.2 _ _ (lget_at _ _ _ hg)) (hK _ _ _ _ _ hv p e s m args below meth c H locs ls hE h1 h2 hn0 hH hS hl)
theorem sd_istore_n {k : Fin 4} (hd : decode M.2.1 pc = .ok (.istore_n k, len)) (hc : ch1 M pc (.istore_n k, h, ms) len = true) (hK : Sd X M R d Q (pc + len) K) : Sd X M R d Q pc (vi X R d Q J (.istore_n k, h, ms) K) := by
  intro c0 s0 lv st σ hv
  obtain ⟨a, r, rfl, hv⟩ := kI_e hv
  obtain ⟨hlen, hn⟩ : len = 1 ∧ (k : Nat) < M.2.2.1 := by simpa [ch1] using hc
  subst hlen
  intro p e s m args below meth c H locs ls hE h1 h2 hn0 hH hS hl
  exact lv_istore_n hE.1 hE.2.1 hd rfl (al_has hl) hn rfl (fun ls' hl' => hK _ _ _ _ _ hv p e s m args below meth c H locs ls' hE h1 h2 hn0 hH hS (lh_set1 hl'))
theorem sd_istore {k : Nat} (hd : decode M.2.1 pc = .ok (.istore k, len)) (hc : ch1 M pc (.istore k, h, ms) len = true) (hK : Sd X M R d Q (pc + len) K) : Sd X M R d Q pc (vi X R d Q J (.istore k, h, ms) K) := by
  intro c0 s0 lv st σ hv
  obtain ⟨a, r, rfl, hv⟩ := kI_e hv
  obtain ⟨hlen, hn⟩ : len = 2 ∧ k < M.2.2.1 := by simpa [ch1] using hc
  subst hlen
  intro p e s m args below meth c H locs ls hE h1 h2 hn0 hH hS hl
  exact lv_istore hE.1 hE.2.1 hd (al_has hl) hn rfl (fun ls' hl' => hK _ _ _ _ _ hv p e s m args below meth c H locs ls' hE h1 h2 hn0 hH hS (lh_set1 hl'))
theorem sd_lstore_n {k : Fin 4} (hd : decode M.2.1 pc = .ok (.lstore_n k, len)) (hc : ch1 M pc (.lstore_n k, h, ms) len = true) (hK : Sd X M R d Q (pc + len) K) : Sd X M R d Q pc (vi X R d Q J (.lstore_n k, h, ms) K) := by
  intro c0 s0 lv st σ hv
  obtain ⟨a, r, rfl, hv⟩ := kL_e hv
  obtain ⟨hlen, hn⟩ : len = 1 ∧ (k : Nat) + 1 < M.2.2.1 := by simpa [ch1] using hc
  subst hlen
  intro p e s m args below meth c H locs ls hE h1 h2 hn0 hH hS hl
  exact lv_lstore_n hE.1 hE.2.1 hd rfl (al_has hl) hn rfl (fun ls' hl' => hK _ _ _ _ _ hv p e s m args below meth c H locs ls' hE h1 h2 hn0 hH hS (lh_set2 hl'))
theorem sd_lstore {k : Nat} (hd : decode M.2.1 pc = .ok (.lstore k, len)) (hc : ch1 M pc (.lstore k, h, ms) len = true) (hK : Sd X M R d Q (pc + len) K) : Sd X M R d Q pc (vi X R d Q J (.lstore k, h, ms) K) := by
  intro c0 s0 lv st σ hv
  obtain ⟨a, r, rfl, hv⟩ := kL_e hv
  obtain ⟨hlen, hn⟩ : len = 2 ∧ k + 1 < M.2.2.1 := by simpa [ch1] using hc
  subst hlen
  intro p e s m args below meth c H locs ls hE h1 h2 hn0 hH hS hl
  exact lv_lstore hE.1 hE.2.1 hd (al_has hl) hn rfl (fun ls' hl' => hK _ _ _ _ _ hv p e s m args below meth c H locs ls' hE h1 h2 hn0 hH hS (lh_set2 hl'))
theorem sd_astore_n {k : Fin 4} (hd : decode M.2.1 pc = .ok (.astore_n k, len)) (hc : ch1 M pc (.astore_n k, h, ms) len = true) (hK : Sd X M R d Q (pc + len) K) : Sd X M R d Q pc (vi X R d Q J (.astore_n k, h, ms) K) := by
  intro c0 s0 lv st σ hv
  obtain ⟨a, r, rfl, hv⟩ := kR_e hv
  obtain ⟨hlen, hn⟩ : len = 1 ∧ (k : Nat) < M.2.2.1 := by simpa [ch1] using hc
  subst hlen
  intro p e s m args below meth c H locs ls hE h1 h2 hn0 hH hS hl
  exact lv_astore_n hE.1 hE.2.1 hd rfl (al_has hl) hn rfl (fun ls' hl' => hK _ _ _ _ _ hv p e s m args below meth c H locs ls' hE h1 h2 hn0 hH hS (lh_set1 hl'))
theorem sd_astore {k : Nat} (hd : decode M.2.1 pc = .ok (.astore k, len)) (hc : ch1 M pc (.astore k, h, ms) len = true) (hK : Sd X M R d Q (pc + len) K) : Sd X M R d Q pc (vi X R d Q J (.astore k, h, ms) K) := by
  intro c0 s0 lv st σ hv
  obtain ⟨a, r, rfl, hv⟩ := kR_e hv
  obtain ⟨hlen, hn⟩ : len = 2 ∧ k < M.2.2.1 := by simpa [ch1] using hc
  subst hlen
  intro p e s m args below meth c H locs ls hE h1 h2 hn0 hH hS hl
  exact lv_astore hE.1 hE.2.1 hd (al_has hl) hn rfl (fun ls' hl' => hK _ _ _ _ _ hv p e s m args below meth c H locs ls' hE h1 h2 hn0 hH hS (lh_set1 hl'))
theorem sd_iinc {k : Nat} {n : Int} (hd : decode M.2.1 pc = .ok (.iinc k n, len)) (hc : ch1 M pc (.iinc k n, h, ms) len = true) (hK : Sd X M R d Q (pc + len) K) : Sd X M R d Q pc (vi X R d Q J (.iinc k n, h, ms) K) := by
  intro c0 s0 lv st σ hv
  obtain ⟨v, hg, hv⟩ := kLd_e hv
  obtain ⟨a, r, ha, hv⟩ := kI_e hv
  cases ha
  obtain ⟨hlen, hn⟩ : len = 3 ∧ k < M.2.2.1 := by simpa [ch1] using hc
  subst hlen
  intro p e s m args below meth c H locs ls hE h1 h2 hn0 hH hS hl
  obtain ⟨j, hj⟩ := List.getElem?_of_mem (al_mem (X := X) (lget_at _ _ _ hg))
  exact lv_iinc hE.1 hE.2.1 hd (al_has hl) hj rfl hn rfl (fun ls' hl' => hK _ _ _ _ _ hv p e s m args below meth c H locs ls' hE h1 h2 hn0 hH hS (lh_set1 hl'))
theorem sd_dup (hd : decode M.2.1 pc = .ok (.dup, len)) (hc : ch1 M pc (.dup, h, ms) len = true) (hK : Sd X M R d Q (pc + len) K) : Sd X M R d Q pc (vi X R d Q J (.dup, h, ms) K) := by
  intro c0 s0 lv st σ hv
  obtain ⟨v, r, rfl, hcat, hv⟩ := kV_e hv
  have hlen : len = 1 := by simpa [ch1] using hc
  subst hlen
  intro p e s m args below meth c H locs ls hE h1 h2 hn0 hH hS hl
  exact lv_dup hE.1 hE.2.1 hd (by rw [tv_cat]; exact hcat) (hK _ _ _ _ _ hv p e s m args below meth c H locs ls hE h1 h2 hn0 hH hS hl)
theorem sd_pop (hd : decode M.2.1 pc = .ok (.pop, len)) (hc : ch1 M pc (.pop, h, ms) len = true) (hK : Sd X M R d Q (pc + len) K) : Sd X M R d Q pc (vi X R d Q J (.pop, h, ms) K) := by
  intro c0 s0 lv st σ hv
  obtain ⟨v, r, rfl, hcat, hv⟩ := kV_e hv
  have hlen : len = 1 := by simpa [ch1] using hc
  subst hlen
  intro p e s m args below meth c H locs ls hE h1 h2 hn0 hH hS hl
  exact lv_pop hE.1 hE.2.1 hd (by rw [tv_cat]; exact hcat) (hK _ _ _ _ _ hv p e s m args below meth c H locs ls hE h1 h2 hn0 hH hS hl)
theorem sd_dup2a (hd : decode M.2.1 pc = .ok (.dup2, len)) (hc : ch1 M pc (.dup2, 0 :: h, ms) len = true) (hK : Sd X M R d Q (pc + len) K) : Sd X M R d Q pc (vi X R d Q J (.dup2, 0 :: h, ms) K) := by
  intro c0 s0 lv st σ hv
  obtain ⟨v, u, r, rfl, hcat, hcat2, hv⟩ := kVV_e hv
  have hlen : len = 1 := by simpa [ch1] using hc
  subst hlen
  intro p e s m args below meth c H locs ls hE h1 h2 hn0 hH hS hl
  exact lv_dup2_11 hE.1 hE.2.1 hd (by rw [tv_cat]; first | exact hcat2 | exact hcat) (by rw [tv_cat]; first | exact hcat | exact hcat2) (hK _ _ _ _ _ hv p e s m args below meth c H locs ls hE h1 h2 hn0 hH hS hl)
theorem sd_dup2b (hd : decode M.2.1 pc = .ok (.dup2, len)) (hc : ch1 M pc (.dup2, 1 :: h, ms) len = true) (hK : Sd X M R d Q (pc + len) K) : Sd X M R d Q pc (vi X R d Q J (.dup2, 1 :: h, ms) K) := by
  intro c0 s0 lv st σ hv
  obtain ⟨v, r, rfl, hcat, hv⟩ := kV_e hv
  have hlen : len = 1 := by simpa [ch1] using hc
  subst hlen
  intro p e s m args below meth c H locs ls hE h1 h2 hn0 hH hS hl
  exact lv_dup2_2 hE.1 hE.2.1 hd (by rw [tv_cat]; exact hcat) (hK _ _ _ _ _ hv p e s m args below meth c H locs ls hE h1 h2 hn0 hH hS hl)
theorem sd_pop2a (hd : decode M.2.1 pc = .ok (.pop2, len)) (hc : ch1 M pc (.pop2, 0 :: h, ms) len = true) (hK : Sd X M R d Q (pc + len) K) : Sd X M R d Q pc (vi X R d Q J (.pop2, 0 :: h, ms) K) := by
  intro c0 s0 lv st σ hv
  obtain ⟨v, u, r, rfl, hcat, hcat2, hv⟩ := kVV_e hv
  have hlen : len = 1 := by simpa [ch1] using hc
  subst hlen
  intro p e s m args below meth c H locs ls hE h1 h2 hn0 hH hS hl
  exact lv_pop2_11 hE.1 hE.2.1 hd (by rw [tv_cat]; first | exact hcat2 | exact hcat) (by rw [tv_cat]; first | exact hcat | exact hcat2) (hK _ _ _ _ _ hv p e s m args below meth c H locs ls hE h1 h2 hn0 hH hS hl)
theorem sd_pop2b (hd : decode M.2.1 pc = .ok (.pop2, len)) (hc : ch1 M pc (.pop2, 1 :: h, ms) len = true) (hK : Sd X M R d Q (pc + len) K) : Sd X M R d Q pc (vi X R d Q J (.pop2, 1 :: h, ms) K) := by
  intro c0 s0 lv st σ hv
  obtain ⟨v, r, rfl, hcat, hv⟩ := kV_e hv
  have hlen : len = 1 := by simpa [ch1] using hc
  subst hlen
  intro p e s m args below meth c H locs ls hE h1 h2 hn0 hH hS hl
  exact lv_pop2_2 hE.1 hE.2.1 hd (by rw [tv_cat]; exact hcat) (hK _ _ _ _ _ hv p e s m args below meth c H locs ls hE h1 h2 hn0 hH hS hl)
theorem sd_icmp {cd : Jvm.ClassFile.Cond} {off : Int} {t : Nat} (hJ : Sd X M R d Q t (J t)) (hd : decode M.2.1 pc = .ok (.if_icmp cd off, len)) (hc : ch1 M pc (.if_icmp cd off, t :: h, ms) len = true) (hK : Sd X M R d Q (pc + len) K) : Sd X M R d Q pc (vi X R d Q J (.if_icmp cd off, t :: h, ms) K) := by
  intro c0 s0 lv st σ hv
  obtain ⟨a, b, r, rfl, hv1, hv2⟩ := kII_e hv
  obtain ⟨hlen, ht⟩ : len = 3 ∧ (pc : Int) + off = (t : Int) := by simpa [ch1] using hc
  subst hlen
  intro p e s m args below meth c H locs ls hE h1 h2 hn0 hH hS hl
  have g1 := fun q => hJ _ _ _ _ _ (hv1 q) p e s m args below meth c H locs ls hE h1 h2 hn0 hH hS hl
  have g2 := fun q => hK _ _ _ _ _ (hv2 q) p e s m args below meth c H locs ls hE h1 h2 hn0 hH hS hl
  cases cd with
  | eq => exact lv_icmp_eq hE.1 hE.2.1 hd ht g1 g2
  | ne => exact lv_icmp_ne hE.1 hE.2.1 hd ht g1 (fun q => g2 (fun z => z q))
  | lt => exact lv_icmp_lt hE.1 hE.2.1 hd ht g1 g2
  | ge => exact lv_icmp_ge hE.1 hE.2.1 hd ht g1 g2
  | gt => exact lv_icmp_gt hE.1 hE.2.1 hd ht g1 g2
  | le => exact lv_icmp_le hE.1 hE.2.1 hd ht g1 g2
theorem sd_ifc {cd : Jvm.ClassFile.Cond} {off : Int} {t : Nat} (hJ : Sd X M R d Q t (J t)) (hd : decode M.2.1 pc = .ok (.ifCond cd off, len)) (hc : ch1 M pc (.ifCond cd off, t :: h, ms) len = true) (hK : Sd X M R d Q (pc + len) K) : Sd X M R d Q pc (vi X R d Q J (.ifCond cd off, t :: h, ms) K) := by
  intro c0 s0 lv st σ hv
  obtain ⟨a, r, rfl, hv1, hv2⟩ := kI_e hv
  obtain ⟨hlen, ht⟩ : len = 3 ∧ (pc : Int) + off = (t : Int) := by simpa [ch1] using hc
  subst hlen
  intro p e s m args below meth c H locs ls hE h1 h2 hn0 hH hS hl
  have g1 := fun q => hJ _ _ _ _ _ (hv1 q) p e s m args below meth c H locs ls hE h1 h2 hn0 hH hS hl
  have g2 := fun q => hK _ _ _ _ _ (hv2 q) p e s m args below meth c H locs ls hE h1 h2 hn0 hH hS hl
  cases cd with
  | eq => exact lv_if_eq hE.1 hE.2.1 hd ht g1 g2
  | ne => exact lv_if_ne hE.1 hE.2.1 hd ht g1 (fun q => g2 (fun z => z q))
  | lt => exact lv_if_lt hE.1 hE.2.1 hd ht g1 g2
  | ge => exact lv_if_ge hE.1 hE.2.1 hd ht g1 g2
  | gt => exact lv_if_gt hE.1 hE.2.1 hd ht g1 g2
  | le => exact lv_if_le hE.1 hE.2.1 hd ht g1 g2
theorem sd_goto {off : Int} {t : Nat} (hJ : Sd X M R d Q t (J t)) (hd : decode M.2.1 pc = .ok (.goto off, len)) (hc : ch1 M pc (.goto off, t :: h, ms) len = true) : Sd X M R d Q pc (vi X R d Q J (.goto off, t :: h, ms) K) := by
  intro c0 s0 lv st σ hv
  obtain ⟨hlen, ht⟩ : len = 3 ∧ (pc : Int) + off = (t : Int) := by simpa [ch1] using hc
  subst hlen
  intro p e s m args below meth c H locs ls hE h1 h2 hn0 hH hS hl
  exact lv_goto hE.1 hE.2.1 hd ht (hJ _ _ _ _ _ hv p e s m args below meth c H locs ls hE h1 h2 hn0 hH hS hl)
theorem kSw_at {x : Int32} {F : Nat → Prop} : ∀ (ts : List Nat) (lo : Int) (k t : Nat), kSw x lo ts F → ts[k]? = some t → x = Int32.ofInt (lo + k) → F t
  | [], _, k, t, _, h, _ => by simp at h
  | u :: ts, lo, 0, t, hs, h, e => by simp at h; subst h; exact hs.1 (by simpa using e)
  | u :: ts, lo, k + 1, t, hs, h, e => kSw_at ts (lo + 1) k t hs.2 (by simpa using h) (by rw [e]; congr 1; omega)
theorem sd_table {df lo hi : Int} {offs : Array Int} {dt : Nat} {ts : List Nat} (hJ : ∀ t, Sd X M R d Q t (J t)) (hd : decode M.2.1 pc = .ok (.tableswitch df lo hi offs, len)) (hc : ch1 M pc (.tableswitch df lo hi offs, dt :: ts, ms) len = true) : Sd X M R d Q pc (vi X R d Q J (.tableswitch df lo hi offs, dt :: ts, ms) K) := by
  intro c0 s0 lv st σ hv
  obtain ⟨a, r, rfl, hv1, hv2⟩ := kI_e hv
  simp only [ch1, Bool.and_eq_true, decide_eq_true_eq] at hc
  obtain ⟨⟨⟨⟨hdt, hhi⟩, hlo⟩, hhi2⟩, hoff⟩ := hc
  intro p e s m args below meth c H locs ls hE h1 h2 hn0 hH hS hl
  by_cases hout : a.toInt < lo ∨ hi < a.toInt
  · exact lv_tableOut hE.1 hE.2.1 hd hout hdt (hJ _ _ _ _ _ _ (hv1 hout) p e s m args below meth c H locs ls hE h1 h2 hn0 hH hS hl)
  · have n1 : ¬ a.toInt < lo := fun q => hout (Or.inl q)
    have n2 : ¬ hi < a.toInt := fun q => hout (Or.inr q)
    obtain ⟨k, hk⟩ : ∃ k : Nat, a.toInt - lo = k := ⟨(a.toInt - lo).toNat, by omega⟩
    have hkl : k < ts.length := by omega
    have hol : offs.toList.length = ts.length := by simpa using congrArg List.length hoff
    have ho : offs[k]? = some (offs.toList[k]'(by omega)) := by
      rw [← Array.getElem?_toList]
      exact List.getElem?_eq_getElem (by omega)
    have ht : (pc : Int) + offs.toList[k]'(by omega) = ((ts[k]'hkl : Nat) : Int) := by
      have h9 := congrArg (fun l : List Int => l[k]?) hoff
      simp only [List.getElem?_map] at h9
      rw [List.getElem?_eq_getElem (by omega), List.getElem?_eq_getElem hkl] at h9
      simpa using h9
    have he : a = Int32.ofInt (lo + k) := by
      have : lo + (k : Int) = a.toInt := by omega
      rw [this]
      simp
    exact lv_tableIn hE.1 hE.2.1 hd n1 n2 (by rw [hk]; exact ho) ht (hJ _ _ _ _ _ _ (kSw_at ts lo k _ hv2 (List.getElem?_eq_getElem hkl) he) p e s m args below meth c H locs ls hE h1 h2 hn0 hH hS hl)
theorem kLk_at {x : Int32} {F : Nat → Prop} {dt : Nat} {pc df : Int} (hdt : pc + df = (dt : Int)) : ∀ (ps : List (Int × Int)) (ts : List Nat), ps.map (fun q => pc + q.2) = ts.map (fun (t : Nat) => (t : Int)) → (∀ q ∈ ps, (Int32.ofInt q.1).toInt = q.1) → kLk x F dt ps ts → ∃ t : Nat, F t ∧ pc + Op.lookupswitch.offset ps df x.toInt = (t : Int)
  | [], [], _, _, h => ⟨dt, h, by simpa [Op.lookupswitch.offset] using hdt⟩
  | [], _ :: _, hm, _, _ => by simp at hm
  | _ :: _, [], hm, _, _ => by simp at hm
  | (a, o) :: ps, t :: ts, hm, hi, h => by
    obtain ⟨h1, h2⟩ := h
    simp only [List.map_cons, List.cons.injEq] at hm
    have ha : (Int32.ofInt a).toInt = a := hi (a, o) List.mem_cons_self
    by_cases hx : x = Int32.ofInt a
    · refine ⟨t, h1 hx, ?_⟩
      rw [Op.lookupswitch.offset_cons, if_pos (by rw [hx, ha])]
      exact hm.1
    · obtain ⟨t', g1, g2⟩ := kLk_at hdt ps ts hm.2 (fun q hq => hi q (List.mem_cons_of_mem _ hq)) (h2 hx)
      refine ⟨t', g1, ?_⟩
      rw [lv_osw hx ha]
      exact g2
theorem sd_lookup {df : Int} {ps : Array (Int × Int)} {dt : Nat} {ts : List Nat} (hJ : ∀ t, Sd X M R d Q t (J t)) (hd : decode M.2.1 pc = .ok (.lookupswitch df ps, len)) (hc : ch1 M pc (.lookupswitch df ps, dt :: ts, ms) len = true) : Sd X M R d Q pc (vi X R d Q J (.lookupswitch df ps, dt :: ts, ms) K) := by
  intro c0 s0 lv st σ hv
  obtain ⟨a, r, rfl, hv⟩ := kI_e hv
  simp only [ch1, Bool.and_eq_true, decide_eq_true_eq] at hc
  obtain ⟨⟨⟨hdt, hsort⟩, hmap⟩, hall⟩ := hc
  obtain ⟨t, ht, hoff⟩ := kLk_at hdt ps.toList ts hmap (fun q hq => of_decide_eq_true (List.all_eq_true.mp hall q hq)) hv
  intro p e s m args below meth c H locs ls hE h1 h2 hn0 hH hS hl
  exact lv_lookup hE.1 hE.2.1 hd hsort rfl hoff (hJ _ _ _ _ _ _ ht p e s m args below meth c H locs ls hE h1 h2 hn0 hH hS hl)

end
