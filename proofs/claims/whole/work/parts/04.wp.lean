/-! Environments, the judgements Wp and Call -/
abbrev MI : Type := MethodName × ByteArray × Nat × Option FieldType
abbrev AI : Type := Instr × List Nat × List MI
abbrev Lv : Type := List (Option Value)
abbrev Ct : Type := Nat → Nat → Lv → List Value → Mm → Prop
abbrev Po : Type := Option Value → Mm → Prop
def Tg : List Cond := lw_tbl.filter goodWord
def inT (i : Nat) (w : Cond) : Bool := decide (lw_tbl[i]? = some w) && goodWord w
theorem inT_mem {i : Nat} {w : Cond} (h : inT i w = true) : w ∈ Tg := by
  unfold inT at h
  rw [Bool.and_eq_true] at h
  exact List.mem_filter.mpr ⟨List.mem_of_getElem? (of_decide_eq_true h.1), h.2⟩
theorem Tg_good {ws : List Cond} (h : ∀ w ∈ ws, w ∈ Tg) : GoodIn Tg ws := fun w hw => ⟨h w hw, good_of_word (List.mem_filter.mp (h w hw)).2⟩
def stT : List (String × Nat × String) := [(RX5, 58, "family"), (RX5, 106, "flour"), (RX5, 110, "bread"), (RX5, 118, "wish"), (RX5, 67, "oven"), (RX5, 72, "quarrel"), (RX5, 77, "keep"), (RX5, 82, "fuel"), (RX10, 95, " family flour bread wish oven quarrel keep fuel ")]
def stB : List (List Int32) := [[102, 97, 109, 105, 108, 121], [102, 108, 111, 117, 114], [98, 114, 101, 97, 100], [119, 105, 115, 104], [111, 118, 101, 110], [113, 117, 97, 114, 114, 101, 108], [107, 101, 101, 112], [102, 117, 101, 108], [32, 102, 97, 109, 105, 108, 121, 32, 102, 108, 111, 117, 114, 32, 98, 114, 101, 97, 100, 32, 119, 105, 115, 104, 32, 111, 118, 101, 110, 32, 113, 117, 97, 114, 114, 101, 108, 32, 107, 101, 101, 112, 32, 102, 117, 101, 108, 32]]
def stL : List Nat := [6, 5, 5, 4, 4, 7, 4, 4, 48]
def nsT : List (String × Nat × MethodName × String) := [(RX8, 21, yX2_init, RX9), (RX9, 33, yX6_init, RX9), (RX9, 36, yX5_init, RX9), (RX9, 43, yX0_init, RX9), (RX9, 50, yX7_init, RX9), (RX9, 57, yX3_init, RX9), (RX9, 64, yX1_init, RX9), (RX4, 24, yX2_init, RX9)]
/-- what was there before: String constants, a static, the script, links within the nest -/
def Old (X : Cx) (U : State) : Prop := vk_S 9 stL stB (cxS X) (cxV X) (aA X) U U.heap ∧ (∀ i q, stT[i]? = some q → vk_R q.1 q.2.1 q.2.2 (cxS X i) U) ∧ (va_Z "java/lang/String" "COMPACT_STRINGS" "Z" (.int 1) (aA X) U U.heap ∧ va_Zq "jdk/internal/util/Preconditions" "SIOOBE_FORMATTER" "Ljava/util/function/BiFunction;" (aA X) U U.heap) ∧ va_X (cxb X) (cxL X) (cxx X) U U.heap ∧ cxb X < cxB X ∧ ((∀ q ∈ nsT, va_Nw (.methodLinkNest q.1 q.2.1 q.2.2.1 q.2.2.2) U) ∧ va_AO RX2 U ∧ va_AO RX6 U ∧ va_AO RX8 U) ∧ cxB X ≤ U.heap.size
theorem Old.move {X : Cx} {s U : State} (h : Old X s) (hW : s.WarmedH U.vm) (hq : ∀ q, q < cxB X → U.heap[q]? = s.heap[q]?) (hz : cxB X ≤ U.heap.size) : Old X U := by
  obtain ⟨h1, h2, h3, h4, h5, h6, h7⟩ := h
  have hk : ∀ a : Nat, a < s.heap.size → ¬ (aA X) a → U.heap[a]? = s.heap[a]? := fun a _ hn => hq a (Nat.not_le.mp hn)
  refine ⟨(h1.moved hW.alike).kept hk, fun i q hi => (h2 i q hi).warm hW, ⟨(h3.1.moved hW.alike).kept hk, (h3.2.moved hW.alike).kept hk⟩, (h4.moved hW.alike).kept (hq _ h5), h5, ⟨fun q hq' => (h6.1 q hq').warmM hW, h6.2.1.moved hW.alike, h6.2.2.1.moved hW.alike, h6.2.2.2.moved hW.alike⟩, hz⟩
theorem Old.same {X : Cx} {u U : State} (h : Old X u) (hv : U.vm = u.vm) (hh : U.heap = u.heap) : Old X U := by
  obtain ⟨h1, h2, h3, h4, h5, h6, h7⟩ := h
  have ha : u.vm.Alike U.vm := by rw [hv]; exact Vm.Alike.refl _
  refine ⟨by rw [hh]; exact h1.moved ha, fun i q hi => (h2 i q hi).same hv, by rw [hh]; exact ⟨h3.1.moved ha, h3.2.moved ha⟩, by rw [hh]; exact h4.moved ha, h5, ⟨fun q hq' => (h6.1 q hq').same rfl hv.symm, h6.2.1.moved ha, h6.2.2.1.moved ha, h6.2.2.2.moved ha⟩, by rw [hh]; exact h7⟩
def En (X : Cx) (M : MI) (R : Room) (d : Nat) (p : Program) (s : State) (m : MethodId) (args : Array Value) (meth : Method) (c : Code) : Prop :=
  p.tables.exec = Jvm.exec ∧ c.code = M.2.1 ∧ meth.sig.returnType = M.2.2.2 ∧ c.maxLocals = M.2.2.1 ∧ meth.locks = false ∧ (M.1.name = "<init>" → meth.name = "<init>") ∧ s.vm.findClass M.1.cls = some m.cls ∧ (∀ w ∈ Tg, w.before args s = true) ∧ va_K X.2.1 vwCl (tyL X) s ∧ Old X s ∧ d ≤ R.frames ∧ 64 * d ≤ R.locals
/-- a method's end -/
def Qm (X : Cx) (mc : Nat) (Q : Po) : Array Value → State → Outcome → State → Prop := fun _ st o t => (∃ (r : Option Value) (σ' : Mm), o = .returned (r.map (tv X)) ∧ Q r σ' ∧ Hp X σ' t.heap ∧ st.heap.size + mc = cxB X + σ'.1.length) ∧ va_F (aA X) st t
/-- the locals -/
def lh (X : Cx) (ls : Array Slot) (n : Nat) (lv : Lv) : Prop := ls.size = n ∧ lv_wf ls ∧ ∀ (i : Nat) (v : Value), lv[i]? = some (some v) → ls[i]? = some (Slot.val (tv X v))
def Wp (X : Cx) (M : MI) (R : Room) (d : Nat) (Q : Po) (c0 s0 pc : Nat) (lv : Lv) (st : List Value) (σ : Mm) : Prop :=
  ∀ (p : Program) (e : Env) (s : State) (m : MethodId) (args : Array Value) (below : List Frame) (meth : Method) (c : Code) (H : Heap) (locs : List Loc) (ls : Array Slot),
    En X M R d p s m args meth c → c0 ≤ R.cells → s0 ≤ R.slots → s.heap.size + c0 = cxB X + σ.1.length → Hp X σ H → va_S (aA X) s.heap H locs → lh X ls M.2.2.1 lv →
    W p X.1 e R s m args below meth c H locs c0 s0 (MQ below (Qm X R.cells Q) args s R.cells R.slots (aA X)) (F0 m pc ls (st.map (tv X)))
def rmo (d mc ms : Nat) : Room := { frames := d, cells := mc, slots := ms, locals := 64 * d }
def Pm (X : Cx) (av : List Value) (σ : Mm) : Array Value → State → Prop := fun v U => v = (av.map (tv X)).toArray ∧ Hp X σ U.heap ∧ U.heap.size = cxB X + σ.1.length ∧ va_K X.2.1 vwCl (tyL X) U ∧ Old X U
def Call (X : Cx) (d mc ms : Nat) (M : MI) (av : List Value) (σ : Mm) (Q : Po) : Prop :=
  Met X.1 M.1 (.code M.1 M.2.1 M.2.2.1 M.2.2.2 :: Tg) (rmo d mc ms) (Pm X av σ) (Qm X mc Q) mc ms (aA X)
theorem Pm.blind (X : Cx) (av : List Value) (σ : Mm) : FrameBlind (Pm X av σ) := by
  intro a U g mk h
  obtain ⟨h1, h2, hz, h3, h4⟩ := h
  exact ⟨h1, h2, hz, va_K.moved (u := U) (U := U.calling g mk a) (Vm.Alike.refl U.vm) h3, h4.same rfl rfl⟩
theorem Wp.mono {X : Cx} {M : MI} {R : Room} {d : Nat} {Q Q' : Po} {c0 s0 pc : Nat} {lv : Lv} {st : List Value} {σ : Mm} (h : Wp X M R d Q c0 s0 pc lv st σ) (hq : ∀ r σ', Q r σ' → Q' r σ') : Wp X M R d Q' c0 s0 pc lv st σ := by
  intro p e s m args below meth c H locs ls hE h1 h2 hn hH hS hl T hT X'
  obtain ⟨t, a, o, b1, b2, ⟨⟨r, σ', e1, e2, e3⟩, b4⟩, b5⟩ := h p e s m args below meth c H locs ls hE h1 h2 hn hH hS hl T hT X'
  exact ⟨t, a, o, b1, b2, ⟨⟨r, σ', e1, hq _ _ e2, e3⟩, b4⟩, b5⟩
theorem Wp.locals {X : Cx} {M : MI} {R : Room} {d : Nat} {Q : Po} {c0 s0 pc : Nat} {lv lv' : Lv} {st : List Value} {σ : Mm} (h : Wp X M R d Q c0 s0 pc lv' st σ) (hl : ∀ (i : Nat) (v : Value), lv'[i]? = some (some v) → lv[i]? = some (some v)) : Wp X M R d Q c0 s0 pc lv st σ := by
  intro p e s m args below meth c H locs ls hE h1 h2 hn hH hS hl'
  exact h p e s m args below meth c H locs ls hE h1 h2 hn hH hS ⟨hl'.1, hl'.2.1, fun i v hv => hl'.2.2 i v (hl i v hv)⟩
theorem Call.mono {X : Cx} {d mc ms : Nat} {M : MI} {av : List Value} {σ : Mm} {Q Q' : Po} (h : Call X d mc ms M av σ Q) (hq : ∀ r σ', Q r σ' → Q' r σ') : Call X d mc ms M av σ Q' := by
  intro p e ha hc hk s m args below hf happ hP _
  obtain ⟨t, o, a, b1, b2, ⟨⟨⟨r, σ', e1, e2, e3⟩, b4⟩, b5⟩⟩ := h p e ha hc hk s m args below hf happ hP trivial
  exact ⟨t, o, a, b1, b2, ⟨⟨⟨r, σ', e1, hq _ _ e2, e3⟩, b4⟩, b5⟩⟩
def tvS (X : Cx) : Slot → Slot
  | .val v => .val (tv X v)
  | x => x
def slv : Slot → Option Value
  | .val v => some v
  | _ => none
theorem lgsl_tv (X : Cx) (av : List Value) : lg_sl (av.map (tv X)) = (lg_sl av).map (tvS X) := by
  induction av with
  | nil => rfl
  | cons v vs ih =>
    have e1 : ∀ (w : Value) (ws : List Value), lg_sl (w :: ws) = (if w.category = 2 then [Slot.val w, Slot.second] else [Slot.val w]) ++ lg_sl ws := fun w ws => by simp [lg_sl]
    rw [List.map_cons, e1, e1, ih, List.map_append, tv_cat]
    congr 1
    by_cases h : v.category = 2 <;> simp [h, tvS]
/-- the locals at a method's entry -/
def ent : List Value → Nat → Lv
  | [], n => List.replicate n none
  | v :: vs, n => if v.category = 2 then some v :: none :: ent vs (n - 2) else some v :: ent vs (n - 1)
theorem ent_at : ∀ (av : List Value) (n i : Nat) (v : Value), (ent av n)[i]? = some (some v) → (lg_sl av)[i]? = some (.val v)
  | [], n, i, v, h => by
    have := List.eq_of_mem_replicate (List.mem_of_getElem? h)
    cases this
  | w :: vs, n, i, v, h => by
    have e1 : lg_sl (w :: vs) = (if w.category = 2 then [Slot.val w, Slot.second] else [Slot.val w]) ++ lg_sl vs := by simp [lg_sl]
    rw [e1]
    by_cases hc : w.category = 2
    · rw [ent, if_pos hc] at h
      rw [if_pos hc]
      match i, h with
      | 0, h => simp at h; simp [h]
      | 1, h => simp at h
      | i + 2, h => simpa using ent_at vs _ i v (by simpa using h)
    · rw [ent, if_neg hc] at h
      rw [if_neg hc]
      match i, h with
      | 0, h => simp at h; simp [h]
      | i + 1, h => simpa using ent_at vs _ i v (by simpa using h)
/-- a method's contract out of its body -/
theorem call_of {X : Cx} {d mc ms n : Nat} {M : MI} {av : List Value} {σ : Mm} {Q : Po} (hy : plainName M.1.cls = true ∧ M.2.2.1 = n) (hlen : Nat.ble (lg_sl av).length n = true)
    (body : Wp X M (rmo d mc ms) d Q 0 0 0 (ent av n) [] σ) : Call X d mc ms M av σ Q := by
  refine Met.ofW (cc := M.2.1) (maxL := M.2.2.1) (ret := M.2.2.2) hy.1 rfl ?_
  intro p e s m args below meth c s₁ B hml hP
  obtain ⟨rfl, hH, hz, hK, hO⟩ := hP
  have hts := atoms_spec (ws := .code M.1 M.2.1 M.2.2.1 M.2.2.2 :: Tg) B.pre
  have hlm := lgsl_tv X av
  have hl := lv_entry (av.map (tv X)) (n := M.2.2.1) (by rw [hlm, List.length_map, hy.2]; exact Nat.le_of_ble_eq_true hlen)
  rw [lg_entry_eq]
  refine body p e s m _ below meth c s.heap [] _ ⟨B.exec, B.bytes, B.returns, hml, B.notSynchronized, (fun q => (name_of_methodNamed B.named B.method).1.trans q), findClass_of_methodNamed B.named, fun w hw => hts w (List.mem_cons_of_mem _ hw), hK, hO, Nat.le_refl _, Nat.le_refl _⟩ (Nat.zero_le _) (Nat.zero_le _) hz hH va_S.rf ⟨hl.1, hl.2.1, ?_⟩
  intro i v hv
  have hx := ent_at av n i v hv
  have hi : i < (lg_sl av).length := (List.getElem?_eq_some_iff.mp hx).1
  rw [List.getElem?_toArray, List.getElem?_append_left (by rw [hlm, List.length_map]; exact hi), hlm, List.getElem?_map, hx]
  rfl
