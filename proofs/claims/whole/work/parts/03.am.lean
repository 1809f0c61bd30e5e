/-! THE ABSTRACT MACHINE. Memory: the kinds of the cells made so far (by their number from the first new cell on), ints, longs, references, by cell and place. A kind: (0, ci) an object of class ci; (1 + t, n) an array of n places, t = 0 int, 1 long, 2 byte, 3 boolean, 4 Family, 5 Row, 6 Village -/
abbrev Mm : Type := List (Nat × Nat) × (Nat → Nat → Int32) × (Nat → Nat → Int64) × (Nat → Nat → Option Nat)
def kd (σ : Mm) (a : Nat) : Option (Nat × Nat) := σ.1[a]?
def gI (σ : Mm) (a k : Nat) : Int32 := σ.2.1 a k
def gL (σ : Mm) (a k : Nat) : Int64 := σ.2.2.1 a k
def gR (σ : Mm) (a k : Nat) : Option Nat := σ.2.2.2 a k
def sI (σ : Mm) (a k : Nat) (v : Int32) : Mm := (σ.1, fun b j => if b = a ∧ j = k then v else σ.2.1 b j, σ.2.2.1, σ.2.2.2)
def sL (σ : Mm) (a k : Nat) (v : Int64) : Mm := (σ.1, σ.2.1, fun b j => if b = a ∧ j = k then v else σ.2.2.1 b j, σ.2.2.2)
def sR (σ : Mm) (a k : Nat) (v : Option Nat) : Mm := (σ.1, σ.2.1, σ.2.2.1, fun b j => if b = a ∧ j = k then v else σ.2.2.2 b j)
/-- a whole row of ints, of longs -/
def rI (σ : Mm) (a : Nat) (f : Nat → Int32) : Mm := (σ.1, fun b j => if b = a then f j else σ.2.1 b j, σ.2.2.1, σ.2.2.2)
def rL (σ : Mm) (a : Nat) (f : Nat → Int64) : Mm := (σ.1, σ.2.1, fun b j => if b = a then f j else σ.2.2.1 b j, σ.2.2.2)
/-- a new cell: all 0 -/
def nw (σ : Mm) (q : Nat × Nat) : Mm := (σ.1 ++ [q], fun b j => if b = σ.1.length then 0 else σ.2.1 b j, fun b j => if b = σ.1.length then 0 else σ.2.2.1 b j, fun b j => if b = σ.1.length then none else σ.2.2.2 b j)
/-- a context: the launch; numbers of classes and fields; array classes; where the new cells begin; String constants' addresses; the script's address, length and ints; the String constants' bytes' addresses -/
abbrev Cx : Type := Launch × va_G × (Nat → ClassId) × Nat × (Nat → Nat) × Nat × Nat × (Nat → Int32) × (Nat → Nat)
def cxB (X : Cx) : Nat := X.2.2.2.1
def cxT (X : Cx) : Nat → ClassId := X.2.2.1
def cxS (X : Cx) : Nat → Nat := X.2.2.2.2.1
def cxb (X : Cx) : Nat := X.2.2.2.2.2.1
def cxL (X : Cx) : Nat := X.2.2.2.2.2.2.1
def cxx (X : Cx) : Nat → Int32 := X.2.2.2.2.2.2.2.1
def cxV (X : Cx) : Nat → Nat := X.2.2.2.2.2.2.2.2
/-- the real address of a cell; String constant i is 1000000 + i; the script 2000000; 4000000 + a is the address a itself -/
def adr (X : Cx) (a : Nat) : Nat := if a < 1000000 then cxB X + a else if a < 2000000 then cxS X (a - 1000000) else if a < 4000000 then cxb X else a - 4000000
theorem adr_raw (X : Cx) (a : Nat) : adr X (4000000 + a) = a := by
  unfold adr
  rw [if_neg (by omega), if_neg (by omega), if_neg (by omega), Nat.add_sub_cancel_left]
def tv (X : Cx) : Value → Value
  | .ref a => .ref (adr X a)
  | v => v
theorem tv_int (X : Cx) (v : Int32) : tv X (.int v) = .int v := rfl
theorem tv_long (X : Cx) (v : Int64) : tv X (.long v) = .long v := rfl
theorem tv_ref (X : Cx) (a : Nat) : tv X (.ref a) = .ref (adr X a) := rfl
theorem tv_cat (X : Cx) (v : Value) : (tv X v).category = v.category := by cases v <;> rfl
theorem adr_lt {X : Cx} {a : Nat} (h : a < 1000000) : adr X a = cxB X + a := by simp [adr, h]
def clTy : Nat → Nat → FieldType
  | 0 => tyX0
  | 1 => tyX1
  | 2 => tyX2
  | 3 => tyX3
  | 4 => tyX4
  | 5 => tyX5
  | 6 => tyX6
  | 7 => tyX7
  | 8 => tyX8
  | 9 => tyX9
  | _ => tyX10
def nF (ci : Nat) : Nat := match vwCl[ci]? with
  | some q => q.2.2
  | none => 0
def isR : FieldType → Bool
  | .object _ => true
  | .array _ => true
  | _ => false
def fv (X : Cx) (σ : Mm) (a : Nat) (ty : FieldType) (j : Nat) : Value := if isR ty = true then va_rf ((gR σ a j).map (adr X)) else if ty = .long then .long (gL σ a j) else .int (gI σ a j)
def fl (X : Cx) (σ : Mm) (a ci : Nat) : List Value := (List.range (nF ci)).map (fun j => fv X σ a (clTy ci j) j)
def ce (X : Cx) (σ : Mm) (a : Nat) : Nat × Nat → va_E
  | (0, ci) => .inr (ci, fl X σ a ci)
  | (1, n) => .inl (cxT X 0, n, .inl (gI σ a))
  | (2, n) => .inl (cxT X 1, n, .inr (.inl (gL σ a)))
  | (3, n) => .inl (cxT X 2, n, .inl (gI σ a))
  | (4, n) => .inl (cxT X 3, n, .inl (gI σ a))
  | (t + 5, n) => .inl (cxT X (t + 4), n, .inr (.inr (.inr (.inr (fun j => (gR σ a j).map (adr X))))))
def wl (X : Cx) (σ : Mm) : va_W := (List.range σ.1.length).map (fun a => (cxB X + a, ce X σ a ((kd σ a).getD (0, 0))))
def tyL (X : Cx) : List (ClassId × FieldType) := [(cxT X 0, .int), (cxT X 1, .long), (cxT X 2, .byte), (cxT X 3, .boolean), (cxT X 4, .object RX2), (cxT X 5, .object RX6), (cxT X 6, .object RX8)]
theorem wl_at {X : Cx} {σ : Mm} {a : Nat} {q : Nat × Nat} (h : kd σ a = some q) : (wl X σ)[a]? = some (cxB X + a, ce X σ a q) := by
  have hl : a < σ.1.length := (List.getElem?_eq_some_iff.mp h).1
  unfold wl
  rw [List.getElem?_map, List.getElem?_range hl]
  simp [h]
theorem kd_lt {σ : Mm} {a : Nat} {q : Nat × Nat} (h : kd σ a = some q) : a < σ.1.length := (List.getElem?_eq_some_iff.mp h).1
theorem wl_len (X : Cx) (σ : Mm) : (wl X σ).length = σ.1.length := by simp [wl]
abbrev aA (X : Cx) : Nat → Prop := fun q => cxB X ≤ q
theorem wl_D (X : Cx) (σ : Mm) : va_D (aA X) (wl X σ) := by
  have key : ∀ (i : Nat) (p : Nat × va_E), (wl X σ)[i]? = some p → p.1 = cxB X + i := by
    intro i p h
    have hl := (List.getElem?_eq_some_iff.mp h).1
    rw [wl_len] at hl
    unfold wl at h
    rw [List.getElem?_map, List.getElem?_range hl] at h
    cases h
    rfl
  refine ⟨fun i j p q hi hj e => ?_, fun k q h => ?_⟩
  · rw [key i p hi, key j q hj] at e
    omega
  · show cxB X ≤ q.1
    rw [key k q h]
    omega
/-- the heap holds the memory -/
def Hp (X : Cx) (σ : Mm) (H : Heap) : Prop := va_P X.2.1 vwCl (wl X σ) H ∧ σ.1.length < 1000000
/-- a world list with one cell changed is the changed memory's world list -/
theorem wl_set {X : Cx} {σ σ' : Mm} {a : Nat} {e : va_E} (hk : σ'.1 = σ.1) (ha : a < σ.1.length) (he : ce X σ' a ((kd σ a).getD (0, 0)) = e) (ho : ∀ b q, b ≠ a → ce X σ' b q = ce X σ b q) : (wl X σ).set a (cxB X + a, e) = wl X σ' := by
  apply List.ext_getElem?
  intro i
  have hkd : ∀ b, kd σ' b = kd σ b := fun b => by unfold kd; rw [hk]
  by_cases hi : i < σ.1.length
  · unfold wl
    rw [hk, List.getElem?_map, List.getElem?_range hi]
    by_cases hia : i = a
    · subst hia
      rw [List.getElem?_set_self (by simpa using hi)]
      simp [hkd, he]
    · rw [List.getElem?_set_ne (fun q => hia q.symm), List.getElem?_map, List.getElem?_range hi]
      simp [hkd, ho i _ hia]
  · rw [List.getElem?_eq_none (by rw [List.length_set, wl_len]; omega), List.getElem?_eq_none (by rw [wl_len, hk]; omega)]
theorem fv_sI {X : Cx} {σ : Mm} {a k b j : Nat} {v : Int32} {ty : FieldType} (h : ¬ (b = a ∧ j = k)) : fv X (sI σ a k v) b ty j = fv X σ b ty j := by
  simp [fv, gR, gL, gI, sI, h]
theorem fv_sL {X : Cx} {σ : Mm} {a k b j : Nat} {v : Int64} {ty : FieldType} (h : ¬ (b = a ∧ j = k)) : fv X (sL σ a k v) b ty j = fv X σ b ty j := by
  simp [fv, gR, gL, gI, sL, h]
theorem fv_sR {X : Cx} {σ : Mm} {a k b j : Nat} {v : Option Nat} {ty : FieldType} (h : ¬ (b = a ∧ j = k)) : fv X (sR σ a k v) b ty j = fv X σ b ty j := by
  simp [fv, gR, gL, gI, sR, h]
theorem ce_off {X : Cx} {σ σ' : Mm} {b : Nat} (h1 : ∀ j, gI σ' b j = gI σ b j) (h2 : ∀ j, gL σ' b j = gL σ b j) (h3 : ∀ j, gR σ' b j = gR σ b j) (q : Nat × Nat) : ce X σ' b q = ce X σ b q := by
  have hf : ∀ ty j, fv X σ' b ty j = fv X σ b ty j := fun ty j => by simp [fv, h1, h2, h3]
  obtain ⟨t, n⟩ := q
  have e1 : gI σ' b = gI σ b := funext h1
  have e2 : gL σ' b = gL σ b := funext h2
  match t with
  | 0 => simp [ce, fl, hf]
  | 1 => simp [ce, e1]
  | 2 => simp [ce, e2]
  | 3 => simp [ce, e1]
  | 4 => simp [ce, e1]
  | t + 5 => simp [ce, h3]
theorem ce_sI {X : Cx} {σ : Mm} {a k b : Nat} {v : Int32} (h : b ≠ a) (q : Nat × Nat) : ce X (sI σ a k v) b q = ce X σ b q := ce_off (σ' := sI σ a k v) (σ := σ) (fun j => by simp [gI, sI, h]) (fun _ => rfl) (fun _ => rfl) q
theorem ce_sL {X : Cx} {σ : Mm} {a k b : Nat} {v : Int64} (h : b ≠ a) (q : Nat × Nat) : ce X (sL σ a k v) b q = ce X σ b q := ce_off (σ' := sL σ a k v) (σ := σ) (fun _ => rfl) (fun j => by simp [gL, sL, h]) (fun _ => rfl) q
theorem ce_sR {X : Cx} {σ : Mm} {a k b : Nat} {v : Option Nat} (h : b ≠ a) (q : Nat × Nat) : ce X (sR σ a k v) b q = ce X σ b q := ce_off (σ' := sR σ a k v) (σ := σ) (fun _ => rfl) (fun _ => rfl) (fun j => by simp [gR, sR, h]) q
theorem ce_rI {X : Cx} {σ : Mm} {a b : Nat} {f : Nat → Int32} (h : b ≠ a) (q : Nat × Nat) : ce X (rI σ a f) b q = ce X σ b q := ce_off (σ' := rI σ a f) (σ := σ) (fun j => by simp [gI, rI, h]) (fun _ => rfl) (fun _ => rfl) q
theorem ce_rL {X : Cx} {σ : Mm} {a b : Nat} {f : Nat → Int64} (h : b ≠ a) (q : Nat × Nat) : ce X (rL σ a f) b q = ce X σ b q := ce_off (σ' := rL σ a f) (σ := σ) (fun _ => rfl) (fun j => by simp [gL, rL, h]) (fun _ => rfl) q
theorem fl_set {X : Cx} {σ σ' : Mm} {a ci k : Nat} {v : Value} (hk : k < nF ci) (hv : fv X σ' a (clTy ci k) k = v) (ho : ∀ j ty, j ≠ k → fv X σ' a ty j = fv X σ a ty j) : (fl X σ a ci).set k v = fl X σ' a ci := by
  apply List.ext_getElem?
  intro i
  by_cases hi : i < nF ci
  · unfold fl
    rw [List.getElem?_map, List.getElem?_range hi]
    by_cases hik : i = k
    · subst hik
      rw [List.getElem?_set_self (by simpa using hi)]
      simp [hv]
    · rw [List.getElem?_set_ne (fun q => hik q.symm), List.getElem?_map, List.getElem?_range hi]
      simp [ho i _ hik]
  · rw [List.getElem?_eq_none (by simp [fl]; omega), List.getElem?_eq_none (by simp [fl]; omega)]
theorem fl_at {X : Cx} {σ : Mm} {a ci k : Nat} (hk : k < nF ci) : (fl X σ a ci)[k]? = some (fv X σ a (clTy ci k) k) := by
  unfold fl
  rw [List.getElem?_map, List.getElem?_range hk]
  rfl
theorem fl_len (X : Cx) (σ : Mm) (a ci : Nat) : (fl X σ a ci).length = nF ci := by simp [fl]
