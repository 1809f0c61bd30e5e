def imn (a b : Int32) : Int32 := if b < a then b else a
def imx (a b : Int32) : Int32 := if a < b then b else a
/-! The locals -/
def ldrop : Option Value → Option Value
  | some (.long _) => none
  | some (.double _) => none
  | x => x
def lset : Lv → Nat → Value → Lv
  | [], _, _ => []
  | _ :: r, 0, v => some v :: r
  | x :: r, n + 1, v => (if n = 0 then ldrop x else x) :: lset r n v
def lset2 : Lv → Nat → Value → Lv
  | [], _, _ => []
  | _ :: r, 0, v => some v :: r.set 0 none
  | x :: r, n + 1, v => (if n = 0 then ldrop x else x) :: lset2 r n v
def lget : Lv → Nat → Option Value
  | [], _ => none
  | x :: _, 0 => x
  | _ :: r, n + 1 => lget r n
theorem ldrop_some {x : Option Value} {w : Value} (h : ldrop x = some w) : x = some w ∧ w.category ≠ 2 := by
  cases x with
  | none => cases h
  | some y => cases y <;> simp [ldrop] at h <;> (subst h; exact ⟨rfl, by simp [Value.category]⟩)
theorem lset_at : ∀ (lv : Lv) (i : Nat) (v : Value) (j : Nat) (w : Value), (lset lv i v)[j]? = some (some w) → (j = i ∧ w = v) ∨ (j ≠ i ∧ lv[j]? = some (some w) ∧ (j + 1 = i → w.category ≠ 2))
  | [], _, _, _, _, h => by simp [lset] at h
  | x :: r, 0, v, j, w, h => by
    cases j with
    | zero => simp [lset] at h; exact Or.inl ⟨rfl, h.symm⟩
    | succ j => simp [lset] at h; exact Or.inr ⟨by omega, by simpa using h, fun q => by omega⟩
  | x :: r, n + 1, v, j, w, h => by
    cases j with
    | zero =>
      simp [lset] at h
      refine Or.inr ⟨by omega, ?_, ?_⟩
      · split at h
        · simpa using (ldrop_some h).1
        · simpa using h
      · intro q
        have hn : n = 0 := by omega
        rw [if_pos hn] at h
        exact (ldrop_some h).2
    | succ j =>
      simp [lset] at h
      rcases lset_at r n v j w h with ⟨a, b⟩ | ⟨a, b, c⟩
      · exact Or.inl ⟨by omega, b⟩
      · exact Or.inr ⟨by omega, by simpa using b, fun q => c (by omega)⟩
theorem lset2_at : ∀ (lv : Lv) (i : Nat) (v : Value) (j : Nat) (w : Value), (lset2 lv i v)[j]? = some (some w) → (j = i ∧ w = v) ∨ (j ≠ i ∧ j ≠ i + 1 ∧ lv[j]? = some (some w) ∧ (j + 1 = i → w.category ≠ 2))
  | [], _, _, _, _, h => by simp [lset2] at h
  | x :: r, 0, v, j, w, h => by
    cases j with
    | zero => simp [lset2] at h; exact Or.inl ⟨rfl, h.symm⟩
    | succ j =>
      simp [lset2] at h
      cases j with
      | zero => cases r <;> simp at h
      | succ j =>
        rw [List.getElem?_set_ne (by omega)] at h
        exact Or.inr ⟨by omega, by omega, by simpa using h, fun q => by omega⟩
  | x :: r, n + 1, v, j, w, h => by
    cases j with
    | zero =>
      simp [lset2] at h
      refine Or.inr ⟨by omega, by omega, ?_, ?_⟩
      · split at h
        · simpa using (ldrop_some h).1
        · simpa using h
      · intro q
        have hn : n = 0 := by omega
        rw [if_pos hn] at h
        exact (ldrop_some h).2
    | succ j =>
      simp [lset2] at h
      rcases lset2_at r n v j w h with ⟨a, b⟩ | ⟨a, b, c, e⟩
      · exact Or.inl ⟨by omega, b⟩
      · exact Or.inr ⟨by omega, by omega, by simpa using c, fun q => e (by omega)⟩
theorem lget_at : ∀ (lv : Lv) (i : Nat) (v : Value), lget lv i = some v → lv[i]? = some (some v)
  | [], _, _, h => by simp [lget] at h
  | x :: _, 0, v, h => by simp [lget] at h; simp [h]
  | _ :: r, n + 1, v, h => by simp [lget] at h; simpa using lget_at r n v h
def al (X : Cx) (lv : Lv) : List (Nat × Value) := (List.range lv.length).filterMap (fun i => match lv[i]? with
  | some (some v) => some (i, tv X v)
  | _ => none)
theorem al_mem {X : Cx} {lv : Lv} {i : Nat} {v : Value} (h : lv[i]? = some (some v)) : (i, tv X v) ∈ al X lv := by
  unfold al
  refine List.mem_filterMap.mpr ⟨i, List.mem_range.mpr (List.getElem?_eq_some_iff.mp h).1, ?_⟩
  simp [h]
theorem al_has {X : Cx} {ls : Array Slot} {n : Nat} {lv : Lv} (h : lh X ls n lv) : lv_has ls n (al X lv) := by
  refine ⟨h.1, h.2.1, fun q hq => ?_⟩
  obtain ⟨i, hi, e⟩ := List.mem_filterMap.mp hq
  cases hx : lv[i]? with
  | none => simp [hx] at e
  | some x =>
    cases x with
    | none => simp [hx] at e
    | some v =>
      simp [hx] at e
      subst e
      exact h.2.2 i v hx
theorem lh_set1 {X : Cx} {ls : Array Slot} {n i : Nat} {lv : Lv} {v : Value} (h : lv_has ls n ((i, tv X v) :: (al X lv).filter (fun q => !(q.1 == i) && !(q.1 + 1 == i && q.2.category == 2)))) : lh X ls n (lset lv i v) := by
  refine ⟨h.1, h.2.1, fun j w hj => ?_⟩
  rcases lset_at lv i v j w hj with ⟨rfl, rfl⟩ | ⟨a, b, c⟩
  · exact h.2.2 _ List.mem_cons_self
  · refine h.2.2 (j, tv X w) (List.mem_cons_of_mem _ (List.mem_filter.mpr ⟨al_mem b, ?_⟩))
    simp only [tv_cat]
    by_cases hji : j + 1 = i
    · simp [a, c hji]
    · simp [a, hji]
theorem lh_set2 {X : Cx} {ls : Array Slot} {n i : Nat} {lv : Lv} {v : Value} (h : lv_has ls n ((i, tv X v) :: (al X lv).filter (fun q => !(q.1 == i) && (!(q.1 == i + 1) && !(q.1 + 1 == i && q.2.category == 2))))) : lh X ls n (lset2 lv i v) := by
  refine ⟨h.1, h.2.1, fun j w hj => ?_⟩
  rcases lset2_at lv i v j w hj with ⟨rfl, rfl⟩ | ⟨a, a2, b, c⟩
  · exact h.2.2 _ List.mem_cons_self
  · refine h.2.2 (j, tv X w) (List.mem_cons_of_mem _ (List.mem_filter.mpr ⟨al_mem b, ?_⟩))
    simp only [tv_cat]
    by_cases hji : j + 1 = i
    · simp [a, a2, c hji]
    · simp [a, a2, hji]
/-! Shapes of the stack -/
def kI (st : List Value) (F : Int32 → List Value → Prop) : Prop := match st with
  | .int a :: r => F a r
  | _ => False
theorem kI_r (a : Int32) (r : List Value) (F : Int32 → List Value → Prop) : kI (.int a :: r) F = F a r := rfl
theorem kI_e {st : List Value} {F : Int32 → List Value → Prop} (h : kI st F) : ∃ (a : Int32) (r : List Value), st = .int a :: r ∧ F a r := by
  unfold kI at h
  split at h
  · exact ⟨_, _, rfl, h⟩
  · exact h.elim
def kL (st : List Value) (F : Int64 → List Value → Prop) : Prop := match st with
  | .long a :: r => F a r
  | _ => False
theorem kL_r (a : Int64) (r : List Value) (F : Int64 → List Value → Prop) : kL (.long a :: r) F = F a r := rfl
theorem kL_e {st : List Value} {F : Int64 → List Value → Prop} (h : kL st F) : ∃ (a : Int64) (r : List Value), st = .long a :: r ∧ F a r := by
  unfold kL at h
  split at h
  · exact ⟨_, _, rfl, h⟩
  · exact h.elim
def kR (st : List Value) (F : Nat → List Value → Prop) : Prop := match st with
  | .ref a :: r => F a r
  | _ => False
theorem kR_r (a : Nat) (r : List Value) (F : Nat → List Value → Prop) : kR (.ref a :: r) F = F a r := rfl
theorem kR_e {st : List Value} {F : Nat → List Value → Prop} (h : kR st F) : ∃ (a : Nat) (r : List Value), st = .ref a :: r ∧ F a r := by
  unfold kR at h
  split at h
  · exact ⟨_, _, rfl, h⟩
  · exact h.elim
def kII (st : List Value) (F : Int32 → Int32 → List Value → Prop) : Prop := match st with
  | .int b :: .int a :: r => F a b r
  | _ => False
theorem kII_r (a : Int32) (b : Int32) (r : List Value) (F : Int32 → Int32 → List Value → Prop) : kII (.int b :: .int a :: r) F = F a b r := rfl
theorem kII_e {st : List Value} {F : Int32 → Int32 → List Value → Prop} (h : kII st F) : ∃ (a : Int32) (b : Int32) (r : List Value), st = .int b :: .int a :: r ∧ F a b r := by
  unfold kII at h
  split at h
  · exact ⟨_, _, _, rfl, h⟩
  · exact h.elim
def kLL (st : List Value) (F : Int64 → Int64 → List Value → Prop) : Prop := match st with
  | .long b :: .long a :: r => F a b r
  | _ => False
theorem kLL_r (a : Int64) (b : Int64) (r : List Value) (F : Int64 → Int64 → List Value → Prop) : kLL (.long b :: .long a :: r) F = F a b r := rfl
theorem kLL_e {st : List Value} {F : Int64 → Int64 → List Value → Prop} (h : kLL st F) : ∃ (a : Int64) (b : Int64) (r : List Value), st = .long b :: .long a :: r ∧ F a b r := by
  unfold kLL at h
  split at h
  · exact ⟨_, _, _, rfl, h⟩
  · exact h.elim
def kLI (st : List Value) (F : Int64 → Int32 → List Value → Prop) : Prop := match st with
  | .int b :: .long a :: r => F a b r
  | _ => False
theorem kLI_r (a : Int64) (b : Int32) (r : List Value) (F : Int64 → Int32 → List Value → Prop) : kLI (.int b :: .long a :: r) F = F a b r := rfl
theorem kLI_e {st : List Value} {F : Int64 → Int32 → List Value → Prop} (h : kLI st F) : ∃ (a : Int64) (b : Int32) (r : List Value), st = .int b :: .long a :: r ∧ F a b r := by
  unfold kLI at h
  split at h
  · exact ⟨_, _, _, rfl, h⟩
  · exact h.elim
def kRI (st : List Value) (F : Nat → Int32 → List Value → Prop) : Prop := match st with
  | .int i :: .ref a :: r => F a i r
  | _ => False
theorem kRI_r (a : Nat) (i : Int32) (r : List Value) (F : Nat → Int32 → List Value → Prop) : kRI (.int i :: .ref a :: r) F = F a i r := rfl
theorem kRI_e {st : List Value} {F : Nat → Int32 → List Value → Prop} (h : kRI st F) : ∃ (a : Nat) (i : Int32) (r : List Value), st = .int i :: .ref a :: r ∧ F a i r := by
  unfold kRI at h
  split at h
  · exact ⟨_, _, _, rfl, h⟩
  · exact h.elim
def kRII (st : List Value) (F : Nat → Int32 → Int32 → List Value → Prop) : Prop := match st with
  | .int x :: .int i :: .ref a :: r => F a i x r
  | _ => False
theorem kRII_r (a : Nat) (i : Int32) (x : Int32) (r : List Value) (F : Nat → Int32 → Int32 → List Value → Prop) : kRII (.int x :: .int i :: .ref a :: r) F = F a i x r := rfl
theorem kRII_e {st : List Value} {F : Nat → Int32 → Int32 → List Value → Prop} (h : kRII st F) : ∃ (a : Nat) (i : Int32) (x : Int32) (r : List Value), st = .int x :: .int i :: .ref a :: r ∧ F a i x r := by
  unfold kRII at h
  split at h
  · exact ⟨_, _, _, _, rfl, h⟩
  · exact h.elim
def kRIL (st : List Value) (F : Nat → Int32 → Int64 → List Value → Prop) : Prop := match st with
  | .long x :: .int i :: .ref a :: r => F a i x r
  | _ => False
theorem kRIL_r (a : Nat) (i : Int32) (x : Int64) (r : List Value) (F : Nat → Int32 → Int64 → List Value → Prop) : kRIL (.long x :: .int i :: .ref a :: r) F = F a i x r := rfl
theorem kRIL_e {st : List Value} {F : Nat → Int32 → Int64 → List Value → Prop} (h : kRIL st F) : ∃ (a : Nat) (i : Int32) (x : Int64) (r : List Value), st = .long x :: .int i :: .ref a :: r ∧ F a i x r := by
  unfold kRIL at h
  split at h
  · exact ⟨_, _, _, _, rfl, h⟩
  · exact h.elim
def kRIR (st : List Value) (F : Nat → Int32 → Nat → List Value → Prop) : Prop := match st with
  | .ref x :: .int i :: .ref a :: r => F a i x r
  | _ => False
theorem kRIR_r (a : Nat) (i : Int32) (x : Nat) (r : List Value) (F : Nat → Int32 → Nat → List Value → Prop) : kRIR (.ref x :: .int i :: .ref a :: r) F = F a i x r := rfl
theorem kRIR_e {st : List Value} {F : Nat → Int32 → Nat → List Value → Prop} (h : kRIR st F) : ∃ (a : Nat) (i : Int32) (x : Nat) (r : List Value), st = .ref x :: .int i :: .ref a :: r ∧ F a i x r := by
  unfold kRIR at h
  split at h
  · exact ⟨_, _, _, _, rfl, h⟩
  · exact h.elim
def kRL (st : List Value) (F : Nat → Int64 → List Value → Prop) : Prop := match st with
  | .long x :: .ref a :: r => F a x r
  | _ => False
theorem kRL_r (a : Nat) (x : Int64) (r : List Value) (F : Nat → Int64 → List Value → Prop) : kRL (.long x :: .ref a :: r) F = F a x r := rfl
theorem kRL_e {st : List Value} {F : Nat → Int64 → List Value → Prop} (h : kRL st F) : ∃ (a : Nat) (x : Int64) (r : List Value), st = .long x :: .ref a :: r ∧ F a x r := by
  unfold kRL at h
  split at h
  · exact ⟨_, _, _, rfl, h⟩
  · exact h.elim
def kRR (st : List Value) (F : Nat → Nat → List Value → Prop) : Prop := match st with
  | .ref x :: .ref a :: r => F a x r
  | _ => False
theorem kRR_r (a : Nat) (x : Nat) (r : List Value) (F : Nat → Nat → List Value → Prop) : kRR (.ref x :: .ref a :: r) F = F a x r := rfl
theorem kRR_e {st : List Value} {F : Nat → Nat → List Value → Prop} (h : kRR st F) : ∃ (a : Nat) (x : Nat) (r : List Value), st = .ref x :: .ref a :: r ∧ F a x r := by
  unfold kRR at h
  split at h
  · exact ⟨_, _, _, rfl, h⟩
  · exact h.elim
def kV (st : List Value) (F : Value → List Value → Prop) : Prop := match st with
  | v :: r => F v r
  | _ => False
theorem kV_r (v : Value) (r : List Value) (F : Value → List Value → Prop) : kV (v :: r) F = F v r := rfl
theorem kV_e {st : List Value} {F : Value → List Value → Prop} (h : kV st F) : ∃ (v : Value) (r : List Value), st = v :: r ∧ F v r := by
  cases st with
  | nil => exact h.elim
  | cons v r => exact ⟨v, r, rfl, h⟩
def kVV (st : List Value) (F : Value → Value → List Value → Prop) : Prop := match st with
  | u :: v :: r => F v u r
  | _ => False
theorem kVV_r (v : Value) (u : Value) (r : List Value) (F : Value → Value → List Value → Prop) : kVV (u :: v :: r) F = F v u r := rfl
theorem kVV_e {st : List Value} {F : Value → Value → List Value → Prop} (h : kVV st F) : ∃ (v : Value) (u : Value) (r : List Value), st = u :: v :: r ∧ F v u r := by
  match st, h with
  | [], h => exact h.elim
  | [_], h => exact h.elim
  | u :: v :: r, h => exact ⟨v, u, r, rfl, h⟩
def kCpy (st : List Value) (F : Nat → Int32 → Nat → Int32 → Int32 → List Value → Prop) : Prop := match st with
  | .int n :: .int dp :: .ref b :: .int sp :: .ref a :: r => F a sp b dp n r
  | _ => False
theorem kCpy_r (a : Nat) (sp : Int32) (b : Nat) (dp : Int32) (n : Int32) (r : List Value) (F : Nat → Int32 → Nat → Int32 → Int32 → List Value → Prop) : kCpy (.int n :: .int dp :: .ref b :: .int sp :: .ref a :: r) F = F a sp b dp n r := rfl
theorem kCpy_e {st : List Value} {F : Nat → Int32 → Nat → Int32 → Int32 → List Value → Prop} (h : kCpy st F) : ∃ (a : Nat) (sp : Int32) (b : Nat) (dp : Int32) (n : Int32) (r : List Value), st = .int n :: .int dp :: .ref b :: .int sp :: .ref a :: r ∧ F a sp b dp n r := by
  unfold kCpy at h
  split at h
  · exact ⟨_, _, _, _, _, _, rfl, h⟩
  · exact h.elim
def kLd (x : Option Value) (F : Value → Prop) : Prop := match x with
  | some v => F v
  | none => False
theorem kLd_r (v : Value) (F : Value → Prop) : kLd (some v) F = F v := rfl
theorem kLd_e {x : Option Value} {F : Value → Prop} (h : kLd x F) : ∃ v, x = some v ∧ F v := by
  cases x with
  | none => exact h.elim
  | some v => exact ⟨v, rfl, h⟩
/-- arguments off the stack -/
def kArg : Nat → List Value → List Value → (List Value → List Value → Prop) → Prop
  | 0, as, st, F => F as st
  | _ + 1, _, [], _ => False
  | n + 1, as, v :: r, F => kArg n (v :: as) r F
theorem kArg_0 (as st : List Value) (F : List Value → List Value → Prop) : kArg 0 as st F = F as st := rfl
theorem kArg_s (n : Nat) (as : List Value) (v : Value) (r : List Value) (F : List Value → List Value → Prop) : kArg (n + 1) as (v :: r) F = kArg n (v :: as) r F := rfl
theorem kArg_e : ∀ (n : Nat) (as st : List Value) (F : List Value → List Value → Prop), kArg n as st F → ∃ (bs r : List Value), bs.length = n ∧ st = bs.reverse ++ r ∧ F (bs ++ as) r
  | 0, as, st, F, h => ⟨[], st, rfl, rfl, h⟩
  | n + 1, as, [], F, h => h.elim
  | n + 1, as, v :: r, F, h => by
    obtain ⟨bs, r', h1, h2, h3⟩ := kArg_e n (v :: as) r F h
    exact ⟨bs ++ [v], r', by simp [h1], by simp [h2], by simpa using h3⟩
/-- a table's targets -/
def kSw (x : Int32) : Int → List Nat → (Nat → Prop) → Prop
  | _, [], _ => True
  | lo, t :: ts, F => (x = Int32.ofInt lo → F t) ∧ kSw x (lo + 1) ts F
def kLk (x : Int32) (F : Nat → Prop) (dt : Nat) : List (Int × Int) → List Nat → Prop
  | (a, _) :: ps, t :: ts => (x = Int32.ofInt a → F t) ∧ (¬ x = Int32.ofInt a → kLk x F dt ps ts)
  | [], [] => F dt
  | _, _ => False
def bCond : Jvm.ClassFile.Cond → Int32 → Int32 → Prop
  | .eq, x, y => x = y
  | .ne, x, y => ¬ x = y
  | .lt, x, y => x < y
  | .ge, x, y => y ≤ x
  | .gt, x, y => y < x
  | .le, x, y => x ≤ y

def vi (X : Cx) (R : Room) (d : Nat) (Q : Po) (J : Nat → Ct) (i : AI) (K : Ct) (c s : Nat) (lv : Lv) (st : List Value) (σ : Mm) : Prop :=
  match i with
  | (.iconst n, _, _) => K c s lv (.int (Int32.ofInt n) :: st) σ
  | (.bipush n, _, _) => K c s lv (.int (Int32.ofInt n) :: st) σ
  | (.sipush n, _, _) => K c s lv (.int (Int32.ofInt n) :: st) σ
  | (.lconst n, _, _) => K c s lv (.long (Int64.ofNat (n : Nat)) :: st) σ
  | (.ldc _, 0 :: v :: _, _) => K c s lv (.int (Int32.ofNat v) :: st) σ
  | (.ldc _, 1 :: i :: _, _) => K c s lv (.ref (1000000 + i) :: st) σ
  | (.ldc_w _, v :: _, _) => K c s lv (.int (Int32.ofNat v) :: st) σ
  | (.ldc2_w _, v :: _, _) => K c s lv (.long (Int64.ofNat v) :: st) σ
  | (.iload_n k, _, _) => kLd (lget lv (k : Nat)) (fun v => kI [v] (fun a _ => K c s lv (.int a :: st) σ))
  | (.iload k, _, _) => kLd (lget lv k) (fun v => kI [v] (fun a _ => K c s lv (.int a :: st) σ))
  | (.lload_n k, _, _) => kLd (lget lv (k : Nat)) (fun v => kL [v] (fun a _ => K c s lv (.long a :: st) σ))
  | (.lload k, _, _) => kLd (lget lv k) (fun v => kL [v] (fun a _ => K c s lv (.long a :: st) σ))
  | (.aload_n k, _, _) => kLd (lget lv (k : Nat)) (fun v => kR [v] (fun a _ => K c s lv (.ref a :: st) σ))
  | (.aload k, _, _) => kLd (lget lv k) (fun v => kR [v] (fun a _ => K c s lv (.ref a :: st) σ))
  | (.istore_n k, _, _) => kI st (fun a r => K c s (lset lv (k : Nat) (.int a)) r σ)
  | (.istore k, _, _) => kI st (fun a r => K c s (lset lv k (.int a)) r σ)
  | (.lstore_n k, _, _) => kL st (fun a r => K c s (lset2 lv (k : Nat) (.long a)) r σ)
  | (.lstore k, _, _) => kL st (fun a r => K c s (lset2 lv k (.long a)) r σ)
  | (.astore_n k, _, _) => kR st (fun a r => K c s (lset lv (k : Nat) (.ref a)) r σ)
  | (.astore k, _, _) => kR st (fun a r => K c s (lset lv k (.ref a)) r σ)
  | (.iinc k n, _, _) => kLd (lget lv k) (fun v => kI [v] (fun a _ => K c s (lset lv k (.int (a + Int32.ofInt n))) st σ))
  | (.iadd, _, _) => kII st (fun a b r => K c s lv (.int (a + b) :: r) σ)
  | (.isub, _, _) => kII st (fun a b r => K c s lv (.int (a - b) :: r) σ)
  | (.imul, _, _) => kII st (fun a b r => K c s lv (.int (a * b) :: r) σ)
  | (.iand, _, _) => kII st (fun a b r => K c s lv (.int (a &&& b) :: r) σ)
  | (.ior, _, _) => kII st (fun a b r => K c s lv (.int (a ||| b) :: r) σ)
  | (.ixor, _, _) => kII st (fun a b r => K c s lv (.int (a ^^^ b) :: r) σ)
  | (.ishl, _, _) => kII st (fun a b r => K c s lv (.int (a <<< (b &&& 31)) :: r) σ)
  | (.ishr, _, _) => kII st (fun a b r => K c s lv (.int (a >>> (b &&& 31)) :: r) σ)
  | (.iushr, _, _) => kII st (fun a b r => K c s lv (.int ((a.toUInt32 >>> (b.toUInt32 &&& Int32.toUInt32 31)).toInt32) :: r) σ)
  | (.idiv, _, _) => kII st (fun a b r => ¬ b = 0 ∧ K c s lv (.int (a / b) :: r) σ)
  | (.irem, _, _) => kII st (fun a b r => ¬ b = 0 ∧ K c s lv (.int (a - a / b * b) :: r) σ)
  | (.ladd, _, _) => kLL st (fun a b r => K c s lv (.long (a + b) :: r) σ)
  | (.lsub, _, _) => kLL st (fun a b r => K c s lv (.long (a - b) :: r) σ)
  | (.lmul, _, _) => kLL st (fun a b r => K c s lv (.long (a * b) :: r) σ)
  | (.land, _, _) => kLL st (fun a b r => K c s lv (.long (a &&& b) :: r) σ)
  | (.lor, _, _) => kLL st (fun a b r => K c s lv (.long (a ||| b) :: r) σ)
  | (.lxor, _, _) => kLL st (fun a b r => K c s lv (.long (a ^^^ b) :: r) σ)
  | (.ldiv, _, _) => kLL st (fun a b r => ¬ b = 0 ∧ K c s lv (.long (a / b) :: r) σ)
  | (.lrem, _, _) => kLL st (fun a b r => ¬ b = 0 ∧ K c s lv (.long (a - a / b * b) :: r) σ)
  | (.lcmp, _, _) => kLL st (fun a b r => K c s lv (.int (lg_cmp a b) :: r) σ)
  | (.lshl, _, _) => kLI st (fun a b r => K c s lv (.long (a <<< (b.toInt64 &&& 63)) :: r) σ)
  | (.lshr, _, _) => kLI st (fun a b r => K c s lv (.long (a >>> (b.toInt64 &&& 63)) :: r) σ)
  | (.lushr, _, _) => kLI st (fun a b r => K c s lv (.long ((a.toUInt64 >>> (b.toInt64.toUInt64 &&& Int64.toUInt64 63)).toInt64) :: r) σ)
  | (.ineg, _, _) => kI st (fun a r => K c s lv (.int (-a) :: r) σ)
  | (.i2l, _, _) => kI st (fun a r => K c s lv (.long (a.toInt64) :: r) σ)
  | (.l2i, _, _) => kL st (fun a r => K c s lv (.int (a.toInt32) :: r) σ)
  | (.i2b, _, _) => kI st (fun a r => K c s lv (.int (a.toInt8.toInt32) :: r) σ)
  | (.i2s, _, _) => kI st (fun a r => K c s lv (.int (a.toInt16.toInt32) :: r) σ)
  | (.i2c, _, _) => kI st (fun a r => K c s lv (.int ((a.toUInt32 % 65536).toInt32) :: r) σ)
  | (.dup, _, _) => kV st (fun v r => v.category = 1 ∧ K c s lv (v :: v :: r) σ)
  | (.pop, _, _) => kV st (fun v r => v.category = 1 ∧ K c s lv r σ)
  | (.dup2, 0 :: _, _) => kVV st (fun v u r => v.category = 1 ∧ u.category = 1 ∧ K c s lv (u :: v :: u :: v :: r) σ)
  | (.dup2, 1 :: _, _) => kV st (fun v r => v.category = 2 ∧ K c s lv (v :: v :: r) σ)
  | (.pop2, 0 :: _, _) => kVV st (fun v u r => v.category = 1 ∧ u.category = 1 ∧ K c s lv r σ)
  | (.pop2, 1 :: _, _) => kV st (fun v r => v.category = 2 ∧ K c s lv r σ)
  | (.if_icmp cd _, t :: _, _) => kII st (fun a b r => (bCond cd a b → J t c s lv r σ) ∧ (¬ bCond cd a b → K c s lv r σ))
  | (.ifCond cd _, t :: _, _) => kI st (fun a r => (bCond cd a 0 → J t c s lv r σ) ∧ (¬ bCond cd a 0 → K c s lv r σ))
  | (.goto _, t :: _, _) => J t c s lv st σ
  | (.nop, t :: _, _) => J t c s lv st σ
  | (.tableswitch _ lo hi _, dt :: ts, _) => kI st (fun a r => ((a.toInt < lo ∨ hi < a.toInt) → J dt c s lv r σ) ∧ kSw a lo ts (fun t => J t c s lv r σ))
  | (.lookupswitch _ ps, dt :: ts, _) => kI st (fun a r => kLk a (fun t => J t c s lv r σ) dt ps.toList ts)
  | (.getfield _, 0 :: ci :: k :: _, _) => kR st (fun a r => kd σ a = some (0, ci) ∧ K c s lv (.int (gI σ a k) :: r) σ)
  | (.getfield _, 1 :: ci :: k :: _, _) => kR st (fun a r => kd σ a = some (0, ci) ∧ K c s lv (.long (gL σ a k) :: r) σ)
  | (.getfield _, 2 :: ci :: k :: _, _) => kR st (fun a r => kd σ a = some (0, ci) ∧ ∃ b, gR σ a k = some b ∧ K c s lv (.ref b :: r) σ)
  | (.putfield _, 0 :: ci :: k :: _, _) => kRI st (fun a v r => kd σ a = some (0, ci) ∧ K c s lv r (sI σ a k v))
  | (.putfield _, 1 :: ci :: k :: _, _) => kRL st (fun a v r => kd σ a = some (0, ci) ∧ K c s lv r (sL σ a k v))
  | (.putfield _, 2 :: ci :: k :: _, _) => kRR st (fun a v r => kd σ a = some (0, ci) ∧ K c s lv r (sR σ a k (some v)))
  | (.putfield _, 3 :: ci :: k :: _, _) => kRI st (fun a v r => kd σ a = some (0, ci) ∧ (v = 0 ∨ v = 1) ∧ K c s lv r (sI σ a k v))
  | (.iaload, 0 :: _, _) => kRI st (fun a i r => ∃ n, kd σ a = some (1, n) ∧ vp_in i n ∧ K c s lv (.int (gI σ a i.toNatClampNeg) :: r) σ)
  | (.iaload, 9 :: _, _) => kRI st (fun a i r => a = 2000000 ∧ vp_in i (cxL X) ∧ K c s lv (.int (cxx X i.toNatClampNeg) :: r) σ)
  | (.baload, t :: _, _) => kRI st (fun a i r => (t = 3 ∨ t = 4) ∧ ∃ n, kd σ a = some (t, n) ∧ vp_in i n ∧ K c s lv (.int (gI σ a i.toNatClampNeg) :: r) σ)
  | (.laload, _, _) => kRI st (fun a i r => ∃ n, kd σ a = some (2, n) ∧ vp_in i n ∧ K c s lv (.long (gL σ a i.toNatClampNeg) :: r) σ)
  | (.aaload, t :: _, _) => kRI st (fun a i r => t < 3 ∧ ∃ n, kd σ a = some (t + 5, n) ∧ vp_in i n ∧ ∃ b, gR σ a i.toNatClampNeg = some b ∧ K c s lv (.ref b :: r) σ)
  | (.iastore, _, _) => kRII st (fun a i x r => ∃ n, kd σ a = some (1, n) ∧ vp_in i n ∧ K c s lv r (sI σ a i.toNatClampNeg x))
  | (.bastore, 3 :: _, _) => kRII st (fun a i x r => ∃ n, kd σ a = some (3, n) ∧ vp_in i n ∧ K c s lv r (sI σ a i.toNatClampNeg x.toInt8.toInt32))
  | (.bastore, 4 :: _, _) => kRII st (fun a i x r => ∃ n, kd σ a = some (4, n) ∧ vp_in i n ∧ K c s lv r (sI σ a i.toNatClampNeg (x &&& 1)))
  | (.lastore, _, _) => kRIL st (fun a i x r => ∃ n, kd σ a = some (2, n) ∧ vp_in i n ∧ K c s lv r (sL σ a i.toNatClampNeg x))
  | (.aastore, t :: _, _) => kRIR st (fun a i x r => t < 3 ∧ ∃ n, kd σ a = some (t + 5, n) ∧ vp_in i n ∧ kd σ x = some (0, 2 * t + 2 + (if t = 0 then 0 else 2)) ∧ K c s lv r (sR σ a i.toNatClampNeg (some x)))
  | (.arraylength, 1 :: _, _) => kR st (fun a r => a = 2000000 ∧ K c s lv (.int (nI (cxL X)) :: r) σ)
  | (.arraylength, 0 :: t :: _, _) => kR st (fun a r => (0 < t ∧ t < 8) ∧ ∃ n, kd σ a = some (t, n) ∧ K c s lv (.int (nI n) :: r) σ)
  | (.new _, ci :: _, _) => c + 1 ≤ R.cells ∧ s + nF ci ≤ R.slots ∧ σ.1.length + 1 < 1000000 ∧ K (c + 1) (s + nF ci) lv (.ref σ.1.length :: st) (nw σ (0, ci))
  | (.newarray _, t :: _, _) => kI st (fun n r => ¬ n < 0 ∧ n.toNatClampNeg ≤ 100000 ∧ c + 1 ≤ R.cells ∧ s + n.toNatClampNeg ≤ R.slots ∧ σ.1.length + 1 < 1000000 ∧ K (c + 1) (s + n.toNatClampNeg) lv (.ref σ.1.length :: r) (nw σ (t, n.toNatClampNeg)))
  | (.anewarray _, t :: _, _) => kI st (fun n r => ¬ n < 0 ∧ n.toNatClampNeg ≤ 100000 ∧ c + 1 ≤ R.cells ∧ s + n.toNatClampNeg ≤ R.slots ∧ σ.1.length + 1 < 1000000 ∧ K (c + 1) (s + n.toNatClampNeg) lv (.ref σ.1.length :: r) (nw σ (t, n.toNatClampNeg)))
  | (.invokespecial _, 2 :: _, _) => kR st (fun _ r => r.length ≤ 4 ∧ 0 < d ∧ K c s lv r σ)
  | (.invokestatic _, 1 :: _, _) => kCpy st (fun a sp b dp n r => r = [] ∧ 0 < d ∧ ∃ na nb, kd σ a = some (1, na) ∧ kd σ b = some (1, nb) ∧ (¬ sp < 0 ∧ ¬ dp < 0 ∧ ¬ n < 0 ∧ sp.toNatClampNeg + n.toNatClampNeg ≤ na ∧ dp.toNatClampNeg + n.toNatClampNeg ≤ nb) ∧ K c s lv r (rI σ b (va_cpy (gI σ a) (gI σ b) sp.toNatClampNeg dp.toNatClampNeg n.toNatClampNeg)))
  | (.invokestatic _, 2 :: _, _) => kCpy st (fun a sp b dp n r => r = [] ∧ 0 < d ∧ ∃ na nb, kd σ a = some (2, na) ∧ kd σ b = some (2, nb) ∧ (¬ sp < 0 ∧ ¬ dp < 0 ∧ ¬ n < 0 ∧ sp.toNatClampNeg + n.toNatClampNeg ≤ na ∧ dp.toNatClampNeg + n.toNatClampNeg ≤ nb) ∧ K c s lv r (rL σ b (va_cpy (gL σ a) (gL σ b) sp.toNatClampNeg dp.toNatClampNeg n.toNatClampNeg)))
  | (.invokestatic _, 3 :: _, _) => kCpy st (fun a sp b dp n r => r = [] ∧ 0 < d ∧ ∃ na nb, kd σ a = some (3, na) ∧ kd σ b = some (3, nb) ∧ (¬ sp < 0 ∧ ¬ dp < 0 ∧ ¬ n < 0 ∧ sp.toNatClampNeg + n.toNatClampNeg ≤ na ∧ dp.toNatClampNeg + n.toNatClampNeg ≤ nb) ∧ (∀ i, i < n.toNatClampNeg → fits .byte (.int (gI σ a (sp.toNatClampNeg + i))) = true) ∧ K c s lv r (rI σ b (va_cpy (gI σ a) (gI σ b) sp.toNatClampNeg dp.toNatClampNeg n.toNatClampNeg)))
  | (.invokestatic _, 4 :: _, _) => kII st (fun a b r => r.length ≤ 4 ∧ 0 < d ∧ K c s lv (.int (imn a b) :: r) σ)
  | (.invokestatic _, 5 :: _, _) => kII st (fun a b r => r.length ≤ 4 ∧ 0 < d ∧ K c s lv (.int (imx a b) :: r) σ)
  | (.invokestatic _, 0 :: n :: mc :: ms :: _, N :: _) => kArg n [] st (fun as r => r.length ≤ 4 ∧ c + mc ≤ R.cells ∧ s + ms ≤ R.slots ∧ match d with | 0 => False | d + 1 => Call X d mc ms N as σ (fun v σ' => K (c + mc) (s + ms) lv (v.toList ++ r) σ'))
  | (.invokespecial _, 0 :: n :: mc :: ms :: _, N :: _) => kArg n [] st (fun as r => kR r (fun b r => r.length ≤ 4 ∧ c + mc ≤ R.cells ∧ s + ms ≤ R.slots ∧ match d with | 0 => False | d + 1 => Call X d mc ms N (.ref b :: as) σ (fun v σ' => K (c + mc) (s + ms) lv (v.toList ++ r) σ')))
  | (.invokespecial _, 1 :: n :: mc :: ms :: _, N :: _) => kArg n [] st (fun as r => kR r (fun b r => r.length ≤ 4 ∧ c + mc ≤ R.cells ∧ s + ms ≤ R.slots ∧ match d with | 0 => False | d + 1 => Call X d mc ms N (.ref b :: as) σ (fun v σ' => K (c + mc) (s + ms) lv (v.toList ++ r) σ')))
  | (.invokevirtual _, 0 :: n :: mc :: ms :: ci :: _, N :: _) => kArg n [] st (fun as r => kR r (fun b r => r.length ≤ 4 ∧ c + mc ≤ R.cells ∧ s + ms ≤ R.slots ∧ kd σ b = some (0, ci) ∧ match d with | 0 => False | d + 1 => Call X d mc ms N (.ref b :: as) σ (fun v σ' => K (c + mc) (s + ms) lv (v.toList ++ r) σ')))
  | (.invokevirtual _, 1 :: n :: mc :: ms :: _, N :: _) => kArg n [] st (fun as r => kR r (fun b r => r.length ≤ 4 ∧ c + mc ≤ R.cells ∧ s + ms ≤ R.slots ∧ (1000000 ≤ b ∧ b < 1000009) ∧ match d with | 0 => False | d + 1 => Call X d mc ms N (.ref b :: as) σ (fun v σ' => K (c + mc) (s + ms) lv (v.toList ++ r) σ')))
  | (.ireturn, 0 :: _, _) => kI st (fun v r => r = [] ∧ c = R.cells ∧ Q (some (.int v)) σ)
  | (.ireturn, 1 :: _, _) => kI st (fun v r => r = [] ∧ c = R.cells ∧ (v = 0 ∨ v = 1) ∧ Q (some (.int v)) σ)
  | (.lreturn, _, _) => kL st (fun v r => r = [] ∧ c = R.cells ∧ Q (some (.long v)) σ)
  | (.return_, _, _) => st = [] ∧ c = R.cells ∧ Q none σ
  | _ => False
def vl (X : Cx) (R : Room) (d : Nat) (Q : Po) (J : Nat → Ct) : List AI → Ct
  | [] => fun _ _ _ _ _ => False
  | i :: is => vi X R d Q J i (vl X R d Q J is)
