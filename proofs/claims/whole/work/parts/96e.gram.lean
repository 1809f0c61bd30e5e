/-! lines of a text: what they say -/
set_option maxRecDepth 20000
/-- a number between lo and H (without) stands at b -/
def okNum (n : Nat) (B : Nat → Nat) (b lo H : Nat) : Prop := tK n B b = 9 ∧ lo ≤ vN n B b ∧ vN n B b < H
noncomputable def nFt (n : Nat) (B : Nat → Nat) (b : Nat) : Nat := if tK n B b = 12 then 1 else if tK n B b = 9 then 3 else 2
noncomputable def fT (n : Nat) (B : Nat → Nat) (b k : Nat) : Nat := if tK n B b = 12 then 1 else k
abbrev Rs (α : Type) : Type := (Nat × Nat) ⊕ α
/-- a word k and a number behind it, or neither -/
noncomputable def optN (n : Nat) (B : Nat → Nat) (b k lo H v : Nat) : Rs (Nat × Nat) := by
  classical
  exact if tK n B b = k then (if okNum n B (tD n B b) lo H then .inr (vN n B (tD n B b), tD n B (tD n B b)) else .inl (nFt n B (tD n B b), tP n B (tD n B b))) else .inr (v, b)
/-- numbers of loaves from age a on; how many, and where they end -/
noncomputable def brS (n : Nat) (B : Nat → Nat) (K : Nat) : Nat → Nat → Nat → Rs (Nat × Nat)
  | 0, _, _ => .inl (0, 0)
  | f + 1, a, b => by
    classical
    exact if a ≠ 0 ∧ tK n B b ≠ 9 then .inr (a, b) else if okNum n B b 0 100 then (if a = K then .inl (4, tP n B b) else brS n B K f (a + 1) (tD n B b)) else .inl (nFt n B b, tP n B b)
noncomputable def optB (n : Nat) (B : Nat → Nat) (K b : Nat) : Rs (Nat × Nat) := by
  classical
  exact if tK n B b = 2 then brS n B K 7 0 (tD n B b) else .inr (0, b)
noncomputable def itE (n : Nat) (B : Nat → Nat) : Nat → Nat → Nat
  | 0, b => b
  | a + 1, b => itE n B a (tD n B b)
/-- the new family's row -/
noncomputable def famV (n : Nat) (B : Nat → Nat) (W : Nat → Int32) (N e fl w m b : Nat) (i : Nat) : Int32 :=
  if i = 0 then nI (N + 1) else if i = 9 + N then nI e else if i = 19 + N then nI fl else if i = 29 + N then nI w else if 69 + 5 * N ≤ i ∧ i < 69 + 5 * N + m then nI (vN n B (itE n B (i - (69 + 5 * N)) b)) else W i
noncomputable def famS (n : Nat) (B : Nat → Nat) (W : Nat → Int32) (N K b : Nat) : Rs ((Nat → Int32) × Nat) := by
  classical
  exact if N = 10 then .inl (fT n B b 4, tP n B b) else
    if okNum n B (tD n B b) 0 31 then
      match optN n B (tD n B (tD n B b)) 1 0 1000 50 with
      | .inl e => .inl e
      | .inr (fl, b4) => match optB n B K b4 with
        | .inl e => .inl e
        | .inr (m, b6) => match optN n B b6 3 0 100 0 with
          | .inl e => .inl e
          | .inr (w, b8) => .inr (famV n B W N (vN n B (tD n B b)) fl w m (tD n B b4), b8)
    else .inl (nFt n B (tD n B b), tP n B (tD n B b))
noncomputable def ovS (n : Nat) (B : Nat → Nat) (W : Nat → Int32) (O b : Nat) : Rs ((Nat → Int32) × Nat) := by
  classical
  exact if O = 3 then .inl (fT n B b 4, tP n B b) else if okNum n B (tD n B b) 1 61 then .inr (upd (upd W (6 + O) (nI (vN n B (tD n B b)))) 1 (nI (O + 1)), tD n B (tD n B b)) else .inl (nFt n B (tD n B b), tP n B (tD n B b))
noncomputable def quS (n : Nat) (B : Nat → Nat) (W : Nat → Int32) (N b : Nat) : Rs ((Nat → Int32) × Nat) := by
  classical
  exact if okNum n B (tD n B b) 0 N then
      (if tK n B (tD n B (tD n B b)) = 9 ∧ vN n B (tD n B (tD n B b)) = vN n B (tD n B b) then .inl (3, tP n B (tD n B (tD n B b)))
      else if okNum n B (tD n B (tD n B b)) 0 N then .inr (upd (upd W (119 + 10 * vN n B (tD n B b) + vN n B (tD n B (tD n B b))) (nI 1)) (119 + 10 * vN n B (tD n B (tD n B b)) + vN n B (tD n B b)) (nI 1), tD n B (tD n B (tD n B b)))
      else .inl (nFt n B (tD n B (tD n B b)), tP n B (tD n B (tD n B b))))
    else .inl (nFt n B (tD n B b), tP n B (tD n B b))
noncomputable def keS (n : Nat) (B : Nat → Nat) (W : Nat → Int32) (N b : Nat) : Rs ((Nat → Int32) × Nat) := by
  classical
  exact if N = 0 then (if okNum n B (tD n B b) 1 6 then .inr (upd W 3 (nI (vN n B (tD n B b))), tD n B (tD n B b)) else .inl (nFt n B (tD n B b), tP n B (tD n B b))) else .inl (fT n B b 2, tP n B b)
noncomputable def fuS (n : Nat) (B : Nat → Nat) (W : Nat → Int32) (b : Nat) : Rs ((Nat → Int32) × Nat) := by
  classical
  exact if okNum n B (tD n B b) 0 1000 then .inr (upd W 4 (nI (vN n B (tD n B b))), tD n B (tD n B b)) else .inl (nFt n B (tD n B b), tP n B (tD n B b))
/-- a line without its end -/
noncomputable def stS (n : Nat) (B : Nat → Nat) (W : Nat → Int32) (N O K b : Nat) : Rs ((Nat → Int32) × Nat) := by
  classical
  exact if tK n B b = 0 then famS n B W N K b else if tK n B b = 4 then ovS n B W O b else if tK n B b = 5 then quS n B W N b else if tK n B b = 6 then keS n B W N b else if tK n B b = 7 then fuS n B W b else .inl (fT n B b 2, tP n B b)
noncomputable def liS (n : Nat) (B : Nat → Nat) (W : Nat → Int32) (N O K b : Nat) : Rs ((Nat → Int32) × Nat) :=
  match stS n B W N O K b with
  | .inl e => .inl e
  | .inr (W', b') => if tK n B b' = 10 then .inr (upd W' 5 (W' 5 + nI 1), tD n B b') else .inl (fT n B b' 2, tP n B b')
/-- a village as a text tells it -/
def FV (W : Nat → Int32) (N O K : Nat) : Prop := Gd W 0 N O K ∧ (∀ j f, j < 6 → N ≤ f → f < 10 → W (9 + 10 * j + f) = nI 0) ∧ ∀ f a, N ≤ f → f < 10 → a < 5 → W (69 + 5 * f + a) = nI 0
