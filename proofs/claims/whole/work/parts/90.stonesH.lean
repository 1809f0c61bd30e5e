/-! stones: the sum of all wishes -/
set_option maxRecDepth 20000
theorem sumN_eq {g h : Nat → Nat} : ∀ {n}, (∀ i, i < n → g i = h i) → sumN g n = sumN h n
  | 0, _ => rfl
  | n + 1, e => by
    show sumN g n + g n = sumN h n + h n
    rw [sumN_eq (fun i hi => e i (by omega)), e n (by omega)]
theorem sW_all {V : Nat → Int32} {N : Nat} : sW V N (wsh V N) = sumN (wsN V) N := by
  unfold sW
  refine sumN_eq (fun i hi => ?_)
  by_cases h : 0 < wsN V i
  · have e : (wsh V N).testBit i = true := bP_in (fun f => 0 < wsN V f) hi h
    show (if (wsh V N).testBit i = true then wsN V i else 0) = _
    rw [if_pos e]
  · have e : ¬ (wsh V N).testBit i = true := fun q => h (bP_bit.mp q).2
    show (if (wsh V N).testBit i = true then wsN V i else 0) = _
    rw [if_neg e]
    omega
