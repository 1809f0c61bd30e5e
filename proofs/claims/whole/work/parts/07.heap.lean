/-! Classes, fields and the words that lay them -/
theorem mem_hints {ws : List Cond} (hs : List Nat) (h : ws = hs.filterMap (fun i => lw_tbl[i]?)) (g : ws.all goodWord = true) : ∀ w ∈ ws, w ∈ Tg := by
  intro w hw
  refine List.mem_filter.mpr ⟨?_, List.all_eq_true.mp g w hw⟩
  rw [h] at hw
  obtain ⟨i, -, hi⟩ := List.mem_filterMap.mp hw
  exact List.mem_of_getElem? hi
theorem clW0 : ∀ w ∈ u_ws RX0 TX0 4, w ∈ Tg := mem_hints [322, 324, 326, 328] (by decide +kernel) (by decide +kernel)
theorem clW1 : ∀ w ∈ u_ws RX1 TX1 6, w ∈ Tg := mem_hints [408, 410, 412, 414, 416, 418] (by decide +kernel) (by decide +kernel)
theorem clW2 : ∀ w ∈ u_ws RX2 TX2 9, w ∈ Tg := mem_hints [167, 169, 171, 173, 175, 177, 179, 181, 183] (by decide +kernel) (by decide +kernel)
theorem clW3 : ∀ w ∈ u_ws RX3 TX3 11, w ∈ Tg := mem_hints [371, 373, 375, 377, 379, 381, 383, 385, 387, 389, 391] (by decide +kernel) (by decide +kernel)
theorem clW4 : ∀ w ∈ u_ws RX4 TX4 8, w ∈ Tg := mem_hints [438, 440, 442, 444, 446, 448, 450, 452] (by decide +kernel) (by decide +kernel)
theorem clW5 : ∀ w ∈ u_ws RX5 TX5 9, w ∈ Tg := mem_hints [289, 291, 293, 295, 297, 299, 301, 303, 305] (by decide +kernel) (by decide +kernel)
theorem clW6 : ∀ w ∈ u_ws RX6 TX6 4, w ∈ Tg := mem_hints [260, 262, 264, 266] (by decide +kernel) (by decide +kernel)
theorem clW7 : ∀ w ∈ u_ws RX7 TX7 3, w ∈ Tg := mem_hints [340, 342, 344] (by decide +kernel) (by decide +kernel)
theorem clW8 : ∀ w ∈ u_ws RX8 TX8 8, w ∈ Tg := mem_hints [227, 229, 231, 233, 235, 237, 239, 241] (by decide +kernel) (by decide +kernel)
theorem clW9 : ∀ w ∈ u_ws RX9 TX9 11, w ∈ Tg := mem_hints [466, 468, 470, 472, 474, 476, 478, 480, 482, 484, 486] (by decide +kernel) (by decide +kernel)
theorem clW10 : ∀ w ∈ u_ws RX10 TX10 43, w ∈ Tg := mem_hints [1235, 1237, 1239, 1241, 1243, 1245, 1247, 1249, 1251, 1253, 1255, 1257, 1259, 1261, 1263, 1265, 1267, 1269, 1271, 1273, 1275, 1277, 1279, 1281, 1283, 1285, 1287, 1289, 1291, 1293, 1295, 1297, 1299, 1301, 1303, 1305, 1307, 1309, 1311, 1313, 1315, 1317, 1319] (by decide +kernel) (by decide +kernel)
theorem cl_ok : ∀ ci, ci < 11 → vwCl[ci]? = some (clNm ci, clFd ci, nF ci) ∧ (∀ w ∈ u_ws (clNm ci) (clFd ci) (nF ci), w ∈ Tg) ∧ (∀ k, k < nF ci → parseFieldDescriptor (clFd ci k).2.2.1 = some (clTy ci k)) ∧ (∀ a, a < nF ci → ∀ b, b < nF ci → a ≠ b → (clFd ci a).2.1 ≠ (clFd ci b).2.1)
  | 0, _ => ⟨rfl, clW0, tyX0_ok, nmX0⟩
  | 1, _ => ⟨rfl, clW1, tyX1_ok, nmX1⟩
  | 2, _ => ⟨rfl, clW2, tyX2_ok, nmX2⟩
  | 3, _ => ⟨rfl, clW3, tyX3_ok, nmX3⟩
  | 4, _ => ⟨rfl, clW4, tyX4_ok, nmX4⟩
  | 5, _ => ⟨rfl, clW5, tyX5_ok, nmX5⟩
  | 6, _ => ⟨rfl, clW6, tyX6_ok, nmX6⟩
  | 7, _ => ⟨rfl, clW7, tyX7_ok, nmX7⟩
  | 8, _ => ⟨rfl, clW8, tyX8_ok, nmX8⟩
  | 9, _ => ⟨rfl, clW9, tyX9_ok, nmX9⟩
  | 10, _ => ⟨rfl, clW10, tyX10_ok, nmX10⟩
  | n + 11, h => absurd h (by omega)
theorem Hp.at {X : Cx} {σ : Mm} {H : Heap} {a : Nat} {q : Nat × Nat} (hH : Hp X σ H) (h : kd σ a = some q) : adr X a = cxB X + a ∧ (wl X σ)[a]? = some (adr X a, ce X σ a q) := by
  have hl := kd_lt h
  have e := adr_lt (X := X) (Nat.lt_trans hl hH.2)
  exact ⟨e, by rw [e]; exact wl_at h⟩
section
variable {p : Program} {l : Launch} {e : Env} {s : State} {m : MethodId} {args : Array Value} {below : List Frame} {meth : Method} {c : Code} {H : Heap} {locs : List Loc} {c0 s0 : Nat} {QQ : State → Prop} {g : JFrame}
variable {X : Cx} {M : MI} {R : Room} {d : Nat} {Q : Po} {J : Nat → Ct} {pc len : Nat} {K : Ct} {h : List Nat} {ms : List MI} {σ : Mm}
theorem W.size (hO : cxB X ≤ s.heap.size) (hH : Hp X σ H) (hn : s.heap.size + c0 = cxB X + σ.1.length) (hS : va_S (aA X) s.heap H locs) (k : H.size = cxB X + σ.1.length → W p l e R s m args below meth c H locs c0 s0 QQ g) : W p l e R s m args below meth c H locs c0 s0 QQ g := by
  intro T hT X'
  have h1 : T.heap.size ≤ s.heap.size + c0 := X'.heapSize
  have h2 : cxB X + σ.1.length ≤ H.size := by
    rcases Nat.eq_zero_or_pos σ.1.length with h0 | h0
    · have := hS.1
      omega
    · have hk : kd σ (σ.1.length - 1) = some (σ.1[σ.1.length - 1]'(by omega)) := List.getElem?_eq_getElem _
      have := (hH.1 _ _ (wl_at (X := X) hk)).lt
      simp only at this
      omega
  rw [hT] at h1
  exact k (by omega) T hT X'
theorem fv_I {X : Cx} {σ : Mm} {a k : Nat} {ty : FieldType} (h : ty = .int ∨ ty = .boolean) : fv X σ a ty k = .int (gI σ a k) := by rcases h with rfl | rfl <;> rfl
theorem fv_R {X : Cx} {σ : Mm} {a k : Nat} {ty : FieldType} (h : isR ty = true) : fv X σ a ty k = va_rf ((gR σ a k).map (adr X)) := by simp [fv, h]
theorem sd_getI {x ci k w : Nat} (hd : decode M.2.1 pc = .ok (.getfield x, len)) (hc : ch1 M pc (.getfield x, 0 :: ci :: k :: w :: h, ms) len = true) (hK : Sd X M R d Q (pc + len) K) : Sd X M R d Q pc (vi X R d Q J (.getfield x, 0 :: ci :: k :: w :: h, ms) K) := by
  intro c0 s0 lv st σ hv
  obtain ⟨a, r, rfl, hk, hv⟩ := kR_e hv
  simp only [ch1, Bool.and_eq_true, beq_iff_eq, decide_eq_true_eq] at hc
  obtain ⟨⟨⟨⟨hlen, hci⟩, hkn⟩, hw⟩, hty⟩ := hc
  subst hlen
  intro p e s m args below meth c H locs ls hE h1 h2 hn0 hH hS hl
  obtain ⟨hx, hb, hr, hml, hlk, hnm, hown, hts, hKk, hO, hrest⟩ := id hE
  obtain ⟨o1, o2, o3, o4⟩ := cl_ok ci hci
  obtain ⟨e1, e2⟩ := hH.at hk
  exact va_get hx hb hts o2 hown hKk hH.1 a e2 o1 k hkn (hts _ (inT_mem hw)) (fun _ h => h) (by rw [fl_at hkn, fv_I hty]; rfl) hd (hK _ _ _ _ _ hv p e s m args below meth c H locs ls hE h1 h2 hn0 hH hS hl)
theorem sd_getL {x ci k w : Nat} (hd : decode M.2.1 pc = .ok (.getfield x, len)) (hc : ch1 M pc (.getfield x, 1 :: ci :: k :: w :: h, ms) len = true) (hK : Sd X M R d Q (pc + len) K) : Sd X M R d Q pc (vi X R d Q J (.getfield x, 1 :: ci :: k :: w :: h, ms) K) := by
  intro c0 s0 lv st σ hv
  obtain ⟨a, r, rfl, hk, hv⟩ := kR_e hv
  simp only [ch1, Bool.and_eq_true, beq_iff_eq, decide_eq_true_eq] at hc
  obtain ⟨⟨⟨⟨hlen, hci⟩, hkn⟩, hw⟩, hty⟩ := hc
  subst hlen
  intro p e s m args below meth c H locs ls hE h1 h2 hn0 hH hS hl
  obtain ⟨hx, hb, hr, hml, hlk, hnm, hown, hts, hKk, hO, hrest⟩ := id hE
  obtain ⟨o1, o2, o3, o4⟩ := cl_ok ci hci
  obtain ⟨e1, e2⟩ := hH.at hk
  exact va_get hx hb hts o2 hown hKk hH.1 a e2 o1 k hkn (hts _ (inT_mem hw)) (fun _ h => h) (by rw [fl_at hkn, hty]; rfl) hd (hK _ _ _ _ _ hv p e s m args below meth c H locs ls hE h1 h2 hn0 hH hS hl)
theorem sd_getR {x ci k w : Nat} (hd : decode M.2.1 pc = .ok (.getfield x, len)) (hc : ch1 M pc (.getfield x, 2 :: ci :: k :: w :: h, ms) len = true) (hK : Sd X M R d Q (pc + len) K) : Sd X M R d Q pc (vi X R d Q J (.getfield x, 2 :: ci :: k :: w :: h, ms) K) := by
  intro c0 s0 lv st σ hv
  obtain ⟨a, r, rfl, hk, b, hb0, hv⟩ := kR_e hv
  simp only [ch1, Bool.and_eq_true, beq_iff_eq, decide_eq_true_eq] at hc
  obtain ⟨⟨⟨⟨hlen, hci⟩, hkn⟩, hw⟩, hty⟩ := hc
  subst hlen
  intro p e s m args below meth c H locs ls hE h1 h2 hn0 hH hS hl
  obtain ⟨hx, hb, hr, hml, hlk, hnm, hown, hts, hKk, hO, hrest⟩ := id hE
  obtain ⟨o1, o2, o3, o4⟩ := cl_ok ci hci
  obtain ⟨e1, e2⟩ := hH.at hk
  exact va_get hx hb hts o2 hown hKk hH.1 a e2 o1 k hkn (hts _ (inT_mem hw)) (fun _ h => h) (by rw [fl_at hkn, fv_R hty, hb0]; rfl) hd (hK _ _ _ _ _ hv p e s m args below meth c H locs ls hE h1 h2 hn0 hH hS hl)
/-- a field's store, final or not -/
theorem put_any {x ci k w : Nat} {ls : Array Slot} {a : Nat} {v : Value} {r : List Value} {σ' : Mm} (hE : En X M R d p s m args meth c) (hd : decode M.2.1 pc = .ok (.putfield x, 3)) (hci : ci < 11) (hkn : k < nF ci) (hw : inT w (.fieldLink M.1.cls x (clFd ci k).1 (clFd ci k).2.1 (clFd ci k).2.2.1) = true) (hf : (!(clFd ci k).2.2.2 || (decide (M.1.name = "<init>") && decide ((clFd ci k).1 = M.1.cls))) = true)
    (hH : Hp X σ H) (hS : va_S (aA X) s.heap H locs) (hk : kd σ a = some (0, ci)) (hnv : narrow (clTy ci k) (tv X v) = tv X v) (hfv : fits (clTy ci k) (tv X v) = true) (hσ : σ'.1 = σ.1) (hself : fv X σ' a (clTy ci k) k = tv X v) (hoth : ∀ j ty, j ≠ k → fv X σ' a ty j = fv X σ a ty j) (hoff : ∀ b q, b ≠ a → ce X σ' b q = ce X σ b q)
    (kk : ∀ (H1 : Heap) (locs1 : List Loc), Hp X σ' H1 → va_S (aA X) s.heap H1 locs1 → W p l e R s m args below meth c H1 locs1 c0 s0 QQ (F0 m (pc + 3) ls (r.map (tv X)))) : W p l e R s m args below meth c H locs c0 s0 QQ (F0 m pc ls ((v :: .ref a :: r).map (tv X))) := by
  obtain ⟨hx, hb, hr, hml, hlk, hnm, hown, hts, hKk, hO, hrest⟩ := id hE
  obtain ⟨o1, o2, o3, o4⟩ := cl_ok ci hci
  obtain ⟨e1, e2⟩ := hH.at hk
  have ew : (wl X σ).set a (adr X a, .inr (ci, (fl X σ a ci).set k (tv X v))) = wl X σ' := by
    rw [e1]
    refine wl_set hσ (kd_lt hk) ?_ hoff
    rw [hk]
    show Sum.inr (ci, fl X σ' a ci) = _
    rw [fl_set hkn hself hoth]
  by_cases hfin : (clFd ci k).2.2.2 = true
  · rw [hfin] at hf
    simp only [Bool.not_true, Bool.false_or, Bool.and_eq_true, decide_eq_true_eq] at hf
    refine va_putF (ty := clTy ci k) hx hb hts o2 (clTy ci) o3 o4 hown hKk hH.1 (wl_D X σ) hS a e2 o1 k hkn (hts _ (inT_mem hw)) (fun _ h => h) hfin (hnm hf.1) hf.2 (o3 k hkn) hnv hfv (by rw [fl_len]; exact hkn) hd (fun H1 locs1 hP1 _ hS1 => kk H1 locs1 ⟨by rw [← ew]; exact hP1, by rw [hσ]; exact hH.2⟩ hS1)
  · refine va_put (ty := clTy ci k) hx hb hts o2 (clTy ci) o3 o4 hown hKk hH.1 (wl_D X σ) hS a e2 o1 k hkn (hts _ (inT_mem hw)) (fun _ h => h) (by simpa using hfin) (o3 k hkn) hnv hfv (by rw [fl_len]; exact hkn) hd (fun H1 locs1 hP1 _ hS1 => kk H1 locs1 ⟨by rw [← ew]; exact hP1, by rw [hσ]; exact hH.2⟩ hS1)
theorem sd_putI {x ci k w : Nat} (hd : decode M.2.1 pc = .ok (.putfield x, len)) (hc : ch1 M pc (.putfield x, 0 :: ci :: k :: w :: h, ms) len = true) (hK : Sd X M R d Q (pc + len) K) : Sd X M R d Q pc (vi X R d Q J (.putfield x, 0 :: ci :: k :: w :: h, ms) K) := by
  intro c0 s0 lv st σ hv
  obtain ⟨a, v, r, rfl, hk, hv⟩ := kRI_e hv
  simp only [ch1, Bool.and_eq_true, beq_iff_eq, decide_eq_true_eq] at hc
  obtain ⟨⟨⟨⟨⟨hlen, hci⟩, hkn⟩, hw⟩, hty⟩, hf⟩ := hc
  subst hlen
  intro p e s m args below meth c H locs ls hE h1 h2 hn0 hH hS hl
  exact put_any (σ' := sI σ a k v) hE hd hci hkn hw hf hH hS hk (by rw [hty]; rfl) (by rw [hty]; rfl) rfl (by rw [hty]; simp [fv, isR, gI, sI, tv]) (fun j ty hj => fv_sI (fun q => hj q.2)) (fun b q hb => ce_sI hb q) (fun H1 locs1 hH1 hS1 => hK _ _ _ _ _ hv p e s m args below meth c H1 locs1 ls hE h1 h2 hn0 hH1 hS1 hl)
theorem sd_putZ {x ci k w : Nat} (hd : decode M.2.1 pc = .ok (.putfield x, len)) (hc : ch1 M pc (.putfield x, 3 :: ci :: k :: w :: h, ms) len = true) (hK : Sd X M R d Q (pc + len) K) : Sd X M R d Q pc (vi X R d Q J (.putfield x, 3 :: ci :: k :: w :: h, ms) K) := by
  intro c0 s0 lv st σ hv
  obtain ⟨a, v, r, rfl, hk, hv01, hv⟩ := kRI_e hv
  simp only [ch1, Bool.and_eq_true, beq_iff_eq, decide_eq_true_eq] at hc
  obtain ⟨⟨⟨⟨⟨hlen, hci⟩, hkn⟩, hw⟩, hty⟩, hf⟩ := hc
  subst hlen
  intro p e s m args below meth c H locs ls hE h1 h2 hn0 hH hS hl
  exact put_any (σ' := sI σ a k v) hE hd hci hkn hw hf hH hS hk (by rw [hty]; rcases hv01 with rfl | rfl <;> rfl) (by rw [hty]; rcases hv01 with rfl | rfl <;> rfl) rfl (by rw [hty]; simp [fv, isR, gI, sI, tv]) (fun j ty hj => fv_sI (fun q => hj q.2)) (fun b q hb => ce_sI hb q) (fun H1 locs1 hH1 hS1 => hK _ _ _ _ _ hv p e s m args below meth c H1 locs1 ls hE h1 h2 hn0 hH1 hS1 hl)
theorem sd_putL {x ci k w : Nat} (hd : decode M.2.1 pc = .ok (.putfield x, len)) (hc : ch1 M pc (.putfield x, 1 :: ci :: k :: w :: h, ms) len = true) (hK : Sd X M R d Q (pc + len) K) : Sd X M R d Q pc (vi X R d Q J (.putfield x, 1 :: ci :: k :: w :: h, ms) K) := by
  intro c0 s0 lv st σ hv
  obtain ⟨a, v, r, rfl, hk, hv⟩ := kRL_e hv
  simp only [ch1, Bool.and_eq_true, beq_iff_eq, decide_eq_true_eq] at hc
  obtain ⟨⟨⟨⟨⟨hlen, hci⟩, hkn⟩, hw⟩, hty⟩, hf⟩ := hc
  subst hlen
  intro p e s m args below meth c H locs ls hE h1 h2 hn0 hH hS hl
  exact put_any (σ' := sL σ a k v) hE hd hci hkn hw hf hH hS hk (by rw [hty]; rfl) (by rw [hty]; rfl) rfl (by rw [hty]; simp [fv, isR, gL, sL, tv]) (fun j ty hj => fv_sL (fun q => hj q.2)) (fun b q hb => ce_sL hb q) (fun H1 locs1 hH1 hS1 => hK _ _ _ _ _ hv p e s m args below meth c H1 locs1 ls hE h1 h2 hn0 hH1 hS1 hl)
theorem sd_putR {x ci k w : Nat} (hd : decode M.2.1 pc = .ok (.putfield x, len)) (hc : ch1 M pc (.putfield x, 2 :: ci :: k :: w :: h, ms) len = true) (hK : Sd X M R d Q (pc + len) K) : Sd X M R d Q pc (vi X R d Q J (.putfield x, 2 :: ci :: k :: w :: h, ms) K) := by
  intro c0 s0 lv st σ hv
  obtain ⟨a, v, r, rfl, hk, hv⟩ := kRR_e hv
  simp only [ch1, Bool.and_eq_true, beq_iff_eq, decide_eq_true_eq] at hc
  obtain ⟨⟨⟨⟨⟨hlen, hci⟩, hkn⟩, hw⟩, hty⟩, hf⟩ := hc
  subst hlen
  intro p e s m args below meth c H locs ls hE h1 h2 hn0 hH hS hl
  have n1 : narrow (clTy ci k) (tv X (.ref v)) = tv X (.ref v) := by cases hq : clTy ci k <;> rw [hq] at hty <;> first | rfl | cases hty
  have n2 : fits (clTy ci k) (tv X (.ref v)) = true := by cases hq : clTy ci k <;> rw [hq] at hty <;> first | rfl | cases hty
  exact put_any (σ' := sR σ a k (some v)) hE hd hci hkn hw hf hH hS hk n1 n2 rfl (by rw [fv_R hty]; simp [gR, sR, va_rf, tv]) (fun j ty hj => fv_sR (fun q => hj q.2)) (fun b q hb => ce_sR hb q) (fun H1 locs1 hH1 hS1 => hK _ _ _ _ _ hv p e s m args below meth c H1 locs1 ls hE h1 h2 hn0 hH1 hS1 hl)
end

