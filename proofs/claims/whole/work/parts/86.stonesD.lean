/-! stones: both tables say the same -/
set_option maxRecDepth 20000
theorem st_rel {V : Nat → Int32} {t N O K z : Nat} {T L : Nat → Int32} (hG : Gd V t N O K) (hT : TB 0 (wsh V N) (fitS V N z) T) (h0 : L 0 = nI 0) (hL : ∀ s, 0 < s → s < 2 ^ N → s &&& wsh V N = s → L s = cm (fitM V N z) L s) : ∀ n s, s < n → s < 2 ^ N → s &&& wsh V N = s → RLp (pcN s 10) (T s) (L s)
  | 0, s, q, _, _ => absurd q (by omega)
  | n + 1, s, q, s2, hw => by
    have hN := hG.1.2
    have pw := pow_le hN
    by_cases e0 : s = 0
    · subst e0
      exact Or.inl ⟨0, by omega, hT.1, h0⟩
    have ih := st_rel hG hT h0 hL n
    have s0 : 0 < s := by omega
    rw [hT.2 s s0 (sub_le hw) hw, hL s s0 s2 hw]
    unfold cl cm
    have same : ∀ x, pA s x → (fitS V N z x ↔ fitM V N z x) := fun x hx => by
      have g := gdS_torn (s := x) hG
      constructor
      · rintro ⟨a, b⟩
        exact ⟨(g.mp a).2, b⟩
      · rintro ⟨a, b⟩
        exact ⟨g.mpr ⟨fun f hf hb => (bP_bit.mp (sub_bit.mp hw f (sub_bit.mp hx.1 f hb))).2, a⟩, b⟩
    have pe : (fun x => pA s x ∧ fitS V N z x) = (fun x => pA s x ∧ fitM V N z x) := funext (fun x => propext ⟨fun q => ⟨q.1, (same x q.1).mp q.2⟩, fun q => ⟨q.1, (same x q.1).mpr q.2⟩⟩)
    rw [pe]
    refine fE_rel (R := RLp (pcN s 10)) (Or.inr ⟨rfl, rfl⟩) (fun x a b _ hx e => ?_) (s + 1) 0 (by omega)
    obtain ⟨q1, q2⟩ := ndf_lt (show s < 1024 by omega) s0 hx.1
    have i1 := ih (ndf s x) (by omega) (by omega) (by
      refine sub_bit.mpr (fun i hi => sub_bit.mp hw i (sub_bit.mp q2 i hi)))
    have lp := low_p s (by omega) s0
    have xb := pA_bit (by omega) s0 hx.1
    have pc := pcN_mono1 (x := ndf s x) (s := s) (j := (lowN s).log2) (fun i hi => sub_bit.mp q2 i hi) lp.2.2.1 (by rw [ndf_bit, xb]; simp) 10 lp.2.1
    exact RLp_step (pcN_le s 10) pc e i1
