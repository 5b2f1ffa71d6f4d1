/-! ===== the law: what the start gives ===== -/
theorem m_fr {w w' : QWd} {M b n : Nat} {y : QY} (h : mAt w M y) (hf : fr w w' b n) (hd : M + 11 ≤ b ∨ b + n ≤ M) : mAt w' M y := by
  obtain ⟨⟨lo, up, ov, um, us, un, xu, xd, ld, st, sp, bk, od, en, h0⟩, ⟨f, hp, hfp⟩, ha⟩ := h
  exact ⟨⟨_, _, _, _, _, _, _, _, _, _, _, _, _, _, by rw [hf _ (by omega)]; exact h0⟩, ⟨f, by rw [hf _ (by omega)]; exact hp, hfp⟩, ha.fr hf (by omega)⟩
section
variable {s : State} {args : Array Value}
theorem q_kn1 (hts : ∀ w ∈ q_Ts, w.before args s = true) {ow idx ci N : Nat} {fs : List Value} (h : q_N ow idx = some (ci, N, fs)) : ∃ (cC : ClassId) (iS : Nat → Nat), ∀ r : vw_C, vwCl[ci]? = some r → u_Kn s r.1 r.2.1 r.2.2 cC iS := by
  obtain ⟨C, T, ty, hc, hcl, hinst, hini, hty, hfs, hinW⟩ := q_nAll _ (q_find h)
  dsimp only at hc hcl hinst hini hty hfs hinW
  obtain ⟨cC, iS, hK⟩ := u_known (C := C) (T := T) (N := N) (n := N) hts (q_lyAll hc).1 (hts _ hinst)
  exact ⟨cC, iS, fun r hr => by rw [hc] at hr; cases hr; exact hK⟩
theorem q_kna (hts : ∀ w ∈ q_Ts, w.before args s = true) {ty : FieldType} (hw : Cond.arrayClass ty ∈ q_Ts) (hty : ty = .int ∨ ty = .long) : ∃ cA : ClassId, ArrOfT s cA ty ∧ va_RA s cA ty := by
  obtain ⟨cA, kA, comp, h1, h2, h3⟩ := Cond.arrayClass_spec (hts _ hw)
  refine ⟨cA, fun n z => ⟨fun k h => (by cases h), kA, h2, comp, h3⟩, ?_⟩
  rcases hty with rfl | rfl
  · exact h1
  · exact h1
theorem q_kno {C : String} (h : va_AO C s) : ∃ cA : ClassId, ArrOfT s cA (.object C) ∧ va_RA s cA (.object C) := by
  obtain ⟨comp, cA, kA, f4, -, f2, f3, f1⟩ := Cond.arrayOver_spec h
  exact ⟨cA, fun N z => ⟨(fun k h => by cases h), kA, f2, comp, f3⟩, kA, comp, f2, f3, f4, f1⟩
theorem q_knows (hts : ∀ w ∈ lw_tbl, w.before args s = true) : ∃ (D : va_G) (cy : Nat → ClassId), q_Kn D cy s := by
  have htq : ∀ w ∈ q_Ts, w.before args s = true := fun w hw => hts w (List.mem_filter.mp hw).1
  have hAO : ∀ C ∈ q_over, va_AO C s := fun C hC => va_AO.of (hts _ (q_overIn C hC))
  obtain ⟨c0, i0, k0⟩ := q_kn1 htq qN_6_9
  obtain ⟨c1, i1, k1⟩ := q_kn1 htq qN_7_23
  obtain ⟨c2, i2, k2⟩ := q_kn1 htq qN_7_16
  obtain ⟨c3, i3, k3⟩ := q_kn1 htq qN_2_15
  obtain ⟨c4, i4, k4⟩ := q_kn1 htq qN_7_30
  obtain ⟨c5, i5, k5⟩ := q_kn1 htq qN_7_37
  obtain ⟨c6, i6, k6⟩ := q_kn1 htq qN_7_7
  obtain ⟨c7, i7, k7⟩ := q_kn1 htq qN_9_7
  obtain ⟨c8, i8, k8⟩ := q_kn1 htq qN_9_10
  obtain ⟨y0, a0⟩ := q_kna htq q_aci (Or.inl rfl)
  obtain ⟨y1, a1⟩ := q_kna htq q_acj (Or.inr rfl)
  obtain ⟨y2, a2⟩ := q_kno (hAO (q_eln 2) (q_ovk (by omega) (by omega)))
  obtain ⟨y3, a3⟩ := q_kno (hAO (q_eln 3) (q_ovk (by omega) (by omega)))
  obtain ⟨y4, a4⟩ := q_kno (hAO (q_eln 4) (q_ovk (by omega) (by omega)))
  obtain ⟨y5, a5⟩ := q_kno (hAO (q_eln 5) (q_ovk (by omega) (by omega)))
  refine ⟨(fun k => match k with | 0 => c0 | 1 => c1 | 2 => c2 | 3 => c3 | 4 => c4 | 5 => c5 | 6 => c6 | 7 => c7 | _ => c8, fun k => match k with | 0 => i0 | 1 => i1 | 2 => i2 | 3 => i3 | 4 => i4 | 5 => i5 | 6 => i6 | 7 => i7 | _ => i8), (fun k => match k with | 0 => y0 | 1 => y1 | 2 => y2 | 3 => y3 | 4 => y4 | _ => y5), ⟨fun k q hq => ?_, fun k q hq => ?_⟩, fun x hx => va_tabs rfl rfl (hts _ (q_nestIn x hx)), hAO⟩
  · match k, hq with
    | 0, hq => exact k0 q hq
    | 1, hq => exact k1 q hq
    | 2, hq => exact k2 q hq
    | 3, hq => exact k3 q hq
    | 4, hq => exact k4 q hq
    | 5, hq => exact k5 q hq
    | 6, hq => exact k6 q hq
    | 7, hq => exact k7 q hq
    | 8, hq => exact k8 q hq
    | k + 9, hq => simp [vwCl] at hq
  · match k, hq with
    | 0, hq => cases hq; exact a0
    | 1, hq => cases hq; exact a1
    | 2, hq => cases hq; exact a2
    | 3, hq => cases hq; exact a3
    | 4, hq => cases hq; exact a4
    | 5, hq => cases hq; exact a5
    | k + 6, hq => simp [q_tys] at hq
end
