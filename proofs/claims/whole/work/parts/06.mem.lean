/-! ===== fields, arrays, new cells ===== -/
theorem q_lyAll : ∀ {ci : Nat} {C : String} {T : u_T} {N : Nat}, vwCl[ci]? = some (C, T, N) → (∀ w ∈ u_ws C T N, w ∈ q_Ts) ∧ ∃ ty : Nat → FieldType, (∀ k, k < N → parseFieldDescriptor (T k).2.2.1 = some (ty k)) ∧ ∀ a, a < N → ∀ b, b < N → a ≠ b → (T a).2.1 ≠ (T b).2.1 := by
  intro ci C T N h
  match ci, h with
  | 0, h => cases h; exact ⟨q_ly0, tyX0, tyX0_ok, nmX0⟩
  | 1, h => cases h; exact ⟨q_ly1, tyX1, tyX1_ok, nmX1⟩
  | 2, h => cases h; exact ⟨q_ly2, tyX2, tyX2_ok, nmX2⟩
  | 3, h => cases h; exact ⟨q_ly3, tyX3, tyX3_ok, nmX3⟩
  | 4, h => cases h; exact ⟨q_ly4, tyX4, tyX4_ok, nmX4⟩
  | 5, h => cases h; exact ⟨q_ly5, tyX5, tyX5_ok, nmX5⟩
  | 6, h => cases h; exact ⟨q_ly6, tyX6, tyX6_ok, nmX6⟩
  | 7, h => cases h; exact ⟨q_ly7, tyX7, tyX7_ok, nmX7⟩
  | 8, h => cases h; exact ⟨q_ly8, tyX8, tyX8_ok, nmX8⟩
  | k + 9, h => simp [vwCl] at h
section QF
variable {p : Program} {l : Launch} {e : Env} {R : Room} {s : State} {m : MethodId} {args : Array Value} {below : List Frame} {meth : Method} {c : Code} {Q : State → Prop} {D : va_G} {cy : Nat → ClassId} {nL : Nat} {A : Nat → Prop}
variable {pc : Nat} {L : QLL} {st t : List Value} {w : QWd} {sz sl lim sm : Nat} {cc : ByteArray} {ow : Nat} {K : QK}
theorem q_sget (hC : q_Cx p s m args c cc nL ow D cy A) (hK : ∀ pc L st w sz sl, K pc L st w sz sl → q_Sm p l e R s m args below meth c Q D cy nL A pc L st w sz sl) {idx : Nat} (hdg : decode cc pc = .ok (.getfield idx, 3)) (h : q_gf K pc L w sz sl (q_F ow idx) st) : q_Sm p l e R s m args below meth c Q D cy nL A pc L st w sz sl := by
  obtain ⟨hx, hb, hml, hown, hts, hKn, hA⟩ := hC
  unfold q_gf at h
  split at h
  · next a t =>
    split at h
    · next ci k ty hf =>
      unfold q_fg at h
      split at h
      · next c' fs hw =>
        obtain ⟨rfl, v, hv, h⟩ := h
        obtain ⟨C, T, N, hc, hk, hlink, -⟩ := q_fAll _ (q_find hf)
        intro H locs ls a1 a2 a3 a4 a5 a6
        exact va_get (D := D) (cl := vwCl) (tys := q_tys cy) (ws := [(a, .inr (c', fs))]) hx hb hts (q_lyAll hc).1 hown hKn.1 (fun i q hq => by
          have hi : i < 1 := (List.getElem?_eq_some_iff.mp hq).1
          rw [show i = 0 by omega] at hq
          cases hq
          exact a1 a _ hw) 0 rfl hc k hk (hts _ hlink) (fun _ h9 => h9) hv hdg (hK _ _ _ _ _ _ h H locs ls a1 a2 a3 a4 a5 a6)
      · exact h.elim
    · exact h.elim
  · exact h.elim
theorem q_sput (hC : q_Cx p s m args c cc nL ow D cy A) {ini : Bool} (hin : ini = true → meth.name = "<init>") (hK : ∀ pc L st w sz sl, K pc L st w sz sl → q_Sm p l e R s m args below meth c Q D cy nL A pc L st w sz sl) {idx : Nat} (hdg : decode cc pc = .ok (.putfield idx, 3)) (h : q_pf K ow ini pc L w sz sl (q_F ow idx) st) : q_Sm p l e R s m args below meth c Q D cy nL A pc L st w sz sl := by
  obtain ⟨hx, hb, hml, hown, hts, hKn, hA⟩ := hC
  unfold q_pf at h
  split at h
  · next v a t =>
    split at h
    · next ci k ty fin hf =>
      obtain ⟨hfi, ⟨hnar, hfit⟩, h⟩ := h
      unfold q_fp at h
      split at h
      · next c' fs hw =>
        obtain ⟨rfl, hkl, h⟩ := h
        obtain ⟨C, T, N, hc, hk, hlink, hd, hfe, hdc⟩ := q_fAll _ (q_find hf)
        dsimp only at hc hk hlink hd hfe hdc
        obtain ⟨hinW, ty0, hty, hnm⟩ := q_lyAll hc
        have hap := va_apart (own := q_ow ow) hts hinW ty0 hty hnm hKn.1 hc
        refine q_gs (k := k) hw rfl (fun H locs ls cells hM kk => ?_) (hK _ _ _ _ _ _ h)
        obtain ⟨r, h1, cell, q1, q2, q3, q4⟩ := hM a _ hw
        have hr : r = (C, T, N) := Option.some.inj (h1.symm.trans hc)
        subst hr
        obtain ⟨hS, hfc, kC, hkC, hkind⟩ := hKn.1.1 c' _ hc
        obtain ⟨cf, kf, fi, f, hi, hsl⟩ := hS k hk
        have hlay := hts _ (hinW _ (u_in_lay hk))
        unfold u_lay at hlay
        have hst := (u_facts hfc hkC (u_lays hts hinW hk) hi).1
        rcases hfi with hfi | ⟨hini, hio⟩
        · rw [if_neg (by rw [hfe, hfi]; decide)] at hlay
          have h6 := u_store hfc hkC hkind hlay hi hd hnar hfit
          refine W.putK hx hb (f := f) ⟨hown, hts _ hlink, ⟨_, _, _, hi⟩, hst⟩ (by rw [q2]; exact h6) q1 q3 (by rw [hsl]; exact k2_hasslot (q4 k hk)) rfl rfl hdg fun H' e1 e2 e3 => ?_
          rw [hsl] at e1 ⊢
          exact kk H' ⟨_, hc, t_OB.to (V := updV (vp_V fs) k v) ⟨_, e1, q2, q3, t_set q4 hap hk v⟩ (fun j _ => vp_updV_set hkl v j)⟩ e2 e3 _ (fun y hy => by
            rcases List.mem_append.mp hy with z | z
            · exact Or.inl z
            · exact Or.inr (by rw [List.mem_singleton.mp z]))
        · cases hfin : fin with
          | false =>
            rw [if_neg (by rw [hfe, hfin]; decide)] at hlay
            have h6 := u_store hfc hkC hkind hlay hi hd hnar hfit
            refine W.putK hx hb (f := f) ⟨hown, hts _ hlink, ⟨_, _, _, hi⟩, hst⟩ (by rw [q2]; exact h6) q1 q3 (by rw [hsl]; exact k2_hasslot (q4 k hk)) rfl rfl hdg fun H' e1 e2 e3 => ?_
            rw [hsl] at e1 ⊢
            exact kk H' ⟨_, hc, t_OB.to (V := updV (vp_V fs) k v) ⟨_, e1, q2, q3, t_set q4 hap hk v⟩ (fun j _ => vp_updV_set hkl v j)⟩ e2 e3 _ (fun y hy => by
              rcases List.mem_append.mp hy with z | z
              · exact Or.inl z
              · exact Or.inr (by rw [List.mem_singleton.mp z]))
          | true =>
            rw [if_pos (by rw [hfe, hfin])] at hlay
            have hcf : m.cls = cf := by
              obtain ⟨_, _, c2, _, _, _, -, -, hf', -, -, -, hown2, -⟩ := Cond.laysFinal_spec hlay
              have e1 : c2 = cf := by have := hi.symm.trans hf'; simp at this; exact this.1.symm
              rw [hdc, hio] at hown2
              rw [← e1]; exact Option.some.inj (hown.symm.trans hown2)
            have h6 := u_fits hfc hkC hkind (Or.inr hlay) hi hd hnar hfit
            refine W.putFinK hx hb hown (hts _ hlink) hi hst hcf (hin hini) (by rw [q2]; exact h6) q1 q3 (by rw [hsl]; exact k2_hasslot (q4 k hk)) rfl rfl hdg fun H' e1 e2 e3 => ?_
            rw [hsl] at e1 ⊢
            exact kk H' ⟨_, hc, t_OB.to (V := updV (vp_V fs) k v) ⟨_, e1, q2, q3, t_set q4 hap hk v⟩ (fun j _ => vp_updV_set hkl v j)⟩ e2 e3 _ (fun y hy => by
              rcases List.mem_append.mp hy with z | z
              · exact Or.inl z
              · exact Or.inr (by rw [List.mem_singleton.mp z]))
      · exact h.elim
    · exact h.elim
  · exact h.elim
theorem q_sia (hC : q_Cx p s m args c cc nL ow D cy A) (hK : ∀ pc L st w sz sl, K pc L st w sz sl → q_Sm p l e R s m args below meth c Q D cy nL A pc L st w sz sl) (hdg : decode cc pc = .ok (.iaload, 1)) (h : q_iald K pc L w sz sl st) : q_Sm p l e R s m args below meth c Q D cy nL A pc L st w sz sl := by
  obtain ⟨hx, hb, hml, hown, hts, hKn, hA⟩ := hC
  unfold q_iald at h
  split at h
  · next i a t =>
    unfold q_ai at h
    split at h
    · next k n f hw =>
      obtain ⟨hk, hin, h⟩ := h
      have hlt : i.toNatClampNeg < n := Nat.not_le.mp fun q => hin (Or.inr q)
      intro H locs ls a1 a2 a3 a4 a5 a6
      have kk := hK _ _ _ _ _ _ h H locs ls a1 a2 a3 a4 a5 a6
      rcases a1 a _ hw with ⟨-, L0, xs, hxs, scr, h1, h2, h3, h4, h5⟩ | ⟨hk6, hcell⟩
      · cases hxs
        exact W.iald (v := .int (f i.toNatClampNeg)) hx hb h1 h2 h3 (by rw [h4]; exact hin) (h5 _ hlt) rfl rfl hdg kk
      · have hk0 : k = 0 := hk.resolve_right hk6
        subst hk0
        exact W.iald (v := .int (f i.toNatClampNeg)) hx hb hcell ((hKn.1.2 0 _ rfl).1 n (fun j => .int (f j))) (fun q => by cases q) (by show ¬ (i < 0 ∨ (arrV _ _ _).slots.size ≤ _); rw [arrV_size]; exact hin) (by show (arrV _ _ _).slots[_]? = _; rw [arrV_read _ _ hlt]) rfl rfl hdg kk
    · exact h.elim
  · exact h.elim
theorem q_sja (hC : q_Cx p s m args c cc nL ow D cy A) (hK : ∀ pc L st w sz sl, K pc L st w sz sl → q_Sm p l e R s m args below meth c Q D cy nL A pc L st w sz sl) (hdg : decode cc pc = .ok (.laload, 1)) (h : q_lald K pc L w sz sl st) : q_Sm p l e R s m args below meth c Q D cy nL A pc L st w sz sl := by
  obtain ⟨hx, hb, hml, hown, hts, hKn, hA⟩ := hC
  unfold q_lald at h
  split at h
  · next i a t =>
    unfold q_aj at h
    split at h
    · next k n f hw =>
      obtain ⟨rfl, hin, h⟩ := h
      have hlt : i.toNatClampNeg < n := Nat.not_le.mp fun q => hin (Or.inr q)
      intro H locs ls a1 a2 a3 a4 a5 a6
      have kk := hK _ _ _ _ _ _ h H locs ls a1 a2 a3 a4 a5 a6
      rcases a1 a _ hw with ⟨hk6, -⟩ | ⟨-, hcell⟩
      · cases hk6
      · exact W.lald (v := .long (f i.toNatClampNeg)) hx hb hcell ((hKn.1.2 1 _ rfl).1 n (fun j => .long (f j))) (fun q => by cases q) (by show ¬ (i < 0 ∨ (arrV _ _ _).slots.size ≤ _); rw [arrV_size]; exact hin) (by show (arrV _ _ _).slots[_]? = _; rw [arrV_read _ _ hlt]) rfl rfl hdg kk
    · exact h.elim
  · exact h.elim
theorem q_tyk {cy : Nat → ClassId} {k : Nat} (h2 : 2 ≤ k) (h5 : k ≤ 5) : (q_tys cy)[k]? = some (cy k, .object (q_eln k)) := by
  match k, h2, h5 with
  | 2, _, _ => rfl
  | 3, _, _ => rfl
  | 4, _, _ => rfl
  | 5, _, _ => rfl
theorem q_saa (hC : q_Cx p s m args c cc nL ow D cy A) (hK : ∀ pc L st w sz sl, K pc L st w sz sl → q_Sm p l e R s m args below meth c Q D cy nL A pc L st w sz sl) (hdg : decode cc pc = .ok (.aaload, 1)) (h : q_aald K pc L w sz sl st) : q_Sm p l e R s m args below meth c Q D cy nL A pc L st w sz sl := by
  obtain ⟨hx, hb, hml, hown, hts, hKn, hA⟩ := hC
  unfold q_aald at h
  split at h
  · next i a t =>
    unfold q_aq at h
    split at h
    · next k n f hw =>
      obtain ⟨⟨h2, h5⟩, hin, h⟩ := h
      have hlt : i.toNatClampNeg < n := Nat.not_le.mp fun q => hin (Or.inr q)
      intro H locs ls a1 a2 a3 a4 a5 a6
      have kk := hK _ _ _ _ _ _ h H locs ls a1 a2 a3 a4 a5 a6
      rcases a1 a _ hw with ⟨hk6, -⟩ | ⟨-, hcell⟩
      · exact absurd hk6 (by show ¬ k = 6; omega)
      · exact W.aald (v := va_rf (f i.toNatClampNeg)) (ty := .object (q_eln k)) hx hb hcell ((hKn.1.2 k _ (q_tyk h2 h5)).1 n (fun j => va_rf (f j))) rfl (fun q => by cases q) (by show ¬ (i < 0 ∨ (arrV _ _ _).slots.size ≤ _); rw [arrV_size]; exact hin) (by show (arrV _ _ _).slots[_]? = _; rw [arrV_read _ _ hlt]) rfl rfl hdg kk
    · exact h.elim
  · exact h.elim
theorem q_sis (hC : q_Cx p s m args c cc nL ow D cy A) (hK : ∀ pc L st w sz sl, K pc L st w sz sl → q_Sm p l e R s m args below meth c Q D cy nL A pc L st w sz sl) (hdg : decode cc pc = .ok (.iastore, 1)) (h : q_iast K pc L w sz sl st) : q_Sm p l e R s m args below meth c Q D cy nL A pc L st w sz sl := by
  obtain ⟨hx, hb, hml, hown, hts, hKn, hA⟩ := hC
  unfold q_iast at h
  split at h
  · next x i a t =>
    unfold q_bi at h
    split at h
    · next k n f hw =>
      obtain ⟨rfl, hin, h⟩ := h
      refine q_gs (k := 0) hw rfl (fun H locs ls cells hM kk => ?_) (hK _ _ _ _ _ _ h)
      rcases hM a _ hw with ⟨hk6, -⟩ | ⟨-, hcell⟩
      · cases hk6
      · refine W.iast hx hb hcell ((hKn.1.2 0 _ rfl).1 n (fun j => .int (f j))) (fun q => by cases q) (by show ¬ (i < 0 ∨ (arrV _ _ _).slots.size ≤ _); rw [arrV_size]; exact hin) rfl rfl hdg fun H1 e z oq => ?_
        refine kk H1 (Or.inr ⟨by show ¬ (0 : Nat) = 6; decide, ?_⟩) z oq _ (fun y hy => by
            rcases List.mem_append.mp hy with z | z
            · exact Or.inl z
            · exact Or.inr (by rw [List.mem_singleton.mp z]))
        show H1[a]? = some (vp_cell _ _)
        rw [e]
        rw [vp_cell_i, vp_cell_i, arrV_store]
        congr 2
        funext q
        by_cases hq : q = i.toNatClampNeg
        · subst hq
          simp [updV, upd]
        · simp [updV, upd, hq]
    · exact h.elim
  · exact h.elim
theorem q_sjs (hC : q_Cx p s m args c cc nL ow D cy A) (hK : ∀ pc L st w sz sl, K pc L st w sz sl → q_Sm p l e R s m args below meth c Q D cy nL A pc L st w sz sl) (hdg : decode cc pc = .ok (.lastore, 1)) (h : q_last K pc L w sz sl st) : q_Sm p l e R s m args below meth c Q D cy nL A pc L st w sz sl := by
  obtain ⟨hx, hb, hml, hown, hts, hKn, hA⟩ := hC
  unfold q_last at h
  split at h
  · next x i a t =>
    unfold q_bj at h
    split at h
    · next k n f hw =>
      obtain ⟨rfl, hin, h⟩ := h
      refine q_gs (k := 0) hw rfl (fun H locs ls cells hM kk => ?_) (hK _ _ _ _ _ _ h)
      rcases hM a _ hw with ⟨hk6, -⟩ | ⟨-, hcell⟩
      · cases hk6
      · refine W.last hx hb hcell ((hKn.1.2 1 _ rfl).1 n (fun j => .long (f j))) (fun q => by cases q) (by show ¬ (i < 0 ∨ (arrV _ _ _).slots.size ≤ _); rw [arrV_size]; exact hin) rfl rfl hdg fun H1 e z oq => ?_
        refine kk H1 (Or.inr ⟨by show ¬ (1 : Nat) = 6; decide, ?_⟩) z oq _ (fun y hy => by
            rcases List.mem_append.mp hy with z | z
            · exact Or.inl z
            · exact Or.inr (by rw [List.mem_singleton.mp z]))
        show H1[a]? = some (vp_cell _ _)
        rw [e]
        rw [vp_cell_l, vp_cell_l, arrV_store]
        congr 2
        funext q
        by_cases hq : q = i.toNatClampNeg
        · subst hq
          simp [updV, vp_updL]
        · simp [updV, vp_updL, hq]
    · exact h.elim
  · exact h.elim
theorem q_elC {D : va_G} {cy : Nat → ClassId} {k : Nat} (h2 : 2 ≤ k) (h5 : k ≤ 5) : ∃ r : vw_C, vwCl[q_el k]? = some r ∧ r.1 = q_eln k := by
  match k, h2, h5 with
  | 2, _, _ => exact ⟨_, rfl, rfl⟩
  | 3, _, _ => exact ⟨_, rfl, rfl⟩
  | 4, _, _ => exact ⟨_, rfl, rfl⟩
  | 5, _, _ => exact ⟨_, rfl, rfl⟩
theorem q_sas (hC : q_Cx p s m args c cc nL ow D cy A) (hK : ∀ pc L st w sz sl, K pc L st w sz sl → q_Sm p l e R s m args below meth c Q D cy nL A pc L st w sz sl) (hdg : decode cc pc = .ok (.aastore, 1)) (h : q_aast K pc L w sz sl st) : q_Sm p l e R s m args below meth c Q D cy nL A pc L st w sz sl := by
  obtain ⟨hx, hb, hml, hown, hts, hKn, hA⟩ := hC
  unfold q_aast at h
  split at h
  · next x i a t =>
    unfold q_bq at h
    split at h
    · next k n f hw =>
      obtain ⟨⟨h2, h5⟩, hin, ⟨vs, hwx⟩, h⟩ := h
      have hlt : i.toNatClampNeg < n := Nat.not_le.mp fun q => hin (Or.inr q)
      have h0 : ¬ i < 0 := fun q => hin (Or.inl q)
      have hk6 : ¬ k = 6 := by omega
      refine q_gs (k := 0) hw (by simp [q_own, hk6]) (fun H locs ls cells hM kk => ?_) (hK _ _ _ _ _ _ h)
      obtain ⟨r, hr1, hr2⟩ := q_elC (D := D) (cy := cy) h2 h5
      obtain ⟨r', hr', cellV, g1, g2, g3, -⟩ := hM x _ hwx
      have hcls := (hKn.1.1 (q_el k) r hr1).2
      obtain ⟨kA, comp, k1, k2, k3, -⟩ := (hKn.1.2 k _ (q_tyk h2 h5)).2
      rw [← hr2] at k2 k3
      have hcomp : comp = D.1 (q_el k) := Option.some.inj (k3.symm.trans hcls.1)
      subst hcomp
      obtain ⟨kC, hkC, -⟩ := hcls.2
      rcases hM a _ hw with ⟨hk6', -⟩ | ⟨-, hcell⟩
      · exact absurd hk6' hk6
      · refine W.aast hx hb hcell (fun q h => by cases h) (fun h => by cases h) k1 k2 rfl hkC ⟨h0, by show _ < (arrV _ _ _).slots.size; rw [arrV_size]; exact hlt⟩ g1 (fun q h => by rw [g3] at h; cases h) (by rw [g2]; exact hkC) (by rw [g2]; exact va_assign hcls) rfl rfl hdg fun H1 e z oq => ?_
        refine kk H1 (Or.inr ⟨hk6, ?_⟩) z oq _ (fun y hy => by
            rcases List.mem_append.mp hy with z | z
            · exact Or.inl z
            · exact Or.inr (by rw [List.mem_singleton.mp z]))
        show H1[a]? = some (vp_cell _ _)
        rw [e]
        rw [vp_cell_q, vp_cell_q, arrV_store]
        congr 2
        funext q
        by_cases hq : q = i.toNatClampNeg
        · subst hq
          simp [updV, va_up, va_rf]
        · simp [updV, va_up, hq]
    · exact h.elim
  · exact h.elim
theorem q_sln (hC : q_Cx p s m args c cc nL ow D cy A) (hK : ∀ pc L st w sz sl, K pc L st w sz sl → q_Sm p l e R s m args below meth c Q D cy nL A pc L st w sz sl) (hdg : decode cc pc = .ok (.arraylength, 1)) (h : q_alen K pc L w sz sl st) : q_Sm p l e R s m args below meth c Q D cy nL A pc L st w sz sl := by
  obtain ⟨hx, hb, hml, hown, hts, hKn, hA⟩ := hC
  unfold q_alen at h
  split at h
  · next a t =>
    unfold q_ln at h
    split at h
    · next n f hw =>
      intro H locs ls a1 a2 a3 a4 a5 a6
      have kk := hK _ _ _ _ _ _ h H locs ls a1 a2 a3 a4 a5 a6
      rcases a1 a _ hw with ⟨-, L0, xs, hxs, scr, h1, h2, h3, h4, h5⟩ | ⟨hk6, -⟩
      · cases hxs
        exact W.alen (n := Int32.ofNat n) hx hb h1 h2 (by rw [h4] <;> rfl) rfl rfl hdg kk
      · exact absurd rfl hk6
    · exact h.elim
  · exact h.elim
end QF
