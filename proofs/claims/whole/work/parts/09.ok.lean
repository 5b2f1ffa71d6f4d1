/-! ===== a method does what T says, if its formula holds ===== -/
section QO
variable {p : Program} {l : Launch} {e : Env} {R : Room} {s : State} {m : MethodId} {args : Array Value} {below : List Frame} {meth : Method} {c : Code} {Q : State → Prop} {D : va_G} {cy : Nat → ClassId} {nL : Nat} {A : Nat → Prop} {cc : ByteArray} {ow : Nat}
theorem q_closed {ini : Bool} {rt : Option FieldType} {ms : Nat → Option QI} {post : QPo} (hC : q_Cx p s m args c cc nL ow D cy A) (hin : ini = true → meth.name = "<init>")
    (hms : ∀ (idx : Nat) (info : QI), ms idx = some info → q_Cr p l e R s m args below meth c Q D cy nL A cc idx info)
    (hRi : ∀ (pc : Nat) (L : QLL) (st : List Value) (w : QWd) (sz sl : Nat), decode cc pc = .ok (.ireturn, 1) → q_ri rt (s.heap.size + R.cells) R.slots post w sz sl st → q_Sm p l e R s m args below meth c Q D cy nL A pc L st w sz sl)
    (hRl : ∀ (pc : Nat) (L : QLL) (st : List Value) (w : QWd) (sz sl : Nat), decode cc pc = .ok (.lreturn, 1) → q_rl rt (s.heap.size + R.cells) R.slots post w sz sl st → q_Sm p l e R s m args below meth c Q D cy nL A pc L st w sz sl)
    (hRa : ∀ (pc : Nat) (L : QLL) (st : List Value) (w : QWd) (sz sl : Nat), decode cc pc = .ok (.areturn, 1) → q_ra rt (s.heap.size + R.cells) R.slots post w sz sl st → q_Sm p l e R s m args below meth c Q D cy nL A pc L st w sz sl)
    (hRv : ∀ (pc : Nat) (L : QLL) (st : List Value) (w : QWd) (sz sl : Nat), decode cc pc = .ok (.return_, 1) → q_rv rt (s.heap.size + R.cells) R.slots post w sz sl st → q_Sm p l e R s m args below meth c Q D cy nL A pc L st w sz sl) :
    q_Cl cc ow ini rt ms (s.heap.size + R.cells) R.slots post (q_Sm p l e R s m args below meth c Q D cy nL A) := by
  have one : ∀ (K : QK), (∀ pc L st w sz sl, K pc L st w sz sl → q_Sm p l e R s m args below meth c Q D cy nL A pc L st w sz sl) → ∀ (pc : Nat) (L : QLL) (st : List Value) (w : QWd) (sz sl : Nat), q_x ow ini rt ms (s.heap.size + R.cells) R.slots post K pc L st w sz sl (decode cc pc) → q_Sm p l e R s m args below meth c Q D cy nL A pc L st w sz sl := by
    intro K hK pc L st w sz sl h
    unfold q_x at h
    split at h
    · next i len hd => exact q_sound hC hin hms hRi hRl hRa hRv hK hd h
    · exact h.elim
  intro cut n
  have all : ∀ (n : Nat) (pc : Nat) (L : QLL) (st : List Value) (w : QWd) (sz sl : Nat), q_v cc ow ini rt ms (s.heap.size + R.cells) R.slots post (q_Sm p l e R s m args below meth c Q D cy nL A) cut n pc L st w sz sl → q_Sm p l e R s m args below meth c Q D cy nL A pc L st w sz sl := by
    intro n
    induction n with
    | zero => intro pc L st w sz sl h; exact h
    | succ n ih =>
      intro pc L st w sz sl h
      simp only [q_v] at h
      cases hc : cut pc with
      | true => rw [hc] at h; exact h
      | false => rw [hc] at h; exact one _ ih pc L st w sz sl h
  intro pc L st w sz sl h
  exact one _ (all n) pc L st w sz sl h
end QO
/-- a call's rule wherever it stands -/
def q_Cs (cc : ByteArray) (ow d idx : Nat) (info : QI) : Prop := ∀ (p : Program) (l : Launch) (e : Env) (R : Room) (s : State) (m : MethodId) (args : Array Value) (below : List Frame) (meth : Method) (c : Code) (Q : State → Prop) (D : va_G) (cy : Nat → ClassId) (nL : Nat) (A : Nat → Prop), q_Cx p s m args c cc nL ow D cy A → d ≤ R.frames → 44 * d ≤ R.locals → q_Cr p l e R s m args below meth c Q D cy nL A cc idx info
theorem q_okOf {y : MethodName} {cc : ByteArray} {maxL ow d mc msl : Nat} {ret : Option FieldType} {ini : Bool} {ms : Nat → Option QI} {T : QTT} (hy : plainFor y = true) (hyo : y.cls = q_ow ow) (hini : ini = true → y.name = "<init>")
    (hcalls : ∀ (idx : Nat) (info : QI), ms idx = some info → q_Cs cc ow d idx info)
    (hpure : ∀ (av : List Value) (w : QWd) (sz : Nat) (post : QPo), T av w sz post → (q_ent av).length ≤ maxL ∧ ∀ G : QK, q_Cl cc ow ini ret ms (sz + mc) msl post G → G 0 (q_entry maxL av) [] w sz 0) : q_Ok y cc maxL ret d T mc msl := by
  intro l D cy dd hd av w sz post hT
  refine va_MetF (cc := cc) (maxL := maxL) (ret := ret) hy rfl ?_
  intro p e s m args below meth c s₁ B hml hv
  obtain ⟨rfl, hM, hKn, hsz⟩ := hv
  have hx := B.exec
  have hb := B.bytes
  have hr := B.returns
  have hts0 := atoms_spec (ws := q_ws y cc maxL ret) B.pre
  have hts : ∀ w ∈ q_Ts, w.before av.toArray s = true := fun w hw => hts0 w (List.mem_cons_of_mem _ hw)
  have hown : s.vm.findClass (q_ow ow) = some m.cls := by rw [← hyo]; exact findClass_of_methodNamed B.named
  have hlocks := B.notSynchronized
  have hnm : meth.name = y.name := (name_of_methodNamed B.named B.method).1
  subst hsz
  obtain ⟨hlen, hG⟩ := hpure av w s.heap.size post hT
  have hC : q_Cx p s m av.toArray c cc maxL ow D cy (fun q => q_wr w q ∨ s.heap.size ≤ q) := ⟨hx, hb, hml, hown, hts, hKn, fun q h => Or.inr h⟩
  have hcl : q_Cl cc ow ini ret ms (s.heap.size + mc) msl post (q_Sm p l e (q_rm dd mc msl) s m av.toArray below meth c (MQ below (q_Qc D cy post w s.heap.size mc) av.toArray s mc msl (fun q => q_wr w q ∨ s.heap.size ≤ q)) D cy maxL (fun q => q_wr w q ∨ s.heap.size ≤ q)) := by
    refine q_closed (R := q_rm dd mc msl) hC (fun h => hnm.trans (hini h)) (fun idx info hm => hcalls idx info hm _ _ _ _ _ _ _ _ _ _ _ _ _ _ _ hC hd (by show 44 * d ≤ 44 * dd; omega)) ?_ ?_ ?_ ?_
    · intro pc L st w' sz sl hdg h
      unfold q_ri at h
      split at h
      · next v =>
        obtain ⟨⟨ty, hty, hn⟩, hsz, hsl, hp⟩ := h
        intro H locs ls a1 a2 a3 a4 a5 a6
        refine W.widen (k := mc) (n := msl) (by change sz = s.heap.size + mc at hsz; omega) hsl ?_
        exact W.zret hx hb (hr.trans hty) hn (fun t ht hW => ⟨_, w', rfl, hp, by rw [ht]; exact a1.moved hW.alike, by rw [ht, a2]; exact hsz, a5⟩) a6 hdg
      · exact h.elim
    · intro pc L st w' sz sl hdg h
      unfold q_rl at h
      split at h
      · next v =>
        obtain ⟨hty, hsz, hsl, hp⟩ := h
        intro H locs ls a1 a2 a3 a4 a5 a6
        refine W.widen (k := mc) (n := msl) (by change sz = s.heap.size + mc at hsz; omega) hsl ?_
        exact W.lret hx hb (hr.trans hty) (fun t ht hW => ⟨_, w', rfl, hp, by rw [ht]; exact a1.moved hW.alike, by rw [ht, a2]; exact hsz, a5⟩) a6 hdg
      · exact h.elim
    · intro pc L st w' sz sl hdg h
      unfold q_ra at h
      split at h
      · next v =>
        obtain ⟨⟨nm, hty⟩, hsz, hsl, hp⟩ := h
        intro H locs ls a1 a2 a3 a4 a5 a6
        refine W.widen (k := mc) (n := msl) (by change sz = s.heap.size + mc at hsz; omega) hsl ?_
        exact W.aret hx hb (hr.trans hty) (Or.inl ⟨nm, rfl⟩) (Or.inr ⟨v, rfl⟩) (fun t ht hW => ⟨_, w', rfl, hp, by rw [ht]; exact a1.moved hW.alike, by rw [ht, a2]; exact hsz, a5⟩) a6 hdg
      · exact h.elim
    · intro pc L st w' sz sl hdg h
      unfold q_rv at h
      split at h
      · obtain ⟨hty, hsz, hsl, hp⟩ := h
        intro H locs ls a1 a2 a3 a4 a5 a6
        refine W.widen (k := mc) (n := msl) (by change sz = s.heap.size + mc at hsz; omega) hsl ?_
        exact W.vret hx hb (hr.trans hty) (fun t ht hW => ⟨_, w', rfl, hp, by rw [ht]; exact a1.moved hW.alike, by rw [ht, a2]; exact hsz, a5⟩) a6 hdg
      · exact h.elim
  have hl := lv_entry av (n := maxL) (by rw [← q_ent_len]; exact hlen)
  rw [lg_entry_eq]
  generalize (lg_sl av ++ List.replicate (maxL - (lg_sl av).length) Slot.unset).toArray = ls at hl ⊢
  have hq : q_L ls maxL (q_entry maxL av) := q_L.of hl (by unfold q_entry; simp; omega) (fun i v hv => by
    have h1 := q_ent_args av 0 i v (q_get_pad _ _ _ _ hv)
    rw [Nat.zero_add] at h1
    exact h1)
  have fin := hG _ hcl s.heap [] ls hM rfl (Nat.le_refl _) hq (fun q hq => Or.inl hq) (fun x hx => by cases hx)
  rw [Nat.sub_self] at fin
  exact fin
