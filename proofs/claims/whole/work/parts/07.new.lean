/-! ===== new cells, calls, ends ===== -/
section QN
variable {p : Program} {l : Launch} {e : Env} {R : Room} {s : State} {m : MethodId} {args : Array Value} {below : List Frame} {meth : Method} {c : Code} {Q : State → Prop} {D : va_G} {cy : Nat → ClassId} {nL : Nat} {A : Nat → Prop}
variable {pc : Nat} {L : QLL} {st t : List Value} {w : QWd} {sz sl : Nat} {cc : ByteArray} {ow : Nat} {K : QK}
theorem q_snew (hC : q_Cx p s m args c cc nL ow D cy A) (hK : ∀ pc L st w sz sl, K pc L st w sz sl → q_Sm p l e R s m args below meth c Q D cy nL A pc L st w sz sl) {idx : Nat} (hdg : decode cc pc = .ok (.new idx, 3)) (h : q_nw K pc L st w sz sl (s.heap.size + R.cells) R.slots (q_N ow idx)) : q_Sm p l e R s m args below meth c Q D cy nL A pc L st w sz sl := by
  obtain ⟨hx, hb, hml, hown, hts, hKn, hA⟩ := hC
  unfold q_nw at h
  split at h
  · next ci N fs hf =>
    obtain ⟨hc1, hc2, h⟩ := h
    obtain ⟨C, T, ty, hc, hcl, hinst, hini, hty, hfs, hinW⟩ := q_nAll _ (q_find hf)
    dsimp only at hc hcl hinst hini hty hfs hinW
    intro H locs ls a1 a2 a3 a4 a5 a6
    have hKc := hKn.1.1 ci _ hc
    refine W.newcK hx hb hown (hts _ hcl) (hts _ hinst) (hts _ hini) rfl hdg (by omega) hc2 hKc.2.1 a2 fun H1 kC hkC e1 z1 o1 => ?_
    have kk := hK _ _ _ _ _ _ h H1 locs ls (a1.push a2.symm (show va_at D vwCl (sz, .inr (ci, fs)) H1 from ⟨_, hc, (u_born ty hts hinW hKc hkC e1 hty).to hfs⟩) (fun q hq => o1 q (by omega))) z1 (by omega) a4 (q_wr_new a5 (hA _ a3)) a6
    rw [show sz + 1 - s.heap.size = sz - s.heap.size + 1 by omega] at kk
    exact kk
  · exact h.elim
theorem q_snewa (hC : q_Cx p s m args c cc nL ow D cy A) (hK : ∀ pc L st w sz sl, K pc L st w sz sl → q_Sm p l e R s m args below meth c Q D cy nL A pc L st w sz sl) {at_ : ArrayType} (hdg : decode cc pc = .ok (.newarray at_, 2)) (h : q_na K pc L w sz sl (s.heap.size + R.cells) R.slots at_ st) : q_Sm p l e R s m args below meth c Q D cy nL A pc L st w sz sl := by
  obtain ⟨hx, hb, hml, hown, hts, hKn, hA⟩ := hC
  unfold q_na at h
  split at h
  · next n t =>
    obtain ⟨hn, hn6, hc1, hc2, h⟩ := h
    intro H locs ls a1 a2 a3 a4 a5 a6
    rcases h with ⟨rfl, h⟩ | ⟨rfl, h⟩
    · refine va_newaK (atype := .int) hx hb (hts _ q_aci) rfl hdg rfl hn rfl (by show _ * 4 ≤ _; omega) (by omega) hc2 a2 fun H1 cA e1 z1 o1 hAr hNm => ?_
      have hcA : cA = cy 0 := Option.some.inj (hNm.symm.trans (hKn.1.2 0 _ rfl).2)
      subst hcA
      have kk := hK _ _ _ _ _ _ h H1 locs ls (a1.push a2.symm (Or.inr ⟨by show ¬ (0 : Nat) = 6; decide, by show H1[sz]? = some (vp_cell _ _); rw [e1, vp_cell_i]; rfl⟩) (fun q hq => o1 q (by omega))) z1 (by omega) a4 (q_wr_new a5 (hA _ a3)) a6
      rw [show sz + 1 - s.heap.size = sz - s.heap.size + 1 by omega] at kk
      exact kk
    · refine va_newaK (atype := .long) hx hb (hts _ q_acj) rfl hdg rfl hn rfl (by show _ * 8 ≤ _; omega) (by omega) hc2 a2 fun H1 cA e1 z1 o1 hAr hNm => ?_
      have hcA : cA = cy 1 := Option.some.inj (hNm.symm.trans (hKn.1.2 1 _ rfl).2)
      subst hcA
      have kk := hK _ _ _ _ _ _ h H1 locs ls (a1.push a2.symm (Or.inr ⟨by show ¬ (1 : Nat) = 6; decide, by show H1[sz]? = some (vp_cell _ _); rw [e1, vp_cell_l]; rfl⟩) (fun q hq => o1 q (by omega))) z1 (by omega) a4 (q_wr_new a5 (hA _ a3)) a6
      rw [show sz + 1 - s.heap.size = sz - s.heap.size + 1 by omega] at kk
      exact kk
  · exact h.elim
theorem q_ovk {k : Nat} (h2 : 2 ≤ k) (h5 : k ≤ 5) : q_eln k ∈ q_over := by
  match k, h2, h5 with
  | 2, _, _ => decide
  | 3, _, _ => decide
  | 4, _, _ => decide
  | 5, _, _ => decide
theorem q_snewq (hC : q_Cx p s m args c cc nL ow D cy A) (hK : ∀ pc L st w sz sl, K pc L st w sz sl → q_Sm p l e R s m args below meth c Q D cy nL A pc L st w sz sl) {idx : Nat} (hdg : decode cc pc = .ok (.anewarray idx, 3)) (h : q_nq K pc L w sz sl (s.heap.size + R.cells) R.slots (q_A ow idx) st) : q_Sm p l e R s m args below meth c Q D cy nL A pc L st w sz sl := by
  obtain ⟨hx, hb, hml, hown, hts, hKn, hA⟩ := hC
  unfold q_nq at h
  split at h
  · next n t =>
    split at h
    · next k hf =>
      obtain ⟨hn, hn6, hc1, hc2, h⟩ := h
      obtain ⟨hcl, h2, h5⟩ := q_aAll _ (q_find hf)
      dsimp only at hcl h2 h5
      intro H locs ls a1 a2 a3 a4 a5 a6
      refine W.anew hx hb hown (hts _ hcl) (va_AO.use (hKn.2.2 _ (q_ovk h2 h5))) rfl hdg rfl hn (by omega) (by omega) hc2 fun cA kA comp f1 f2 f3 f4 => ?_
      generalize hH1 : H.push ({ cls := cA, slots := Array.replicate n.toNatClampNeg .null, vm := .none } : Cell) = H1
      have z1 : H1.size = sz + 1 := by rw [← hH1, Array.size_push, a2]
      have e1 : H1[sz]? = some (arrV cA n.toNatClampNeg (fun _ => .null)) := by rw [← hH1, ← a2, Array.getElem?_push_size, ← arrV_new]
      have o1 : ∀ q : Nat, q < H.size → H1[q]? = H[q]? := fun q hq => by rw [← hH1, Array.getElem?_push, if_neg (Nat.ne_of_lt hq)]
      obtain ⟨kA', comp', g1, g2, g3, g4⟩ := (hKn.1.2 k _ (q_tyk h2 h5)).2
      have hcA : cA = cy k := Option.some.inj (f1.symm.trans g4)
      subst hcA
      have kk := hK _ _ _ _ _ _ h H1 locs ls (a1.push a2.symm (Or.inr ⟨by show ¬ k = 6; omega, by show H1[sz]? = some (vp_cell _ _); rw [e1, vp_cell_q]; rfl⟩) o1) z1 (by omega) a4 (q_wr_new a5 (hA _ a3)) a6
      rw [show sz + 1 - s.heap.size = sz - s.heap.size + 1 by omega, ← a2] at kk
      rw [← a2]
      exact kk
    · exact h.elim
  · exact h.elim
/-- what a method's contract says of worlds -/
def q_Pc (D : va_G) (cy : Nat → ClassId) (av : List Value) (w : QWd) (sz : Nat) : Array Value → State → Prop := fun v U => v = av.toArray ∧ q_M D cy U w U.heap ∧ q_Kn D cy U ∧ U.heap.size = sz
def q_Qc (D : va_G) (cy : Nat → ClassId) (post : QPo) (w : QWd) (sz mc : Nat) : Array Value → State → Outcome → State → Prop := fun _ _ o t => ∃ (r : Option Value) (w' : QWd), o = .returned r ∧ post r w' ∧ q_M D cy t w' t.heap ∧ t.heap.size = sz + mc ∧ ∀ q, q_wr w' q → q_wr w q ∨ sz ≤ q
theorem q_blind (D : va_G) (cy : Nat → ClassId) (av : List Value) (w : QWd) (sz : Nat) : FrameBlind (q_Pc D cy av w sz) := by
  rintro a U g mk ⟨h1, h2, h3, h4⟩
  exact ⟨h1, q_M.moved (u := U) (U := U.calling g mk a) (Vm.Alike.refl U.vm) h2, ⟨va_K.moved (u := U) (U := U.calling g mk a) (Vm.Alike.refl U.vm) h3.1, fun x hx => va_Nw.same rfl (u := U) (U := U.calling g mk a) rfl (h3.2.1 x hx), fun C hC => va_AO.moved (u := U) (U := U.calling g mk a) (Vm.Alike.refl U.vm) (h3.2.2 C hC)⟩, h4⟩
/-- behind a call -/
theorem q_scall {a : Array Value} {post : QPo} {mc ms : Nat} {st0 rest : List Value} (hC : q_Cx p s m args c cc nL ow D cy A)
    (hr : ∀ (H : Heap) (locs : List Loc) (ls : Array Slot), q_M D cy s w H → H.size = sz → s.heap.size ≤ sz → q_L ls nL L → va_Run p l e R s m args below meth c H locs (sz - s.heap.size) sl mc ms (F0 m pc ls st0) rest (q_Qc D cy post w sz mc a) (fun q => q_wr w q ∨ sz ≤ q))
    (kk : ∀ (r : Option Value) (w' : QWd), post r w' → q_Sm p l e R s m args below meth c Q D cy nL A (pc + 3) L (r.toList ++ rest) w' (sz + mc) (sl + ms)) : q_Sm p l e R s m args below meth c Q D cy nL A pc L st0 w sz sl := by
  obtain ⟨hx, hb, hml, hown, hts, hKn, hA⟩ := hC
  intro H locs ls a1 a2 a3 a4 a5 a6 T hT X
  obtain ⟨v, st₀, t, T', L', h0, X', hL, e1, e2, ⟨r, w', hv, hp, hM, hz, hwr⟩, stp⟩ := hr H locs ls a1 a2 a3 a4 T hT X
  cases hv
  have hvm : t.vm.Alike s.vm := by rw [← e2]; exact X'.warmed.alike.symm
  rw [show sz - s.heap.size + mc = sz + mc - s.heap.size by omega] at X'
  obtain ⟨t2, b1, b2⟩ := kk v w' hp T'.heap (locs ++ L') ls (by rw [e1]; exact hM.moved hvm) (by rw [e1]; exact hz) (by omega) a4 (fun q hq => by
      rcases hwr q hq with z | z
      · exact a5 q z
      · exact hA q (Nat.le_trans a3 z)) (fun y hy => by
      rcases List.mem_append.mp hy with z | z
      · exact a6 y z
      · rcases hL y z with q | q
        · exact a5 _ q
        · exact hA _ (Nat.le_trans a3 q)) T' rfl X'
  exact ⟨t2, stp t2 b1, b2⟩
end QN
/-- the words with which a method is entered -/
def q_ws (y : MethodName) (cc : ByteArray) (maxL : Nat) (ret : Option FieldType) : List Cond := .code y cc maxL ret :: q_Ts
/-- its room: d calls deep, mc cells of ms slots -/
def q_rm (d mc ms : Nat) : Room := { frames := d, cells := mc, slots := ms, locals := 44 * d }
/-- a method does what T says -/
def q_Ok (y : MethodName) (cc : ByteArray) (maxL : Nat) (ret : Option FieldType) (d : Nat) (T : QTT) (mc ms : Nat) : Prop :=
  ∀ (l : Launch) (D : va_G) (cy : Nat → ClassId) (dd : Nat), d ≤ dd → ∀ (av : List Value) (w : QWd) (sz : Nat) (post : QPo), T av w sz post → Met l y (q_ws y cc maxL ret) (q_rm dd mc ms) (q_Pc D cy av w sz) (q_Qc D cy post w sz mc) mc ms (fun q => q_wr w q ∨ sz ≤ q)
/-- a method that can be called: its words -/
def q_Wd (y : MethodName) (cc : ByteArray) (maxL : Nat) (ret : Option FieldType) (n : Nat) : Prop := Cond.code y cc maxL ret ∈ q_Ts ∧ Cond.initialized y.cls ∈ q_Ts ∧ y.cls ≠ "java/lang/invoke/MethodHandle" ∧ y.cls ≠ "java/lang/invoke/VarHandle" ∧ (parseMethodDescriptor y.desc).map (fun d => d.parameters.length) = some n ∧ maxL ≤ 25
theorem q_good (y : MethodName) (cc : ByteArray) (maxL : Nat) (ret : Option FieldType) (h : Cond.code y cc maxL ret ∈ q_Ts) : GoodIn q_Ts (q_ws y cc maxL ret) := by
  intro w hw
  rcases List.mem_cons.mp hw with rfl | hw
  · exact ⟨h, good_of_word (List.mem_filter.mp h).2⟩
  · exact ⟨hw, good_of_word (List.mem_filter.mp hw).2⟩
section QM
variable {p : Program} {l : Launch} {e : Env} {R : Room} {s : State} {m : MethodId} {args : Array Value} {below : List Frame} {meth : Method} {c : Code} {Q : State → Prop} {D : va_G} {cy : Nat → ClassId} {nL : Nat} {A : Nat → Prop}
variable {pc : Nat} {L : QLL} {st t : List Value} {w : QWd} {sz sl : Nat} {cc : ByteArray} {ow : Nat} {K : QK}
/-- one call's rule: the machine at the call, from what 'q_call' asks for -/
def q_Cr (p : Program) (l : Launch) (e : Env) (R : Room) (s : State) (m : MethodId) (args : Array Value) (below : List Frame) (meth : Method) (c : Code) (Q : State → Prop) (D : va_G) (cy : Nat → ClassId) (nL : Nat) (A : Nat → Prop) (cc : ByteArray) (idx : Nat) (info : QI) : Prop :=
  ∀ (K : QK), (∀ pc L st w sz sl, K pc L st w sz sl → q_Sm p l e R s m args below meth c Q D cy nL A pc L st w sz sl) → ∀ (pc : Nat) (L : QLL) (st : List Value) (w : QWd) (sz sl op : Nat),
    ((op = 0 ∧ decode cc pc = .ok (.invokestatic idx, 3)) ∨ (op = 1 ∧ decode cc pc = .ok (.invokevirtual idx, 3)) ∨ (op = 2 ∧ decode cc pc = .ok (.invokespecial idx, 3))) →
    q_call K pc L st w sz sl (s.heap.size + R.cells) R.slots op (some info) → q_Sm p l e R s m args below meth c Q D cy nL A pc L st w sz sl
theorem q_rmL {m : MethodId} {pc : Nat} {ls : Array Slot} {st rest : List Value} (h : q_cat st ≤ 8) : 2 * (F0 m pc ls rest).monitorRoom + (st.map fun v => v.category).sum ≤ 8 := lv_room h
/-- kind 0 -/
theorem q_r0 (hC : q_Cx p s m args c cc nL ow D cy A) {idx n d mc ms maxL ci : Nat} {T : QTT} {y : MethodName} {b : ByteArray} {ret : Option FieldType} (hO : q_Ok y b maxL ret d T mc ms) (hW : q_Wd y b maxL ret n) (hl : Cond.methodLink (q_ow ow) idx y ∈ q_Ts) (hs : Cond.static y ∈ q_Ts) (hf : d + 1 ≤ R.frames) (hlo : 44 * (d + 1) ≤ R.locals) :
    q_Cr p l e R s m args below meth c Q D cy nL A cc idx (0, n, ci, T, mc, ms) := by
  intro K hK pc L st w sz sl op hop h
  obtain ⟨h0, h⟩ := h
  subst h0
  obtain ⟨hx, hb, hml, hown, hts, hKn, hA⟩ := id hC
  obtain ⟨hcode, hini, hn1, hn2, hlen, hmx⟩ := hW
  have hdg : decode cc pc = .ok (.invokestatic idx, 3) := by
    rcases hop with ⟨-, h⟩ | ⟨h, -⟩ | ⟨h, -⟩
    · exact h
    · cases h
    · cases h
  unfold q_cs at h
  split at h
  · next As t htk =>
    obtain ⟨h1, h2, h3, h⟩ := h
    obtain ⟨Bs, e1, e2, e3⟩ := q_tk_spec _ _ _ _ _ htk
    simp at e1
    subst e1
    refine q_scall (a := As.toArray) (post := fun r w' => K (pc + 3) L (r.toList ++ t) w' (sz + mc) (sl + ms)) (mc := mc) (ms := ms) (rest := t) hC (fun H locs ls a1 a2 a3 a4 => ?_) (fun r w' hp => hK _ _ _ _ _ _ hp)
    exact va_runS (As := As) (rest := t) ⟨hx, hb, hml, hown, hts⟩ (hO l D cy d (Nat.le_refl d) As w sz _ h) ⟨callB_of n hts (q_good _ _ _ _ hcode) rfl rfl rfl (hts _ hini) (hts _ hl) ⟨hn1, hn2, hlen⟩ ⟨hf, by show 8 + (maxL + 11) + 44 * d ≤ _; omega⟩, hts _ hs⟩ ⟨q_blind D cy As w sz, fun U hU hW => ⟨rfl, by rw [hU]; exact a1.moved hW.alike, hKn.warm hW, by rw [hU]; exact a2⟩⟩ rfl e2 a4.1 e3 (q_rmL h1) hdg ⟨by omega, h3⟩
  · exact h.elim
/-- kind 1 -/
theorem q_r1 (hC : q_Cx p s m args c cc nL ow D cy A) {idx n d mc ms maxL ci : Nat} {T : QTT} {y : MethodName} {b : ByteArray} {ret : Option FieldType} {q : vw_C} (hO : q_Ok y b maxL ret d T mc ms) (hW : q_Wd y b maxL ret n) (hl : Cond.methodLink (q_ow ow) idx y ∈ q_Ts) (hs : Cond.instanceMethod y ∈ q_Ts ∧ Cond.selects y.cls y y ∈ q_Ts) (hq : vwCl[ci]? = some q ∧ q.1 = y.cls) (hf : d + 1 ≤ R.frames) (hlo : 44 * (d + 1) ≤ R.locals) :
    q_Cr p l e R s m args below meth c Q D cy nL A cc idx (1, n, ci, T, mc, ms) := by
  intro K hK pc L st w sz sl op hop h
  obtain ⟨h0, h⟩ := h
  subst h0
  obtain ⟨hx, hb, hml, hown, hts, hKn, hA⟩ := id hC
  obtain ⟨hcode, hini, hn1, hn2, hlen, hmx⟩ := hW
  have hdg : decode cc pc = .ok (.invokevirtual idx, 3) := by
    rcases hop with ⟨h, -⟩ | ⟨-, h⟩ | ⟨h, -⟩
    · cases h
    · exact h
    · cases h
  unfold q_cv at h
  split at h
  · next As b' t htk =>
    obtain ⟨h1, h2, h3, ⟨fs, hkl⟩, h⟩ := h
    obtain ⟨Bs, e1, e2, e3⟩ := q_tk_spec _ _ _ _ _ htk
    simp at e1
    subst e1
    refine q_scall (a := (Value.ref b' :: As).toArray) (post := fun r w' => K (pc + 3) L (r.toList ++ t) w' (sz + mc) (sl + ms)) (mc := mc) (ms := ms) (rest := t) hC (fun H locs ls a1 a2 a3 a4 => ?_) (fun r w' hp => hK _ _ _ _ _ _ hp)
    obtain ⟨q', g0, cell, g1, g2, g3, -⟩ := a1 b' _ hkl
    have hcl : s.vm.findClass y.cls = some cell.cls := by
      rw [← hq.2, g2]
      exact (hKn.1.1 ci q hq.1).2.1
    exact va_runV (C := y.cls) (As := As) (rest := t) ⟨hx, hb, hml, hown, hts⟩ (hO l D cy d (Nat.le_refl d) (.ref b' :: As) w sz _ h) ⟨callB_of n hts (q_good _ _ _ _ hcode) rfl rfl rfl (hts _ hini) (hts _ hl) ⟨hn1, hn2, hlen⟩ ⟨hf, by show 8 + (maxL + 11) + 44 * d ≤ _; omega⟩, hts _ hs.1, hts _ hs.2⟩ ⟨q_blind D cy _ w sz, ⟨cell, g1, by rw [g3]; rfl, hcl⟩, fun U hU hW => ⟨rfl, by rw [hU]; exact a1.moved hW.alike, hKn.warm hW, by rw [hU]; exact a2⟩⟩ rfl e2 a4.1 e3 (q_rmL h1) hdg ⟨by omega, h3⟩
  · exact h.elim
/-- kind 2 -/
theorem q_r2 (hC : q_Cx p s m args c cc nL ow D cy A) {idx n d mc ms maxL ci : Nat} {T : QTT} {y : MethodName} {b : ByteArray} (hO : q_Ok y b maxL none d T mc ms) (hW : q_Wd y b maxL none n) (hl : Cond.methodLink (q_ow ow) idx y ∈ q_Ts) (hs : Cond.instanceMethod y ∈ q_Ts) (hy : y.name = "<init>") (hf : d + 1 ≤ R.frames) (hlo : 44 * (d + 1) ≤ R.locals) :
    q_Cr p l e R s m args below meth c Q D cy nL A cc idx (2, n, ci, T, mc, ms) := by
  intro K hK pc L st w sz sl op hop h
  obtain ⟨h0, h⟩ := h
  subst h0
  obtain ⟨hx, hb, hml, hown, hts, hKn, hA⟩ := id hC
  obtain ⟨hcode, hini, hn1, hn2, hlen, hmx⟩ := hW
  have hdg : decode cc pc = .ok (.invokespecial idx, 3) := by
    rcases hop with ⟨h, -⟩ | ⟨h, -⟩ | ⟨-, h⟩
    · cases h
    · cases h
    · exact h
  unfold q_cv at h
  split at h
  · next As b' t htk =>
    obtain ⟨h1, h2, h3, -, h⟩ := h
    obtain ⟨Bs, e1, e2, e3⟩ := q_tk_spec _ _ _ _ _ htk
    simp at e1
    subst e1
    refine q_scall (a := (Value.ref b' :: As).toArray) (post := fun r w' => K (pc + 3) L (r.toList ++ t) w' (sz + mc) (sl + ms)) (mc := mc) (ms := ms) (rest := t) hC (fun H locs ls a1 a2 a3 a4 => ?_) (fun r w' hp => hK _ _ _ _ _ _ hp)
    exact va_runI (As := As) (rest := t) ⟨hx, hb, hml, hown, hts⟩ (hO l D cy d (Nat.le_refl d) (.ref b' :: As) w sz _ h) ⟨callB_of n hts (q_good _ _ _ _ hcode) rfl rfl rfl (hts _ hini) (hts _ hl) ⟨hn1, hn2, hlen⟩ ⟨hf, by show 8 + (maxL + 11) + 44 * d ≤ _; omega⟩, hy, hts _ hs⟩ ⟨q_blind D cy _ w sz, fun U hU hW => ⟨rfl, by rw [hU]; exact a1.moved hW.alike, hKn.warm hW, by rw [hU]; exact a2⟩⟩ rfl e2 a4.1 e3 (q_rmL h1) hdg ⟨by omega, h3⟩
  · exact h.elim
/-- kind 3 -/
theorem q_r3 (hC : q_Cx p s m args c cc nL ow D cy A) {idx n d mc ms maxL ci : Nat} {T : QTT} {y : MethodName} {b : ByteArray} {host : String} (hO : q_Ok y b maxL none d T mc ms) (hW : q_Wd y b maxL none n) (hl : (q_ow ow, idx, y, host) ∈ q_nest) (hs : Cond.instanceMethod y ∈ q_Ts) (hy : y.name = "<init>") (hf : d + 1 ≤ R.frames) (hlo : 44 * (d + 1) ≤ R.locals) :
    q_Cr p l e R s m args below meth c Q D cy nL A cc idx (3, n, ci, T, mc, ms) := by
  intro K hK pc L st w sz sl op hop h
  obtain ⟨h0, h⟩ := h
  subst h0
  obtain ⟨hx, hb, hml, hown, hts, hKn, hA⟩ := id hC
  obtain ⟨hcode, hini, hn1, hn2, hlen, hmx⟩ := hW
  have hdg : decode cc pc = .ok (.invokespecial idx, 3) := by
    rcases hop with ⟨h, -⟩ | ⟨h, -⟩ | ⟨-, h⟩
    · cases h
    · cases h
    · exact h
  unfold q_cv at h
  split at h
  · next As b' t htk =>
    obtain ⟨h1, h2, h3, -, h⟩ := h
    obtain ⟨Bs, e1, e2, e3⟩ := q_tk_spec _ _ _ _ _ htk
    simp at e1
    subst e1
    refine q_scall (a := (Value.ref b' :: As).toArray) (post := fun r w' => K (pc + 3) L (r.toList ++ t) w' (sz + mc) (sl + ms)) (mc := mc) (ms := ms) (rest := t) hC (fun H locs ls a1 a2 a3 a4 => ?_) (fun r w' hp => hK _ _ _ _ _ _ hp)
    exact va_runIN (As := As) (rest := t) ⟨hx, hb, hml, hown, hts⟩ (hO l D cy d (Nat.le_refl d) (.ref b' :: As) w sz _ h) ⟨va_cnB n hts (q_good _ _ _ _ hcode) rfl rfl rfl (hKn.2.1 _ hl) (hts _ hini) ⟨hn1, hn2, hlen⟩ ⟨hf, by show 8 + (maxL + 11) + 44 * d ≤ _; omega⟩, hy, hts _ hs⟩ ⟨q_blind D cy _ w sz, fun U hU hW => ⟨rfl, by rw [hU]; exact a1.moved hW.alike, hKn.warm hW, by rw [hU]; exact a2⟩⟩ rfl e2 a4.1 e3 (q_rmL h1) hdg ⟨by omega, h3⟩
  · exact h.elim
/-- kind 8: Object() -/
theorem q_r8 (hC : q_Cx p s m args c cc nL ow D cy A) {idx : Nat} {info : Nat × Nat × QTT × Nat × Nat} (hl : Cond.methodLink (q_ow ow) idx objectInit ∈ q_Ts) (hs : Cond.instanceMethod objectInit ∈ q_Ts) (hc : Cond.code objectInit ⟨#[0xb1]⟩ 1 none ∈ q_Ts) (hf : 1 ≤ R.frames) (hlo : 20 ≤ R.locals) :
    q_Cr p l e R s m args below meth c Q D cy nL A cc idx (8, info) := by
  intro K hK pc L st w sz sl op hop h
  obtain ⟨h0, h⟩ := h
  subst h0
  obtain ⟨hx, hb, hml, hown, hts, hKn, hA⟩ := id hC
  have hdg : decode cc pc = .ok (.invokespecial idx, 3) := by
    rcases hop with ⟨h, -⟩ | ⟨h, -⟩ | ⟨-, h⟩
    · cases h
    · cases h
    · exact h
  unfold q_ob at h
  split at h
  · next b' t =>
    obtain ⟨h1, h⟩ := h
    intro H locs ls a1 a2 a3 a4 a5 a6
    have := q_rmL (m := m) (pc := pc) (ls := ls) (rest := .ref b' :: t) h1
    exact W.objInit hx hb hown (hts _ hl) (hts _ hs) (hts _ hc) rfl (by rw [hml]; exact a4.1) rfl hdg hf (by omega) (hK _ _ _ _ _ _ h H locs ls a1 a2 a3 a4 a5 a6)
  · exact h.elim
end QM
