/-! ===== System.arraycopy; ends; all instructions ===== -/
section QA
variable {p : Program} {l : Launch} {e : Env} {R : Room} {s : State} {m : MethodId} {args : Array Value} {below : List Frame} {meth : Method} {c : Code} {Q : State → Prop} {D : va_G} {cy : Nat → ClassId} {nL : Nat} {A : Nat → Prop}
variable {pc : Nat} {L : QLL} {st t : List Value} {w : QWd} {sz sl : Nat} {cc : ByteArray} {ow : Nat} {K : QK}
theorem q_cpyi {H : Heap} {locs : List Loc} {cells slots : Nat} {ls : Array Slot} {rest : List Value} (hexec : p.tables.exec = Jvm.exec) (hb : c.code = cc) (hml : c.maxLocals = ls.size) {own : String} {index : Nat} (hown : s.vm.findClass own = some m.cls) (hlink : (Cond.methodLink own index arraycopyName).before args s = true) (hnat : (Cond.native arraycopyName).before args s = true) (hstat : (Cond.static arraycopyName).before args s = true) (hini : (Cond.initialized "java/lang/System").before args s = true)
    {a a0 : Nat} {c0 c1 : ClassId} {n0 n1 : Nat} {f g : Nat → Int32} {ty : FieldType} (hc0 : H[a0]? = some (vp_cell c0 (n0, .inl f))) (hc1 : H[a]? = some (vp_cell c1 (n1, .inl g))) (ht0 : ArrOfT s c0 ty) (ht1 : ArrOfT s c1 ty) (hprim : refKind ty = false)
    {sp dp n : Int32} (h1 : ¬ sp < 0) (h2 : ¬ dp < 0) (h3 : ¬ n < 0) (h4 : sp.toNatClampNeg + n.toNatClampNeg ≤ n0) (h5 : dp.toNatClampNeg + n.toNatClampNeg ≤ n1) (hfit : ∀ i, i < n.toNatClampNeg → fits ty (Value.int (f (sp.toNatClampNeg + i))) = true)
    (hframes : 1 ≤ R.frames) (hlocals : (rest.map fun v => v.category).sum + (nativeFrameWords "java/lang/System" "arraycopy" 5 + 11) ≤ R.locals) (hdg : decode cc pc = .ok (.invokestatic index, 3))
    (kk : ∀ (H1 : Heap) (locs1 : List Loc), H1[a]? = some (vp_cell c1 (n1, .inl (va_cpy f g sp.toNatClampNeg dp.toNatClampNeg n.toNatClampNeg))) → H1.size = H.size → (∀ q : Nat, q ≠ a → H1[q]? = H[q]?) → (∀ y ∈ locs1, y ∈ locs ∨ y.base = a) → W p l e R s m args below meth c H1 locs1 cells slots Q (F0 m (pc + 3) ls rest)) : W p l e R s m args below meth c H locs cells slots Q (F0 m pc ls (.int n :: .int dp :: .ref a :: .int sp :: .ref a0 :: rest)) := by
  have nn : ∀ z : Int32, ¬ z < 0 → z.toInt = (z.toNatClampNeg : Int) := by
    intro z hz
    have hz0 : (0 : Int) ≤ z.toInt := by
      have := Int32.not_lt.mp hz
      simpa using Int32.le_iff_toInt_le.mp this
    show z.toInt = ((z.toInt.toNat : Nat) : Int)
    omega
  intro T hT X
  obtain ⟨-, k0, hk0, cm0, hkk0⟩ := ht0 n0 (fun j => Value.int (f j))
  obtain ⟨-, k1, hk1, cm1, hkk1⟩ := ht1 n1 (fun j => Value.int (g j))
  obtain ⟨vm', X', step⟩ := X.arraycopy hexec hown hlink hnat hstat hini (src := a0) (dst := a) (cs := vp_cell c0 (n0, .inl f)) (cd := vp_cell c1 (n1, .inl g)) (srcPos := sp) (destPos := dp) (n := n) (by rw [hT]; exact hc0) (by rw [hT]; exact hc1)
    (fun _ h => by cases h) (fun _ h => by cases h) (fun h => by cases h) (fun h => by cases h) hk0 hk1 hkk0 hkk1 (by simp [hprim]) h1 h2 h3
    (by rw [nn sp h1, nn n h3]; show ¬ _ > ((arrV c0 n0 (fun j => Value.int (f j))).slots.size : Int); rw [arrV_size]; omega)
    (by rw [nn dp h2, nn n h3]; show ¬ _ > ((arrV c1 n1 (fun j => Value.int (g j))).slots.size : Int); rw [arrV_size]; omega)
    (fun vm₁ _ i hi => by
      have e : (vp_cell c0 (n0, .inl f)).slots.getD (sp.toNatClampNeg + i) .null = Value.int (f (sp.toNatClampNeg + i)) := by
        show (arrV c0 n0 (fun j => Value.int (f j))).slots.getD _ _ = _
        rw [Array.getD_eq_getD_getElem?, arrV_read _ _ (by omega)]
        rfl
      refine ⟨?_, ?_⟩
      · rw [e]
        exact hfit i hi
      · rw [e]
        exact trivial)
    (g := F0 m pc ls (.int n :: .int dp :: .ref a :: .int sp :: .ref a0 :: rest)) rfl (by rw [hml]) (rest := rest) rfl (by rw [hb]; exact hdg) hframes (by show 2 * 0 + _ + _ ≤ _; omega)
  have e1 : copied (vp_cell c0 (n0, .inl f)) (vp_cell c1 (n1, .inl g)) sp dp n = vp_cell c1 (n1, .inl (va_cpy f g sp.toNatClampNeg dp.toNatClampNeg n.toNatClampNeg)) := va_copied (fun z => Value.int z) c0 c1 f g h4
  rw [e1] at X' step
  have hl : a < H.size := (Array.getElem?_eq_some_iff.mp hc1).1
  have hheap : ((T.setVm vm').setCell a (vp_cell c1 (n1, .inl (va_cpy f g sp.toNatClampNeg dp.toNatClampNeg n.toNatClampNeg)))).heap = H.setIfInBounds a (vp_cell c1 (n1, .inl (va_cpy f g sp.toNatClampNeg dp.toNatClampNeg n.toNatClampNeg))) := by rw [← hT]; rfl
  have oq : ∀ q : Nat, q ≠ a → (H.setIfInBounds a (vp_cell c1 (n1, .inl (va_cpy f g sp.toNatClampNeg dp.toNatClampNeg n.toNatClampNeg))))[q]? = H[q]? := fun q hq => by simp [Array.getElem?_setIfInBounds, Ne.symm hq]
  obtain ⟨t, a1, b1⟩ := kk _ _ (show (H.setIfInBounds a _)[a]? = some _ by simp [Array.getElem?_setIfInBounds, hl]) (by simp) oq (fun q hq => by
      rcases List.mem_append.mp hq with h | h
      · exact Or.inl h
      · obtain ⟨z, -, hz⟩ := List.mem_map.mp h
        right
        rw [← hz]) _ hheap X'
  exact ⟨t, step t a1, b1⟩
theorem q_cpyl {H : Heap} {locs : List Loc} {cells slots : Nat} {ls : Array Slot} {rest : List Value} (hexec : p.tables.exec = Jvm.exec) (hb : c.code = cc) (hml : c.maxLocals = ls.size) {own : String} {index : Nat} (hown : s.vm.findClass own = some m.cls) (hlink : (Cond.methodLink own index arraycopyName).before args s = true) (hnat : (Cond.native arraycopyName).before args s = true) (hstat : (Cond.static arraycopyName).before args s = true) (hini : (Cond.initialized "java/lang/System").before args s = true)
    {a a0 : Nat} {c0 c1 : ClassId} {n0 n1 : Nat} {f g : Nat → Int64} {ty : FieldType} (hc0 : H[a0]? = some (vp_cell c0 (n0, .inr (.inl f)))) (hc1 : H[a]? = some (vp_cell c1 (n1, .inr (.inl g)))) (ht0 : ArrOfT s c0 ty) (ht1 : ArrOfT s c1 ty) (hprim : refKind ty = false)
    {sp dp n : Int32} (h1 : ¬ sp < 0) (h2 : ¬ dp < 0) (h3 : ¬ n < 0) (h4 : sp.toNatClampNeg + n.toNatClampNeg ≤ n0) (h5 : dp.toNatClampNeg + n.toNatClampNeg ≤ n1) (hfit : ∀ i, i < n.toNatClampNeg → fits ty (Value.long (f (sp.toNatClampNeg + i))) = true)
    (hframes : 1 ≤ R.frames) (hlocals : (rest.map fun v => v.category).sum + (nativeFrameWords "java/lang/System" "arraycopy" 5 + 11) ≤ R.locals) (hdg : decode cc pc = .ok (.invokestatic index, 3))
    (kk : ∀ (H1 : Heap) (locs1 : List Loc), H1[a]? = some (vp_cell c1 (n1, .inr (.inl (va_cpy f g sp.toNatClampNeg dp.toNatClampNeg n.toNatClampNeg)))) → H1.size = H.size → (∀ q : Nat, q ≠ a → H1[q]? = H[q]?) → (∀ y ∈ locs1, y ∈ locs ∨ y.base = a) → W p l e R s m args below meth c H1 locs1 cells slots Q (F0 m (pc + 3) ls rest)) : W p l e R s m args below meth c H locs cells slots Q (F0 m pc ls (.int n :: .int dp :: .ref a :: .int sp :: .ref a0 :: rest)) := by
  have nn : ∀ z : Int32, ¬ z < 0 → z.toInt = (z.toNatClampNeg : Int) := by
    intro z hz
    have hz0 : (0 : Int) ≤ z.toInt := by
      have := Int32.not_lt.mp hz
      simpa using Int32.le_iff_toInt_le.mp this
    show z.toInt = ((z.toInt.toNat : Nat) : Int)
    omega
  intro T hT X
  obtain ⟨-, k0, hk0, cm0, hkk0⟩ := ht0 n0 (fun j => Value.long (f j))
  obtain ⟨-, k1, hk1, cm1, hkk1⟩ := ht1 n1 (fun j => Value.long (g j))
  obtain ⟨vm', X', step⟩ := X.arraycopy hexec hown hlink hnat hstat hini (src := a0) (dst := a) (cs := vp_cell c0 (n0, .inr (.inl f))) (cd := vp_cell c1 (n1, .inr (.inl g))) (srcPos := sp) (destPos := dp) (n := n) (by rw [hT]; exact hc0) (by rw [hT]; exact hc1)
    (fun _ h => by cases h) (fun _ h => by cases h) (fun h => by cases h) (fun h => by cases h) hk0 hk1 hkk0 hkk1 (by simp [hprim]) h1 h2 h3
    (by rw [nn sp h1, nn n h3]; show ¬ _ > ((arrV c0 n0 (fun j => Value.long (f j))).slots.size : Int); rw [arrV_size]; omega)
    (by rw [nn dp h2, nn n h3]; show ¬ _ > ((arrV c1 n1 (fun j => Value.long (g j))).slots.size : Int); rw [arrV_size]; omega)
    (fun vm₁ _ i hi => by
      have e : (vp_cell c0 (n0, .inr (.inl f))).slots.getD (sp.toNatClampNeg + i) .null = Value.long (f (sp.toNatClampNeg + i)) := by
        show (arrV c0 n0 (fun j => Value.long (f j))).slots.getD _ _ = _
        rw [Array.getD_eq_getD_getElem?, arrV_read _ _ (by omega)]
        rfl
      refine ⟨?_, ?_⟩
      · rw [e]
        exact hfit i hi
      · rw [e]
        exact trivial)
    (g := F0 m pc ls (.int n :: .int dp :: .ref a :: .int sp :: .ref a0 :: rest)) rfl (by rw [hml]) (rest := rest) rfl (by rw [hb]; exact hdg) hframes (by show 2 * 0 + _ + _ ≤ _; omega)
  have e1 : copied (vp_cell c0 (n0, .inr (.inl f))) (vp_cell c1 (n1, .inr (.inl g))) sp dp n = vp_cell c1 (n1, .inr (.inl (va_cpy f g sp.toNatClampNeg dp.toNatClampNeg n.toNatClampNeg))) := va_copied (fun z => Value.long z) c0 c1 f g h4
  rw [e1] at X' step
  have hl : a < H.size := (Array.getElem?_eq_some_iff.mp hc1).1
  have hheap : ((T.setVm vm').setCell a (vp_cell c1 (n1, .inr (.inl (va_cpy f g sp.toNatClampNeg dp.toNatClampNeg n.toNatClampNeg))))).heap = H.setIfInBounds a (vp_cell c1 (n1, .inr (.inl (va_cpy f g sp.toNatClampNeg dp.toNatClampNeg n.toNatClampNeg)))) := by rw [← hT]; rfl
  have oq : ∀ q : Nat, q ≠ a → (H.setIfInBounds a (vp_cell c1 (n1, .inr (.inl (va_cpy f g sp.toNatClampNeg dp.toNatClampNeg n.toNatClampNeg)))))[q]? = H[q]? := fun q hq => by simp [Array.getElem?_setIfInBounds, Ne.symm hq]
  obtain ⟨t, a1, b1⟩ := kk _ _ (show (H.setIfInBounds a _)[a]? = some _ by simp [Array.getElem?_setIfInBounds, hl]) (by simp) oq (fun q hq => by
      rcases List.mem_append.mp hq with h | h
      · exact Or.inl h
      · obtain ⟨z, -, hz⟩ := List.mem_map.mp h
        right
        rw [← hz]) _ hheap X'
  exact ⟨t, step t a1, b1⟩
theorem q_r9 (hC : q_Cx p s m args c cc nL ow D cy A) {idx : Nat} {info : Nat × Nat × QTT × Nat × Nat} (hl : Cond.methodLink (q_ow ow) idx arraycopyName ∈ q_Ts) (hn : Cond.native arraycopyName ∈ q_Ts) (hs : Cond.static arraycopyName ∈ q_Ts) (hi : Cond.initialized "java/lang/System" ∈ q_Ts) (hf : 1 ≤ R.frames) (hlo : 44 ≤ R.locals) :
    q_Cr p l e R s m args below meth c Q D cy nL A cc idx (9, info) := by
  intro K hK pc L st w sz sl op hop h
  obtain ⟨h0, h⟩ := h
  subst h0
  obtain ⟨hx, hb, hml, hown, hts, hKn, hA⟩ := id hC
  have hdg : decode cc pc = .ok (.invokestatic idx, 3) := by
    rcases hop with ⟨-, h⟩ | ⟨h, -⟩ | ⟨h, -⟩
    · exact h
    · cases h
    · cases h
  unfold q_cpy at h
  split at h
  · next n dp a1 sp a0 t =>
    obtain ⟨hcat, h⟩ := h
    have hlo' : (t.map fun v => v.category).sum + (nativeFrameWords "java/lang/System" "arraycopy" 5 + 11) ≤ R.locals := by
      have e1 : nativeFrameWords "java/lang/System" "arraycopy" 5 ≤ 25 := by decide +kernel
      have e2 : (t.map fun v => v.category).sum ≤ 8 := hcat
      omega
    unfold q_cp2 at h
    split at h
    · next k0 n0 f k1 n1 g hw0 hw1 =>
      obtain ⟨rfl, rfl, g1, g2, g3, g4, g5, h⟩ := h
      intro H locs ls b1 b2 b3 b4 b5 b6
      rcases b1 a0 _ hw0 with ⟨z, -⟩ | ⟨-, hc0⟩
      · cases z
      rcases b1 a1 _ hw1 with ⟨z, -⟩ | ⟨-, hc1⟩
      · cases z
      refine q_cpyi hx hb (by rw [hml]; exact b4.1.symm) hown (hts _ hl) (hts _ hn) (hts _ hs) (hts _ hi) hc0 hc1 (hKn.1.2 0 _ rfl).1 (hKn.1.2 0 _ rfl).1 rfl g1 g2 g3 g4 g5 (fun _ _ => rfl) hf hlo' hdg (fun H1 locs1 e1 e2 e3 e4 => ?_)
      exact hK _ _ _ _ _ _ h H1 locs1 ls (b1.set (Or.inr ⟨by show ¬ (0 : Nat) = 6; decide, e1⟩) e3) (e2.trans b2) b3 b4 (q_wr_set b5 hw1 rfl) (fun y hy => by
        rcases e4 y hy with z | z
        · exact b6 y z
        · rw [z]
          exact b5 a1 ⟨_, hw1, rfl⟩)
    · next k0 n0 f k1 n1 g hw0 hw1 =>
      obtain ⟨rfl, rfl, g1, g2, g3, g4, g5, h⟩ := h
      intro H locs ls b1 b2 b3 b4 b5 b6
      rcases b1 a0 _ hw0 with ⟨z, -⟩ | ⟨-, hc0⟩
      · cases z
      rcases b1 a1 _ hw1 with ⟨z, -⟩ | ⟨-, hc1⟩
      · cases z
      refine q_cpyl hx hb (by rw [hml]; exact b4.1.symm) hown (hts _ hl) (hts _ hn) (hts _ hs) (hts _ hi) hc0 hc1 (hKn.1.2 1 _ rfl).1 (hKn.1.2 1 _ rfl).1 rfl g1 g2 g3 g4 g5 (fun _ _ => rfl) hf hlo' hdg (fun H1 locs1 e1 e2 e3 e4 => ?_)
      exact hK _ _ _ _ _ _ h H1 locs1 ls (b1.set (Or.inr ⟨by show ¬ (1 : Nat) = 6; decide, e1⟩) e3) (e2.trans b2) b3 b4 (q_wr_set b5 hw1 rfl) (fun y hy => by
        rcases e4 y hy with z | z
        · exact b6 y z
        · rw [z]
          exact b5 a1 ⟨_, hw1, rfl⟩)
    · exact h.elim
  · exact h.elim
theorem q_sound {ini : Bool} {rt : Option FieldType} {ms : Nat → Option QI} {post : QPo} (hC : q_Cx p s m args c cc nL ow D cy A) (hin : ini = true → meth.name = "<init>")
    (hms : ∀ (idx : Nat) (info : QI), ms idx = some info → q_Cr p l e R s m args below meth c Q D cy nL A cc idx info)
    (hRi : ∀ (pc : Nat) (L : QLL) (st : List Value) (w : QWd) (sz sl : Nat), decode cc pc = .ok (.ireturn, 1) → q_ri rt (s.heap.size + R.cells) R.slots post w sz sl st → q_Sm p l e R s m args below meth c Q D cy nL A pc L st w sz sl)
    (hRl : ∀ (pc : Nat) (L : QLL) (st : List Value) (w : QWd) (sz sl : Nat), decode cc pc = .ok (.lreturn, 1) → q_rl rt (s.heap.size + R.cells) R.slots post w sz sl st → q_Sm p l e R s m args below meth c Q D cy nL A pc L st w sz sl)
    (hRa : ∀ (pc : Nat) (L : QLL) (st : List Value) (w : QWd) (sz sl : Nat), decode cc pc = .ok (.areturn, 1) → q_ra rt (s.heap.size + R.cells) R.slots post w sz sl st → q_Sm p l e R s m args below meth c Q D cy nL A pc L st w sz sl)
    (hRv : ∀ (pc : Nat) (L : QLL) (st : List Value) (w : QWd) (sz sl : Nat), decode cc pc = .ok (.return_, 1) → q_rv rt (s.heap.size + R.cells) R.slots post w sz sl st → q_Sm p l e R s m args below meth c Q D cy nL A pc L st w sz sl)
    (hK : ∀ pc L st w sz sl, K pc L st w sz sl → q_Sm p l e R s m args below meth c Q D cy nL A pc L st w sz sl) {i : Instr} {len : Nat} (hdg : decode cc pc = .ok (i, len))
    (h : q_ins ow ini rt ms (s.heap.size + R.cells) R.slots post K pc L st w sz sl i len) : q_Sm p l e R s m args below meth c Q D cy nL A pc L st w sz sl := by
  obtain ⟨hx, hb, hml, hown, hts, hKn, hA⟩ := id hC
  cases i with
  | iconst n =>
    obtain ⟨rfl, h⟩ := h
    exact q_g0 (fun H locs ls cells k => lv_iconst hx hb hdg rfl k) (hK _ _ _ _ _ _ h)
  | bipush n =>
    obtain ⟨rfl, h⟩ := h
    exact q_g0 (fun H locs ls cells k => lv_bipush hx hb hdg rfl k) (hK _ _ _ _ _ _ h)
  | sipush n =>
    obtain ⟨rfl, h⟩ := h
    exact q_g0 (fun H locs ls cells k => lv_sipush hx hb hdg rfl k) (hK _ _ _ _ _ _ h)
  | lconst n =>
    obtain ⟨rfl, h⟩ := h
    exact q_g0 (fun H locs ls cells k => lv_lconst hx hb hdg rfl k) (hK _ _ _ _ _ _ h)
  | ldc idx =>
    obtain ⟨rfl, h⟩ := h
    unfold q_pk at h
    split at h
    · next v hv => exact q_g0 (fun H locs ls cells k => lv_ldc hx hb hown (hts _ (q_cAll _ (q_find hv))) hdg k) (hK _ _ _ _ _ _ h)
    · exact h.elim
  | ldc2_w idx =>
    obtain ⟨rfl, h⟩ := h
    unfold q_pk at h
    split at h
    · next v hv => exact q_g0 (fun H locs ls cells k => lv_ldc2 hx hb hown (hts _ (q_dAll _ (q_find hv))) hdg k) (hK _ _ _ _ _ _ h)
    · exact h.elim
  | aconst_null =>
    obtain ⟨rfl, h⟩ := h
    exact q_g0 (fun H locs ls cells k => lv_null hx hb hdg k) (hK _ _ _ _ _ _ h)
  | iload_n k =>
    obtain ⟨rfl, h⟩ := h
    unfold q_il at h
    split at h
    · next x hg => exact q_gl hg (fun H locs ls cells hl k => lv_iload_n hx hb hdg rfl hl k) (hK _ _ _ _ _ _ h)
    · exact h.elim
  | iload k =>
    obtain ⟨rfl, h⟩ := h
    unfold q_il at h
    split at h
    · next x hg => exact q_gl hg (fun H locs ls cells hl k => lv_iload hx hb hdg hl k) (hK _ _ _ _ _ _ h)
    · exact h.elim
  | lload_n k =>
    obtain ⟨rfl, h⟩ := h
    unfold q_ll at h
    split at h
    · next x hg => exact q_gl hg (fun H locs ls cells hl k => lv_lload_n hx hb hdg rfl hl k) (hK _ _ _ _ _ _ h)
    · exact h.elim
  | lload k =>
    obtain ⟨rfl, h⟩ := h
    unfold q_ll at h
    split at h
    · next x hg => exact q_gl hg (fun H locs ls cells hl k => lv_lload hx hb hdg hl k) (hK _ _ _ _ _ _ h)
    · exact h.elim
  | aload_n k =>
    obtain ⟨rfl, h⟩ := h
    unfold q_al at h
    split at h
    · next x hg => exact q_gl hg (fun H locs ls cells hl k => lv_aload_n hx hb hdg rfl hl k) (hK _ _ _ _ _ _ h)
    · next hg => exact q_gl hg (fun H locs ls cells hl k => lv_aload_nN hx hb hdg rfl hl k) (hK _ _ _ _ _ _ h)
    · exact h.elim
  | aload k =>
    obtain ⟨rfl, h⟩ := h
    unfold q_al at h
    split at h
    · next x hg => exact q_gl hg (fun H locs ls cells hl k => lv_aload hx hb hdg hl k) (hK _ _ _ _ _ _ h)
    · next hg => exact q_gl hg (fun H locs ls cells hl k => lv_aloadN hx hb hdg hl k) (hK _ _ _ _ _ _ h)
    · exact h.elim
  | istore_n k =>
    obtain ⟨rfl, h⟩ := h
    unfold q_is at h
    split at h
    · next x t => exact q_g1 rfl h.1 (fun H locs ls cells hl hn k => lv_istore_n hx hb hdg rfl hl hn rfl k) (hK _ _ _ _ _ _ h.2)
    · exact h.elim
  | istore k =>
    obtain ⟨rfl, h⟩ := h
    unfold q_is at h
    split at h
    · next x t => exact q_g1 rfl h.1 (fun H locs ls cells hl hn k => lv_istore hx hb hdg hl hn rfl k) (hK _ _ _ _ _ _ h.2)
    · exact h.elim
  | lstore_n k =>
    obtain ⟨rfl, h⟩ := h
    unfold q_ls at h
    split at h
    · next x t => exact q_g2 rfl h.1 (fun H locs ls cells hl hn k => lv_lstore_n hx hb hdg rfl hl hn rfl k) (hK _ _ _ _ _ _ h.2)
    · exact h.elim
  | lstore k =>
    obtain ⟨rfl, h⟩ := h
    unfold q_ls at h
    split at h
    · next x t => exact q_g2 rfl h.1 (fun H locs ls cells hl hn k => lv_lstore hx hb hdg hl hn rfl k) (hK _ _ _ _ _ _ h.2)
    · exact h.elim
  | astore_n k =>
    obtain ⟨rfl, h⟩ := h
    unfold q_ars at h
    split at h
    · next x t => exact q_g1 rfl h.1 (fun H locs ls cells hl hn k => lv_astore_n hx hb hdg rfl hl hn rfl k) (hK _ _ _ _ _ _ h.2)
    · next t => exact q_g1 rfl h.1 (fun H locs ls cells hl hn k => lv_astore_nN hx hb hdg rfl hl hn rfl k) (hK _ _ _ _ _ _ h.2)
    · exact h.elim
  | astore k =>
    obtain ⟨rfl, h⟩ := h
    unfold q_ars at h
    split at h
    · next x t => exact q_g1 rfl h.1 (fun H locs ls cells hl hn k => lv_astore hx hb hdg hl hn rfl k) (hK _ _ _ _ _ _ h.2)
    · next t => exact q_g1 rfl h.1 (fun H locs ls cells hl hn k => lv_astoreN hx hb hdg hl hn rfl k) (hK _ _ _ _ _ _ h.2)
    · exact h.elim
  | iinc i n =>
    obtain ⟨rfl, h⟩ := h
    unfold q_ii at h
    split at h
    · next x hg =>
      obtain ⟨j, hj⟩ := List.getElem?_of_mem (q_as_mem.mpr hg)
      exact q_g1 rfl h.1 (fun H locs ls cells hl hn k => lv_iinc (k := j) hx hb hdg hl hj rfl hn rfl k) (hK _ _ _ _ _ _ h.2)
    · exact h.elim
  | iadd =>
    obtain ⟨rfl, h⟩ := h
    unfold q_b2 at h
    split at h
    · exact q_g0 (fun H locs ls cells k => lv_iadd hx hb hdg k) (hK _ _ _ _ _ _ h)
    · exact h.elim
  | isub =>
    obtain ⟨rfl, h⟩ := h
    unfold q_b2 at h
    split at h
    · exact q_g0 (fun H locs ls cells k => lv_isub hx hb hdg k) (hK _ _ _ _ _ _ h)
    · exact h.elim
  | imul =>
    obtain ⟨rfl, h⟩ := h
    unfold q_b2 at h
    split at h
    · exact q_g0 (fun H locs ls cells k => lv_imul hx hb hdg k) (hK _ _ _ _ _ _ h)
    · exact h.elim
  | iand =>
    obtain ⟨rfl, h⟩ := h
    unfold q_b2 at h
    split at h
    · exact q_g0 (fun H locs ls cells k => lv_iand hx hb hdg k) (hK _ _ _ _ _ _ h)
    · exact h.elim
  | ior =>
    obtain ⟨rfl, h⟩ := h
    unfold q_b2 at h
    split at h
    · exact q_g0 (fun H locs ls cells k => lv_ior hx hb hdg k) (hK _ _ _ _ _ _ h)
    · exact h.elim
  | ixor =>
    obtain ⟨rfl, h⟩ := h
    unfold q_b2 at h
    split at h
    · exact q_g0 (fun H locs ls cells k => lv_ixor hx hb hdg k) (hK _ _ _ _ _ _ h)
    · exact h.elim
  | ishl =>
    obtain ⟨rfl, h⟩ := h
    unfold q_b2 at h
    split at h
    · exact q_g0 (fun H locs ls cells k => lv_ishl hx hb hdg k) (hK _ _ _ _ _ _ h)
    · exact h.elim
  | ishr =>
    obtain ⟨rfl, h⟩ := h
    unfold q_b2 at h
    split at h
    · exact q_g0 (fun H locs ls cells k => lv_ishr hx hb hdg k) (hK _ _ _ _ _ _ h)
    · exact h.elim
  | iushr =>
    obtain ⟨rfl, h⟩ := h
    unfold q_b2 at h
    split at h
    · exact q_g0 (fun H locs ls cells k => lv_iushr hx hb hdg rfl k) (hK _ _ _ _ _ _ h)
    · exact h.elim
  | idiv =>
    obtain ⟨rfl, h⟩ := h
    unfold q_d2 at h
    split at h
    · exact q_g0 (fun H locs ls cells k => lv_idiv hx hb hdg h.1 k) (hK _ _ _ _ _ _ h.2)
    · exact h.elim
  | irem =>
    obtain ⟨rfl, h⟩ := h
    unfold q_d2 at h
    split at h
    · exact q_g0 (fun H locs ls cells k => lv_irem hx hb hdg h.1 k) (hK _ _ _ _ _ _ h.2)
    · exact h.elim
  | ineg =>
    obtain ⟨rfl, h⟩ := h
    unfold q_u1 at h
    split at h
    · exact q_g0 (fun H locs ls cells k => lv_ineg hx hb hdg k) (hK _ _ _ _ _ _ h)
    · exact h.elim
  | i2l =>
    obtain ⟨rfl, h⟩ := h
    unfold q_u1 at h
    split at h
    · exact q_g0 (fun H locs ls cells k => lv_i2l hx hb hdg rfl k) (hK _ _ _ _ _ _ h)
    · exact h.elim
  | l2i =>
    obtain ⟨rfl, h⟩ := h
    unfold q_v1 at h
    split at h
    · exact q_g0 (fun H locs ls cells k => lv_l2i hx hb hdg rfl k) (hK _ _ _ _ _ _ h)
    · exact h.elim
  | lneg =>
    obtain ⟨rfl, h⟩ := h
    unfold q_v1 at h
    split at h
    · exact q_g0 (fun H locs ls cells k => lv_lneg hx hb hdg k) (hK _ _ _ _ _ _ h)
    · exact h.elim
  | ladd =>
    obtain ⟨rfl, h⟩ := h
    unfold q_l2 at h
    split at h
    · exact q_g0 (fun H locs ls cells k => lv_ladd hx hb hdg k) (hK _ _ _ _ _ _ h)
    · exact h.elim
  | lsub =>
    obtain ⟨rfl, h⟩ := h
    unfold q_l2 at h
    split at h
    · exact q_g0 (fun H locs ls cells k => lv_lsub hx hb hdg k) (hK _ _ _ _ _ _ h)
    · exact h.elim
  | lmul =>
    obtain ⟨rfl, h⟩ := h
    unfold q_l2 at h
    split at h
    · exact q_g0 (fun H locs ls cells k => lv_lmul hx hb hdg k) (hK _ _ _ _ _ _ h)
    · exact h.elim
  | land =>
    obtain ⟨rfl, h⟩ := h
    unfold q_l2 at h
    split at h
    · exact q_g0 (fun H locs ls cells k => lv_land hx hb hdg k) (hK _ _ _ _ _ _ h)
    · exact h.elim
  | lxor =>
    obtain ⟨rfl, h⟩ := h
    unfold q_l2 at h
    split at h
    · exact q_g0 (fun H locs ls cells k => lv_lxor hx hb hdg k) (hK _ _ _ _ _ _ h)
    · exact h.elim
  | ldiv =>
    obtain ⟨rfl, h⟩ := h
    unfold q_e2 at h
    split at h
    · exact q_g0 (fun H locs ls cells k => lv_ldiv hx hb hdg h.1 k) (hK _ _ _ _ _ _ h.2)
    · exact h.elim
  | lrem =>
    obtain ⟨rfl, h⟩ := h
    unfold q_e2 at h
    split at h
    · exact q_g0 (fun H locs ls cells k => lv_lrem hx hb hdg h.1 k) (hK _ _ _ _ _ _ h.2)
    · exact h.elim
  | lshl =>
    obtain ⟨rfl, h⟩ := h
    unfold q_li at h
    split at h
    · exact q_g0 (fun H locs ls cells k => lv_lshl hx hb hdg rfl k) (hK _ _ _ _ _ _ h)
    · exact h.elim
  | lshr =>
    obtain ⟨rfl, h⟩ := h
    unfold q_li at h
    split at h
    · exact q_g0 (fun H locs ls cells k => lv_lshr hx hb hdg rfl k) (hK _ _ _ _ _ _ h)
    · exact h.elim
  | lcmp =>
    obtain ⟨rfl, h⟩ := h
    unfold q_lc at h
    split at h
    · exact q_g0 (fun H locs ls cells k => W.lcmp hx hb hdg k) (hK _ _ _ _ _ _ h)
    · exact h.elim
  | dup =>
    obtain ⟨rfl, h⟩ := h
    unfold q_dp at h
    split at h
    · exact q_g0 (fun H locs ls cells k => lv_dup hx hb hdg h.1 k) (hK _ _ _ _ _ _ h.2)
    · exact h.elim
  | dup2 =>
    obtain ⟨rfl, h⟩ := h
    unfold q_dd at h
    split at h
    · exact q_g0 (fun H locs ls cells k => lv_dup2_2 hx hb hdg rfl k) (hK _ _ _ _ _ _ h)
    · exact q_g0 (fun H locs ls cells k => lv_dup2_11 hx hb hdg h.1 h.2.1 k) (hK _ _ _ _ _ _ h.2.2)
    · exact h.elim
  | pop =>
    obtain ⟨rfl, h⟩ := h
    unfold q_pp at h
    split at h
    · exact q_g0 (fun H locs ls cells k => lv_pop hx hb hdg h.1 k) (hK _ _ _ _ _ _ h.2)
    · exact h.elim
  | pop2 =>
    obtain ⟨rfl, h⟩ := h
    unfold q_p2 at h
    split at h
    · exact q_g0 (fun H locs ls cells k => lv_pop2_2 hx hb hdg rfl k) (hK _ _ _ _ _ _ h)
    · exact h.elim
  | goto off =>
    obtain ⟨rfl, h0, h⟩ := h
    exact q_g0 (fun H locs ls cells k => lv_goto hx hb hdg (q_gt h0) k) (hK _ _ _ _ _ _ h)
  | ifCond cd off =>
    obtain ⟨rfl, h⟩ := h
    unfold q_b0 at h
    split at h
    · cases cd <;> first
      | exact q_gb hK (fun H locs ls cells tgt ht k1 k2 => lv_if_eq hx hb hdg ht k1 k2) h
      | exact q_gb hK (fun H locs ls cells tgt ht k1 k2 => lv_if_ne hx hb hdg ht k1 (fun z => k2 (fun f => f z))) h
      | exact q_gb hK (fun H locs ls cells tgt ht k1 k2 => lv_if_lt hx hb hdg ht k1 k2) h
      | exact q_gb hK (fun H locs ls cells tgt ht k1 k2 => lv_if_ge hx hb hdg ht k1 k2) h
      | exact q_gb hK (fun H locs ls cells tgt ht k1 k2 => lv_if_gt hx hb hdg ht k1 k2) h
      | exact q_gb hK (fun H locs ls cells tgt ht k1 k2 => lv_if_le hx hb hdg ht k1 k2) h
    · exact h.elim
  | if_icmp cd off =>
    obtain ⟨rfl, h⟩ := h
    unfold q_bc at h
    split at h
    · cases cd <;> first
      | exact q_gb hK (fun H locs ls cells tgt ht k1 k2 => lv_icmp_eq hx hb hdg ht k1 k2) h
      | exact q_gb hK (fun H locs ls cells tgt ht k1 k2 => lv_icmp_ne hx hb hdg ht k1 (fun z => k2 (fun f => f z))) h
      | exact q_gb hK (fun H locs ls cells tgt ht k1 k2 => lv_icmp_lt hx hb hdg ht k1 k2) h
      | exact q_gb hK (fun H locs ls cells tgt ht k1 k2 => lv_icmp_ge hx hb hdg ht k1 k2) h
      | exact q_gb hK (fun H locs ls cells tgt ht k1 k2 => lv_icmp_gt hx hb hdg ht k1 k2) h
      | exact q_gb hK (fun H locs ls cells tgt ht k1 k2 => lv_icmp_le hx hb hdg ht k1 k2) h
    · exact h.elim
  | ifnull off =>
    obtain ⟨rfl, h⟩ := h
    unfold q_bn at h
    split at h
    · exact q_g0 (fun H locs ls cells k => lv_ifnullN hx hb hdg (q_gt h.1) k) (hK _ _ _ _ _ _ h.2)
    · exact q_g0 (fun H locs ls cells k => lv_ifnull hx hb hdg k) (hK _ _ _ _ _ _ h)
    · exact h.elim
  | tableswitch d lo hi offs =>
    change q_ts _ _ _ _ _ _ _ _ _ _ _ at h
    unfold q_ts at h
    split at h
    · next x t =>
      by_cases hc : x.toInt < lo ∨ hi < x.toInt
      · obtain ⟨h0, h1⟩ := h.1 hc
        exact q_g0 (fun H locs ls cells k => lv_tableOut hx hb hdg hc (q_gt h0) k) (hK _ _ _ _ _ _ h1)
      · obtain ⟨off, ho, h0, h1⟩ := h.2 (fun z => hc (Or.inl z)) (fun z => hc (Or.inr z))
        exact q_g0 (fun H locs ls cells k => lv_tableIn hx hb hdg (fun z => hc (Or.inl z)) (fun z => hc (Or.inr z)) ho (q_gt h0) k) (hK _ _ _ _ _ _ h1)
    · exact h.elim
  | lookupswitch d ps =>
    change q_lk _ _ _ _ _ _ _ _ _ at h
    unfold q_lk at h
    split at h
    · next x t => exact q_g0 (fun H locs ls cells k => lv_lookup hx hb hdg h.1 rfl (q_gt h.2.1) k) (hK _ _ _ _ _ _ h.2.2)
    · exact h.elim
  | getfield idx =>
    obtain ⟨rfl, h⟩ := h
    exact q_sget hC hK hdg h
  | putfield idx =>
    obtain ⟨rfl, h⟩ := h
    exact q_sput hC hin hK hdg h
  | iaload =>
    obtain ⟨rfl, h⟩ := h
    exact q_sia hC hK hdg h
  | laload =>
    obtain ⟨rfl, h⟩ := h
    exact q_sja hC hK hdg h
  | aaload =>
    obtain ⟨rfl, h⟩ := h
    exact q_saa hC hK hdg h
  | iastore =>
    obtain ⟨rfl, h⟩ := h
    exact q_sis hC hK hdg h
  | lastore =>
    obtain ⟨rfl, h⟩ := h
    exact q_sjs hC hK hdg h
  | aastore =>
    obtain ⟨rfl, h⟩ := h
    exact q_sas hC hK hdg h
  | arraylength =>
    obtain ⟨rfl, h⟩ := h
    exact q_sln hC hK hdg h
  | new idx =>
    obtain ⟨rfl, h⟩ := h
    exact q_snew hC hK hdg h
  | newarray at_ =>
    obtain ⟨rfl, h⟩ := h
    exact q_snewa hC hK hdg h
  | anewarray idx =>
    obtain ⟨rfl, h⟩ := h
    exact q_snewq hC hK hdg h
  | ireturn =>
    obtain ⟨rfl, h⟩ := h
    exact hRi _ _ _ _ _ _ hdg h
  | lreturn =>
    obtain ⟨rfl, h⟩ := h
    exact hRl _ _ _ _ _ _ hdg h
  | areturn =>
    obtain ⟨rfl, h⟩ := h
    exact hRa _ _ _ _ _ _ hdg h
  | return_ =>
    obtain ⟨rfl, h⟩ := h
    exact hRv _ _ _ _ _ _ hdg h
  | invokestatic idx =>
    obtain ⟨rfl, h⟩ := h
    cases hm : ms idx with
    | none => rw [hm] at h; exact (show False from h).elim
    | some info =>
      rw [hm] at h
      exact hms idx info hm K hK _ _ _ _ _ _ _ (Or.inl ⟨rfl, hdg⟩) h
  | invokevirtual idx =>
    obtain ⟨rfl, h⟩ := h
    cases hm : ms idx with
    | none => rw [hm] at h; exact (show False from h).elim
    | some info =>
      rw [hm] at h
      exact hms idx info hm K hK _ _ _ _ _ _ _ (Or.inr (Or.inl ⟨rfl, hdg⟩)) h
  | invokespecial idx =>
    obtain ⟨rfl, h⟩ := h
    cases hm : ms idx with
    | none => rw [hm] at h; exact (show False from h).elim
    | some info =>
      rw [hm] at h
      exact hms idx info hm K hK _ _ _ _ _ _ _ (Or.inr (Or.inr ⟨rfl, hdg⟩)) h
  | _ => exact (show False from h).elim
end QA
