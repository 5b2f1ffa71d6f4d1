/-! ===== what an instruction asks for: a formula over what comes behind it ===== -/
def q_b2 (K : QK) (pc : Nat) (L : QLL) (w : QWd) (sz sl : Nat) (f : Int32 → Int32 → Int32) : List Value → Prop
  | .int b :: .int a :: t => K (pc + 1) L (.int (f a b) :: t) w sz sl
  | _ => False
def q_l2 (K : QK) (pc : Nat) (L : QLL) (w : QWd) (sz sl : Nat) (f : Int64 → Int64 → Int64) : List Value → Prop
  | .long b :: .long a :: t => K (pc + 1) L (.long (f a b) :: t) w sz sl
  | _ => False
def q_d2 (K : QK) (pc : Nat) (L : QLL) (w : QWd) (sz sl : Nat) (f : Int32 → Int32 → Int32) : List Value → Prop
  | .int b :: .int a :: t => ¬ b = 0 ∧ K (pc + 1) L (.int (f a b) :: t) w sz sl
  | _ => False
def q_e2 (K : QK) (pc : Nat) (L : QLL) (w : QWd) (sz sl : Nat) (f : Int64 → Int64 → Int64) : List Value → Prop
  | .long b :: .long a :: t => ¬ b = 0 ∧ K (pc + 1) L (.long (f a b) :: t) w sz sl
  | _ => False
def q_li (K : QK) (pc : Nat) (L : QLL) (w : QWd) (sz sl : Nat) (f : Int64 → Int32 → Int64) : List Value → Prop
  | .int b :: .long a :: t => K (pc + 1) L (.long (f a b) :: t) w sz sl
  | _ => False
def q_u1 (K : QK) (pc : Nat) (L : QLL) (w : QWd) (sz sl : Nat) (f : Int32 → Value) : List Value → Prop
  | .int a :: t => K (pc + 1) L (f a :: t) w sz sl
  | _ => False
def q_v1 (K : QK) (pc : Nat) (L : QLL) (w : QWd) (sz sl : Nat) (f : Int64 → Value) : List Value → Prop
  | .long a :: t => K (pc + 1) L (f a :: t) w sz sl
  | _ => False
def q_lc (K : QK) (pc : Nat) (L : QLL) (w : QWd) (sz sl : Nat) : List Value → Prop
  | .long b :: .long a :: t => K (pc + 1) L (.int (lg_cmp a b) :: t) w sz sl
  | _ => False
def q_tg (pc : Nat) (off : Int) : Nat := ((pc : Int) + off).toNat
/-- a branch on c -/
def q_br (K : QK) (pc : Nat) (off : Int) (L : QLL) (t : List Value) (w : QWd) (sz sl : Nat) (c : Prop) : Prop := 0 ≤ (pc : Int) + off ∧ (c → K (q_tg pc off) L t w sz sl) ∧ (¬ c → K (pc + 3) L t w sz sl)
def q_cd : Jvm.ClassFile.Cond → Int32 → Int32 → Prop
  | .eq, x, y => x = y
  | .ne, x, y => ¬ x = y
  | .lt, x, y => x < y
  | .ge, x, y => y ≤ x
  | .gt, x, y => y < x
  | .le, x, y => x ≤ y
def q_b0 (K : QK) (pc : Nat) (off : Int) (L : QLL) (w : QWd) (sz sl : Nat) (cd : Jvm.ClassFile.Cond) : List Value → Prop
  | .int x :: t => q_br K pc off L t w sz sl (q_cd cd x 0)
  | _ => False
def q_bc (K : QK) (pc : Nat) (off : Int) (L : QLL) (w : QWd) (sz sl : Nat) (cd : Jvm.ClassFile.Cond) : List Value → Prop
  | .int y :: .int x :: t => q_br K pc off L t w sz sl (q_cd cd x y)
  | _ => False
def q_bn (K : QK) (pc : Nat) (off : Int) (L : QLL) (w : QWd) (sz sl : Nat) : List Value → Prop
  | .null :: t => 0 ≤ (pc : Int) + off ∧ K (q_tg pc off) L t w sz sl
  | .ref _ :: t => K (pc + 3) L t w sz sl
  | _ => False
def q_il (K : QK) (pc k : Nat) (L : QLL) (st : List Value) (w : QWd) (sz sl : Nat) : Option Value → Prop
  | some (.int x) => K (pc + k) L (.int x :: st) w sz sl
  | _ => False
def q_ll (K : QK) (pc k : Nat) (L : QLL) (st : List Value) (w : QWd) (sz sl : Nat) : Option Value → Prop
  | some (.long x) => K (pc + k) L (.long x :: st) w sz sl
  | _ => False
def q_al (K : QK) (pc k : Nat) (L : QLL) (st : List Value) (w : QWd) (sz sl : Nat) : Option Value → Prop
  | some (.ref x) => K (pc + k) L (.ref x :: st) w sz sl
  | some .null => K (pc + k) L (.null :: st) w sz sl
  | _ => False
def q_is (K : QK) (pc k i : Nat) (L : QLL) (w : QWd) (sz sl : Nat) : List Value → Prop
  | .int x :: t => i < L.length ∧ K (pc + k) (q_st1 L i (.int x)) t w sz sl
  | _ => False
def q_ls (K : QK) (pc k i : Nat) (L : QLL) (w : QWd) (sz sl : Nat) : List Value → Prop
  | .long x :: t => i + 1 < L.length ∧ K (pc + k) (q_st2 L i (.long x)) t w sz sl
  | _ => False
def q_ars (K : QK) (pc k i : Nat) (L : QLL) (w : QWd) (sz sl : Nat) : List Value → Prop
  | .ref x :: t => i < L.length ∧ K (pc + k) (q_st1 L i (.ref x)) t w sz sl
  | .null :: t => i < L.length ∧ K (pc + k) (q_st1 L i .null) t w sz sl
  | _ => False
def q_ii (K : QK) (pc i : Nat) (n : Int) (L : QLL) (st : List Value) (w : QWd) (sz sl : Nat) : Option Value → Prop
  | some (.int x) => i < L.length ∧ K (pc + 3) (q_st1 L i (.int (x + Int32.ofInt n))) st w sz sl
  | _ => False
def q_dp (K : QK) (pc : Nat) (L : QLL) (w : QWd) (sz sl : Nat) : List Value → Prop
  | a :: t => a.category = 1 ∧ K (pc + 1) L (a :: a :: t) w sz sl
  | _ => False
def q_pp (K : QK) (pc : Nat) (L : QLL) (w : QWd) (sz sl : Nat) : List Value → Prop
  | a :: t => a.category = 1 ∧ K (pc + 1) L t w sz sl
  | _ => False
def q_p2 (K : QK) (pc : Nat) (L : QLL) (w : QWd) (sz sl : Nat) : List Value → Prop
  | .long _ :: t => K (pc + 1) L t w sz sl
  | _ => False
def q_dd (K : QK) (pc : Nat) (L : QLL) (w : QWd) (sz sl : Nat) : List Value → Prop
  | .long a :: t => K (pc + 1) L (.long a :: .long a :: t) w sz sl
  | a :: b :: t => a.category = 1 ∧ b.category = 1 ∧ K (pc + 1) L (a :: b :: a :: b :: t) w sz sl
  | _ => False
/-- a field by its class and place -/
def q_fg (K : QK) (pc : Nat) (L : QLL) (t : List Value) (w : QWd) (sz sl : Nat) (ci k : Nat) : Option QCl → Prop
  | some (.inr (c, fs)) => c = ci ∧ ∃ v, fs[k]? = some v ∧ K (pc + 3) L (v :: t) w sz sl
  | _ => False
def q_gf (K : QK) (pc : Nat) (L : QLL) (w : QWd) (sz sl : Nat) (f : Option (Nat × Nat × FieldType × Bool)) : List Value → Prop
  | .ref a :: t => match f with
    | some (ci, k, _) => q_fg K pc L t w sz sl ci k (w a)
    | none => False
  | _ => False
def q_pv (ty : FieldType) (v : Value) : Prop := narrow ty v = v ∧ fits ty v = true
def q_fp (K : QK) (pc : Nat) (L : QLL) (t : List Value) (w : QWd) (sz sl : Nat) (ci k a : Nat) (v : Value) : Option QCl → Prop
  | some (.inr (c, fs)) => c = ci ∧ k < fs.length ∧ K (pc + 3) L t (q_set w a (.inr (ci, fs.set k v))) sz sl
  | _ => False
def q_pf (K : QK) (ow : Nat) (ini : Bool) (pc : Nat) (L : QLL) (w : QWd) (sz sl : Nat) (f : Option (Nat × Nat × FieldType × Bool)) : List Value → Prop
  | v :: .ref a :: t => match f with
    | some (ci, k, ty, fin) => (fin = false ∨ (ini = true ∧ ci = ow)) ∧ q_pv ty v ∧ q_fp K pc L t w sz sl ci k a v (w a)
    | none => False
  | _ => False
/-- arrays -/
def q_ai (K : QK) (pc : Nat) (L : QLL) (t : List Value) (w : QWd) (sz sl : Nat) (i : Int32) : Option QCl → Prop
  | some (.inl (k, n, .inl f)) => (k = 0 ∨ k = 6) ∧ vp_in i n ∧ K (pc + 1) L (.int (f i.toNatClampNeg) :: t) w sz sl
  | _ => False
def q_iald (K : QK) (pc : Nat) (L : QLL) (w : QWd) (sz sl : Nat) : List Value → Prop
  | .int i :: .ref a :: t => q_ai K pc L t w sz sl i (w a)
  | _ => False
def q_aj (K : QK) (pc : Nat) (L : QLL) (t : List Value) (w : QWd) (sz sl : Nat) (i : Int32) : Option QCl → Prop
  | some (.inl (k, n, .inr (.inl f))) => k = 1 ∧ vp_in i n ∧ K (pc + 1) L (.long (f i.toNatClampNeg) :: t) w sz sl
  | _ => False
def q_lald (K : QK) (pc : Nat) (L : QLL) (w : QWd) (sz sl : Nat) : List Value → Prop
  | .int i :: .ref a :: t => q_aj K pc L t w sz sl i (w a)
  | _ => False
def q_aq (K : QK) (pc : Nat) (L : QLL) (t : List Value) (w : QWd) (sz sl : Nat) (i : Int32) : Option QCl → Prop
  | some (.inl (k, n, .inr (.inr (.inr (.inr f))))) => (2 ≤ k ∧ k ≤ 5) ∧ vp_in i n ∧ K (pc + 1) L (va_rf (f i.toNatClampNeg) :: t) w sz sl
  | _ => False
def q_aald (K : QK) (pc : Nat) (L : QLL) (w : QWd) (sz sl : Nat) : List Value → Prop
  | .int i :: .ref a :: t => q_aq K pc L t w sz sl i (w a)
  | _ => False
def q_bi (K : QK) (pc : Nat) (L : QLL) (t : List Value) (w : QWd) (sz sl : Nat) (a : Nat) (i x : Int32) : Option QCl → Prop
  | some (.inl (k, n, .inl f)) => k = 0 ∧ vp_in i n ∧ K (pc + 1) L t (q_set w a (.inl (0, n, .inl (upd f i.toNatClampNeg x)))) sz sl
  | _ => False
def q_iast (K : QK) (pc : Nat) (L : QLL) (w : QWd) (sz sl : Nat) : List Value → Prop
  | .int x :: .int i :: .ref a :: t => q_bi K pc L t w sz sl a i x (w a)
  | _ => False
def q_bj (K : QK) (pc : Nat) (L : QLL) (t : List Value) (w : QWd) (sz sl : Nat) (a : Nat) (i : Int32) (x : Int64) : Option QCl → Prop
  | some (.inl (k, n, .inr (.inl f))) => k = 1 ∧ vp_in i n ∧ K (pc + 1) L t (q_set w a (.inl (1, n, .inr (.inl (vp_updL f i.toNatClampNeg x))))) sz sl
  | _ => False
def q_last (K : QK) (pc : Nat) (L : QLL) (w : QWd) (sz sl : Nat) : List Value → Prop
  | .long x :: .int i :: .ref a :: t => q_bj K pc L t w sz sl a i x (w a)
  | _ => False
/-- which class's objects an array of references holds -/
def q_el : Nat → Nat
  | 2 => 0
  | 3 => 2
  | 4 => 3
  | 5 => 6
  | _ => 99
def q_bq (K : QK) (pc : Nat) (L : QLL) (t : List Value) (w : QWd) (sz sl : Nat) (a : Nat) (i : Int32) (x : Nat) : Option QCl → Prop
  | some (.inl (k, n, .inr (.inr (.inr (.inr f))))) => (2 ≤ k ∧ k ≤ 5) ∧ vp_in i n ∧ (∃ vs, w x = some (.inr (q_el k, vs))) ∧ K (pc + 1) L t (q_set w a (.inl (k, n, .inr (.inr (.inr (.inr (va_up f i.toNatClampNeg (some x)))))))) sz sl
  | _ => False
def q_aast (K : QK) (pc : Nat) (L : QLL) (w : QWd) (sz sl : Nat) : List Value → Prop
  | .ref x :: .int i :: .ref a :: t => q_bq K pc L t w sz sl a i x (w a)
  | _ => False
def q_ln (K : QK) (pc : Nat) (L : QLL) (t : List Value) (w : QWd) (sz sl : Nat) : Option QCl → Prop
  | some (.inl (6, n, .inl _)) => K (pc + 1) L (.int (Int32.ofNat n) :: t) w sz sl
  | _ => False
def q_alen (K : QK) (pc : Nat) (L : QLL) (w : QWd) (sz sl : Nat) : List Value → Prop
  | .ref a :: t => q_ln K pc L t w sz sl (w a)
  | _ => False
/-- a new object: its class, its number of fields, what they hold -/
def q_nw (K : QK) (pc : Nat) (L : QLL) (st : List Value) (w : QWd) (sz sl lim sm : Nat) : Option (Nat × Nat × List Value) → Prop
  | some (ci, N, fs) => sz + 1 ≤ lim ∧ sl + N ≤ sm ∧ K (pc + 3) L (.ref sz :: st) (q_set w sz (.inr (ci, fs))) (sz + 1) (sl + N)
  | none => False
def q_na (K : QK) (pc : Nat) (L : QLL) (w : QWd) (sz sl lim sm : Nat) (at_ : ArrayType) : List Value → Prop
  | .int n :: t => ¬ n < 0 ∧ n.toNatClampNeg ≤ 65536 ∧ sz + 1 ≤ lim ∧ sl + n.toNatClampNeg ≤ sm ∧ ((at_ = .int ∧ K (pc + 2) L (.ref sz :: t) (q_set w sz (.inl (0, n.toNatClampNeg, .inl (fun _ => 0)))) (sz + 1) (sl + n.toNatClampNeg)) ∨ (at_ = .long ∧ K (pc + 2) L (.ref sz :: t) (q_set w sz (.inl (1, n.toNatClampNeg, .inr (.inl (fun _ => 0))))) (sz + 1) (sl + n.toNatClampNeg)))
  | _ => False
def q_nq (K : QK) (pc : Nat) (L : QLL) (w : QWd) (sz sl lim sm : Nat) (kd : Option Nat) : List Value → Prop
  | .int n :: t => match kd with
    | some k => ¬ n < 0 ∧ n.toNatClampNeg ≤ 65536 ∧ sz + 1 ≤ lim ∧ sl + n.toNatClampNeg ≤ sm ∧ K (pc + 3) L (.ref sz :: t) (q_set w sz (.inl (k, n.toNatClampNeg, .inr (.inr (.inr (.inr (fun _ => none))))))) (sz + 1) (sl + n.toNatClampNeg)
    | none => False
  | _ => False
/-- the values of a call off the stack -/
def q_tk : Nat → List Value → List Value → Option (List Value × List Value)
  | 0, acc, st => some (acc, st)
  | n + 1, acc, v :: st => q_tk n (v :: acc) st
  | _ + 1, _, [] => none
theorem q_tk_spec : ∀ (n : Nat) (acc st As rest : List Value), q_tk n acc st = some (As, rest) → ∃ Bs, As = Bs ++ acc ∧ Bs.length = n ∧ st = Bs.reverse ++ rest
  | 0, acc, st, As, rest, h => by
    simp only [q_tk, Option.some.injEq, Prod.mk.injEq] at h
    exact ⟨[], by simp [h.1], rfl, by simp [h.2]⟩
  | n + 1, acc, [], As, rest, h => by simp [q_tk] at h
  | n + 1, acc, v :: st, As, rest, h => by
    simp only [q_tk] at h
    obtain ⟨Bs, h1, h2, h3⟩ := q_tk_spec n (v :: acc) st As rest h
    exact ⟨Bs ++ [v], by simp [h1], by simp [h2], by simp [h3]⟩
def q_cat (st : List Value) : Nat := (st.map fun v => v.category).sum
def q_kl (w : QWd) (a ci : Nat) : Prop := ∃ fs, w a = some (.inr (ci, fs))
def q_cp2 (K : QK) (pc : Nat) (L : QLL) (t : List Value) (w : QWd) (sz sl : Nat) (a1 : Nat) (n dp sp : Int32) : Option QCl → Option QCl → Prop
  | some (.inl (k0, n0, .inl f)), some (.inl (k1, n1, .inl g)) => k0 = 0 ∧ k1 = 0 ∧ ¬ sp < 0 ∧ ¬ dp < 0 ∧ ¬ n < 0 ∧ sp.toNatClampNeg + n.toNatClampNeg ≤ n0 ∧ dp.toNatClampNeg + n.toNatClampNeg ≤ n1 ∧ K (pc + 3) L t (q_set w a1 (.inl (0, n1, .inl (va_cpy f g sp.toNatClampNeg dp.toNatClampNeg n.toNatClampNeg)))) sz sl
  | some (.inl (k0, n0, .inr (.inl f))), some (.inl (k1, n1, .inr (.inl g))) => k0 = 1 ∧ k1 = 1 ∧ ¬ sp < 0 ∧ ¬ dp < 0 ∧ ¬ n < 0 ∧ sp.toNatClampNeg + n.toNatClampNeg ≤ n0 ∧ dp.toNatClampNeg + n.toNatClampNeg ≤ n1 ∧ K (pc + 3) L t (q_set w a1 (.inl (1, n1, .inr (.inl (va_cpy f g sp.toNatClampNeg dp.toNatClampNeg n.toNatClampNeg))))) sz sl
  | _, _ => False
def q_cpy (K : QK) (pc : Nat) (L : QLL) (w : QWd) (sz sl : Nat) : List Value → Prop
  | .int n :: .int dp :: .ref a1 :: .int sp :: .ref a0 :: t => q_cat t ≤ 8 ∧ q_cp2 K pc L t w sz sl a1 n dp sp (w a0) (w a1)
  | _ => False
def q_ob (K : QK) (pc : Nat) (L : QLL) (w : QWd) (sz sl : Nat) : List Value → Prop
  | .ref _ :: t => q_cat t ≤ 8 ∧ K (pc + 3) L t w sz sl
  | _ => False
def q_cs (K : QK) (pc : Nat) (L : QLL) (w : QWd) (sz sl lim sm : Nat) (T : QTT) (mc ms : Nat) : Option (List Value × List Value) → Prop
  | some (As, t) => q_cat t ≤ 8 ∧ sz + mc ≤ lim ∧ sl + ms ≤ sm ∧ T As w sz (fun r w' => K (pc + 3) L (r.toList ++ t) w' (sz + mc) (sl + ms))
  | none => False
def q_cv (K : QK) (pc : Nat) (L : QLL) (w : QWd) (sz sl lim sm : Nat) (ci : Nat) (T : QTT) (mc ms : Nat) : Option (List Value × List Value) → Prop
  | some (As, .ref b :: t) => q_cat t ≤ 8 ∧ sz + mc ≤ lim ∧ sl + ms ≤ sm ∧ q_kl w b ci ∧ T (.ref b :: As) w sz (fun r w' => K (pc + 3) L (r.toList ++ t) w' (sz + mc) (sl + ms))
  | _ => False
def q_call (K : QK) (pc : Nat) (L : QLL) (st : List Value) (w : QWd) (sz sl lim sm : Nat) (op : Nat) : Option QI → Prop
  | some (0, n, _, T, mc, ms) => op = 0 ∧ q_cs K pc L w sz sl lim sm T mc ms (q_tk n [] st)
  | some (1, n, ci, T, mc, ms) => op = 1 ∧ q_cv K pc L w sz sl lim sm ci T mc ms (q_tk n [] st)
  | some (2, n, ci, T, mc, ms) => op = 2 ∧ q_cv K pc L w sz sl lim sm ci T mc ms (q_tk n [] st)
  | some (3, n, ci, T, mc, ms) => op = 2 ∧ q_cv K pc L w sz sl lim sm ci T mc ms (q_tk n [] st)
  | some (8, _) => op = 2 ∧ q_ob K pc L w sz sl st
  | some (9, _) => op = 0 ∧ q_cpy K pc L w sz sl st
  | _ => False
/-- switches -/
def q_ts (K : QK) (pc : Nat) (L : QLL) (w : QWd) (sz sl : Nat) (d lo hi : Int) (offs : Array Int) : List Value → Prop
  | .int x :: t => ((x.toInt < lo ∨ hi < x.toInt) → 0 ≤ (pc : Int) + d ∧ K (q_tg pc d) L t w sz sl) ∧ (¬ x.toInt < lo → ¬ hi < x.toInt → ∃ off, offs[(x.toInt - lo).toNat]? = some off ∧ 0 ≤ (pc : Int) + off ∧ K (q_tg pc off) L t w sz sl)
  | _ => False
def q_lk (K : QK) (pc : Nat) (L : QLL) (w : QWd) (sz sl : Nat) (d : Int) (ps : Array (Int × Int)) : List Value → Prop
  | .int x :: t => (ps.toList.zip (ps.toList.drop 1)).all (fun (a, next) => a.1 < next.1) = true ∧ 0 ≤ (pc : Int) + Op.lookupswitch.offset ps.toList d x.toInt ∧ K (q_tg pc (Op.lookupswitch.offset ps.toList d x.toInt)) L t w sz sl
  | _ => False
/-- ends -/
def q_ri (rt : Option FieldType) (lim sm : Nat) (post : QPo) (w : QWd) (sz sl : Nat) : List Value → Prop
  | [.int v] => (∃ ty, rt = some ty ∧ narrow ty (.int v) = .int v) ∧ sz = lim ∧ sl ≤ sm ∧ post (some (.int v)) w
  | _ => False
def q_rl (rt : Option FieldType) (lim sm : Nat) (post : QPo) (w : QWd) (sz sl : Nat) : List Value → Prop
  | [.long v] => rt = some .long ∧ sz = lim ∧ sl ≤ sm ∧ post (some (.long v)) w
  | _ => False
def q_ra (rt : Option FieldType) (lim sm : Nat) (post : QPo) (w : QWd) (sz sl : Nat) : List Value → Prop
  | [.ref v] => (∃ n, rt = some (.object n)) ∧ sz = lim ∧ sl ≤ sm ∧ post (some (.ref v)) w
  | _ => False
def q_rv (rt : Option FieldType) (lim sm : Nat) (post : QPo) (w : QWd) (sz sl : Nat) : List Value → Prop
  | [] => rt = none ∧ sz = lim ∧ sl ≤ sm ∧ post none w
  | _ => False
def q_pk {α : Type} (K : QK) (pc k : Nat) (L : QLL) (st : List Value) (w : QWd) (sz sl : Nat) (mk : α → Value) : Option α → Prop
  | some v => K (pc + k) L (mk v :: st) w sz sl
  | none => False
/-- one instruction -/
def q_ins (ow : Nat) (ini : Bool) (rt : Option FieldType) (ms : Nat → Option QI) (lim sm : Nat) (post : QPo) (K : QK) (pc : Nat) (L : QLL) (st : List Value) (w : QWd) (sz sl : Nat) : Instr → Nat → Prop
  | .iconst n, len => len = 1 ∧ K (pc + 1) L (.int (Int32.ofInt n) :: st) w sz sl
  | .bipush n, len => len = 2 ∧ K (pc + 2) L (.int (Int8.ofInt n).toInt32 :: st) w sz sl
  | .sipush n, len => len = 3 ∧ K (pc + 3) L (.int (Int16.ofInt n).toInt32 :: st) w sz sl
  | .lconst n, len => len = 1 ∧ K (pc + 1) L (.long (Int64.ofNat (n : Nat)) :: st) w sz sl
  | .ldc idx, len => len = 2 ∧ q_pk K pc 2 L st w sz sl Value.int (q_C ow idx)
  | .ldc2_w idx, len => len = 3 ∧ q_pk K pc 3 L st w sz sl Value.long (q_D ow idx)
  | .aconst_null, len => len = 1 ∧ K (pc + 1) L (.null :: st) w sz sl
  | .iload_n k, len => len = 1 ∧ q_il K pc 1 L st w sz sl (q_get L (k : Nat))
  | .iload k, len => len = 2 ∧ q_il K pc 2 L st w sz sl (q_get L k)
  | .lload_n k, len => len = 1 ∧ q_ll K pc 1 L st w sz sl (q_get L (k : Nat))
  | .lload k, len => len = 2 ∧ q_ll K pc 2 L st w sz sl (q_get L k)
  | .aload_n k, len => len = 1 ∧ q_al K pc 1 L st w sz sl (q_get L (k : Nat))
  | .aload k, len => len = 2 ∧ q_al K pc 2 L st w sz sl (q_get L k)
  | .istore_n k, len => len = 1 ∧ q_is K pc 1 (k : Nat) L w sz sl st
  | .istore k, len => len = 2 ∧ q_is K pc 2 k L w sz sl st
  | .lstore_n k, len => len = 1 ∧ q_ls K pc 1 (k : Nat) L w sz sl st
  | .lstore k, len => len = 2 ∧ q_ls K pc 2 k L w sz sl st
  | .astore_n k, len => len = 1 ∧ q_ars K pc 1 (k : Nat) L w sz sl st
  | .astore k, len => len = 2 ∧ q_ars K pc 2 k L w sz sl st
  | .iinc k n, len => len = 3 ∧ q_ii K pc k n L st w sz sl (q_get L k)
  | .iadd, len => len = 1 ∧ q_b2 K pc L w sz sl (fun a b => a + b) st
  | .isub, len => len = 1 ∧ q_b2 K pc L w sz sl (fun a b => a - b) st
  | .imul, len => len = 1 ∧ q_b2 K pc L w sz sl (fun a b => a * b) st
  | .iand, len => len = 1 ∧ q_b2 K pc L w sz sl (fun a b => a &&& b) st
  | .ior, len => len = 1 ∧ q_b2 K pc L w sz sl (fun a b => a ||| b) st
  | .ixor, len => len = 1 ∧ q_b2 K pc L w sz sl (fun a b => a ^^^ b) st
  | .ishl, len => len = 1 ∧ q_b2 K pc L w sz sl (fun a b => a <<< (b &&& 31)) st
  | .ishr, len => len = 1 ∧ q_b2 K pc L w sz sl (fun a b => a >>> (b &&& 31)) st
  | .iushr, len => len = 1 ∧ q_b2 K pc L w sz sl (fun a b => (a.toUInt32 >>> (b.toUInt32 &&& Int32.toUInt32 31)).toInt32) st
  | .idiv, len => len = 1 ∧ q_d2 K pc L w sz sl (fun a b => a / b) st
  | .irem, len => len = 1 ∧ q_d2 K pc L w sz sl (fun a b => a - a / b * b) st
  | .ineg, len => len = 1 ∧ q_u1 K pc L w sz sl (fun a => .int (-a)) st
  | .i2l, len => len = 1 ∧ q_u1 K pc L w sz sl (fun a => .long a.toInt64) st
  | .l2i, len => len = 1 ∧ q_v1 K pc L w sz sl (fun a => .int a.toInt32) st
  | .lneg, len => len = 1 ∧ q_v1 K pc L w sz sl (fun a => .long (-a)) st
  | .ladd, len => len = 1 ∧ q_l2 K pc L w sz sl (fun a b => a + b) st
  | .lsub, len => len = 1 ∧ q_l2 K pc L w sz sl (fun a b => a - b) st
  | .lmul, len => len = 1 ∧ q_l2 K pc L w sz sl (fun a b => a * b) st
  | .land, len => len = 1 ∧ q_l2 K pc L w sz sl (fun a b => a &&& b) st
  | .lxor, len => len = 1 ∧ q_l2 K pc L w sz sl (fun a b => a ^^^ b) st
  | .ldiv, len => len = 1 ∧ q_e2 K pc L w sz sl (fun a b => a / b) st
  | .lrem, len => len = 1 ∧ q_e2 K pc L w sz sl (fun a b => a - a / b * b) st
  | .lshl, len => len = 1 ∧ q_li K pc L w sz sl (fun a b => a <<< (b.toInt64 &&& 63)) st
  | .lshr, len => len = 1 ∧ q_li K pc L w sz sl (fun a b => a >>> (b.toInt64 &&& 63)) st
  | .lcmp, len => len = 1 ∧ q_lc K pc L w sz sl st
  | .dup, len => len = 1 ∧ q_dp K pc L w sz sl st
  | .dup2, len => len = 1 ∧ q_dd K pc L w sz sl st
  | .pop, len => len = 1 ∧ q_pp K pc L w sz sl st
  | .pop2, len => len = 1 ∧ q_p2 K pc L w sz sl st
  | .goto off, len => len = 3 ∧ 0 ≤ (pc : Int) + off ∧ K (q_tg pc off) L st w sz sl
  | .ifCond cd off, len => len = 3 ∧ q_b0 K pc off L w sz sl cd st
  | .if_icmp cd off, len => len = 3 ∧ q_bc K pc off L w sz sl cd st
  | .ifnull off, len => len = 3 ∧ q_bn K pc off L w sz sl st
  | .tableswitch d lo hi offs, _ => q_ts K pc L w sz sl d lo hi offs st
  | .lookupswitch d ps, _ => q_lk K pc L w sz sl d ps st
  | .getfield idx, len => len = 3 ∧ q_gf K pc L w sz sl (q_F ow idx) st
  | .putfield idx, len => len = 3 ∧ q_pf K ow ini pc L w sz sl (q_F ow idx) st
  | .iaload, len => len = 1 ∧ q_iald K pc L w sz sl st
  | .laload, len => len = 1 ∧ q_lald K pc L w sz sl st
  | .aaload, len => len = 1 ∧ q_aald K pc L w sz sl st
  | .iastore, len => len = 1 ∧ q_iast K pc L w sz sl st
  | .lastore, len => len = 1 ∧ q_last K pc L w sz sl st
  | .aastore, len => len = 1 ∧ q_aast K pc L w sz sl st
  | .arraylength, len => len = 1 ∧ q_alen K pc L w sz sl st
  | .new idx, len => len = 3 ∧ q_nw K pc L st w sz sl lim sm (q_N ow idx)
  | .newarray at_, len => len = 2 ∧ q_na K pc L w sz sl lim sm at_ st
  | .anewarray idx, len => len = 3 ∧ q_nq K pc L w sz sl lim sm (q_A ow idx) st
  | .invokestatic idx, len => len = 3 ∧ q_call K pc L st w sz sl lim sm 0 (ms idx)
  | .invokevirtual idx, len => len = 3 ∧ q_call K pc L st w sz sl lim sm 1 (ms idx)
  | .invokespecial idx, len => len = 3 ∧ q_call K pc L st w sz sl lim sm 2 (ms idx)
  | .ireturn, len => len = 1 ∧ q_ri rt lim sm post w sz sl st
  | .lreturn, len => len = 1 ∧ q_rl rt lim sm post w sz sl st
  | .areturn, len => len = 1 ∧ q_ra rt lim sm post w sz sl st
  | .return_, len => len = 1 ∧ q_rv rt lim sm post w sz sl st
  | _, _ => False
/-- at a place of a code -/
def q_x (ow : Nat) (ini : Bool) (rt : Option FieldType) (ms : Nat → Option QI) (lim sm : Nat) (post : QPo) (K : QK) (pc : Nat) (L : QLL) (st : List Value) (w : QWd) (sz sl : Nat) : Except DecodeError (Instr × Nat) → Prop
  | .ok (i, len) => q_ins ow ini rt ms lim sm post K pc L st w sz sl i len
  | .error _ => False
/-- n instructions, up to a place of 'cut' -/
def q_v (cc : ByteArray) (ow : Nat) (ini : Bool) (rt : Option FieldType) (ms : Nat → Option QI) (lim sm : Nat) (post : QPo) (G : QK) (cut : Nat → Bool) : Nat → QK
  | 0 => G
  | n + 1 => fun pc L st w sz sl => bif cut pc then G pc L st w sz sl else q_x ow ini rt ms lim sm post (q_v cc ow ini rt ms lim sm post G cut n) pc L st w sz sl (decode cc pc)
/-- what a body's places have in common: what one instruction asks for suffices -/
def q_Cl (cc : ByteArray) (ow : Nat) (ini : Bool) (rt : Option FieldType) (ms : Nat → Option QI) (lim sm : Nat) (post : QPo) (G : QK) : Prop :=
  ∀ (cut : Nat → Bool) (n : Nat) (pc : Nat) (L : QLL) (st : List Value) (w : QWd) (sz sl : Nat), q_x ow ini rt ms lim sm post (q_v cc ow ini rt ms lim sm post G cut n) pc L st w sz sl (decode cc pc) → G pc L st w sz sl
