/-! ===== the moves of a run ===== -/
def nup1 (f : Nat → Nat) (d x : Nat) : Nat → Nat := fun i => if i = d then x else f i
theorem nup1_s {f : Nat → Nat} {d x : Nat} : nup1 f d x d = x := if_pos rfl
theorem nup1_n {f : Nat → Nat} {d x i : Nat} (h : i ≠ d) : nup1 f d x i = f i := if_neg h
section
variable {n : Nat} {s : Nat → QSp} {lv og rl : Nat → Nat} {d p : Nat}
theorem mv_op (hW : pWF n s lv) (hv : vld n s lv og rl d p) (hp : p < n) (h0 : (s p).1 = 0) : vld n s lv og rl d (p + 1) ∧ rest n s og rl d p = p :: rest n s og rl d (p + 1) := by
  have hn : (s p).2.2 = none := by
    rcases hW p hp with ⟨-, a, -⟩ | ⟨a, -⟩ | ⟨a, -⟩
    · exact a
    · omega
    · omega
  cases d with
  | zero =>
    refine ⟨⟨by omega, bal_op hW hv.2 (by omega) hn⟩, ?_⟩
    exact trT_op hp (by omega)
  | succ d =>
    obtain ⟨⟨a1, a2, a3, a4, a5, a6, a7, a7', a8, a9, a10⟩, b⟩ := hv
    have hc : p ≠ pcl s (og d) := fun e => by
      rcases hW (og d) a1 with ⟨q, -⟩ | ⟨-, -, -, c, q1, -, -, q2, -⟩ | ⟨q, -⟩
      · omega
      · rw [a3] at q1
        rw [← Option.some.inj q1, ← e] at q2
        omega
      · omega
    refine ⟨⟨⟨a1, a2, a3, by omega, by omega, a6, a7, a7', a8, bal_op hW a9 (by omega) hn, fun k k1 k2 => a10 k (by omega) k2⟩, b⟩, ?_⟩
    show trT s p _ ++ _ = p :: (trT s (p + 1) _ ++ _)
    rw [trT_op (by omega) (by omega)]; rfl
theorem mv_lp (hW : pWF n s lv) (hv : vld n s lv og rl d p) (hp : p < n) (h1 : (s p).1 = 1) : ∃ c, (s p).2.2 = some c ∧ p < c ∧ c < n ∧ d < 3 ∧ (s p).2.1.1 < 100 ∧ vld n s lv og rl d (c + 1) ∧
    rest n s og rl d p = p :: ((List.replicate (s p).2.1.1 (trT s (p + 1) c ++ [c])).flatten ++ rest n s og rl d (c + 1)) ∧
    (1 ≤ (s p).2.1.1 → vld n s lv (nup1 og d p) (nup1 rl d (s p).2.1.1) (d + 1) (p + 1) ∧ rest n s og rl d p = p :: rest n s (nup1 og d p) (nup1 rl d (s p).2.1.1) (d + 1) (p + 1)) := by
  rcases hW p hp with ⟨q, -⟩ | ⟨-, hc100, hl3, c, e1, e2, e3, e4, e5, e6⟩ | ⟨q, -⟩
  · omega
  · have main : d < 3 ∧ d ≤ lv p ∧ vld n s lv og rl d (c + 1) ∧ rest n s og rl d p = p :: ((List.replicate (s p).2.1.1 (trT s (p + 1) c ++ [c])).flatten ++ rest n s og rl d (c + 1)) := by
      cases d with
      | zero =>
        refine ⟨by omega, by omega, ⟨by omega, bal_past hW hv.2 (by omega) e1 hp h1⟩, ?_⟩
        exact trT_lp h1 e1 e2 e3
      | succ d =>
        obtain ⟨⟨a1, a2, a3, a4, a5, a6, a7, a7', a8, a9, a10⟩, b⟩ := hv
        have hc : p ≠ pcl s (og d) := fun e => by
          rcases hW (og d) a1 with ⟨q, -⟩ | ⟨-, -, -, c, q1, -, -, q2, -⟩ | ⟨q, -⟩
          · omega
          · rw [a3] at q1
            rw [← Option.some.inj q1, ← e] at q2
            omega
          · omega
        have hl := a10 p (by omega) (by omega)
        have hcc := (a9 p (by omega) (by omega) c e1).2
        refine ⟨by omega, hl, ⟨⟨a1, a2, a3, by omega, by omega, a6, a7, a7', a8, bal_past hW a9 (by omega) e1 hp h1, fun k k1 k2 => a10 k (by omega) k2⟩, b⟩, ?_⟩
        show trT s p _ ++ _ = p :: (_ ++ (trT s (c + 1) _ ++ _))
        rw [trT_lp h1 e1 e2 hcc]
        simp only [List.cons_append, List.append_assoc]
    obtain ⟨m1, m2, m3, m4⟩ := main
    refine ⟨c, e1, e2, e3, m1, hc100, m3, m4, fun hr => ?_⟩
    have ec : pcl s p = c := by unfold pcl; rw [e1]; rfl
    have cg : ∀ i, i < d → og i = nup1 og d p i ∧ rl i = nup1 rl d (s p).2.1.1 i := fun i hi => ⟨(nup1_n (by omega)).symm, (nup1_n (by omega)).symm⟩
    refine ⟨?_, ?_⟩
    · refine ⟨?_, ?_⟩
      · rw [nup1_s, nup1_s, ec]
        refine ⟨hp, h1, e1, by omega, by omega, e3, hr, hc100, m2, fun k k1 k2 m hm => ?_, fun k k1 k2 => ?_⟩
        · have := (e6 k (by omega) k2).2 m hm; omega
        · have := (e6 k (by omega) k2).1; omega
      · rw [nup1_s, ec]; exact vld_cg cg m3
    · rw [m4]
      show _ = p :: (trT s (p + 1) (pcl s (nup1 og d p d)) ++ (pcl s (nup1 og d p d) :: ((List.replicate (nup1 rl d (s p).2.1.1 d - 1) (trT s (nup1 og d p d + 1) (pcl s (nup1 og d p d)) ++ [pcl s (nup1 og d p d)])).flatten ++ rest n s (nup1 og d p) (nup1 rl d (s p).2.1.1) d (pcl s (nup1 og d p d) + 1))))
      rw [nup1_s, nup1_s, ec, ← rest_cg cg]
      obtain ⟨r, hr2⟩ : ∃ r, (s p).2.1.1 = r + 1 := ⟨(s p).2.1.1 - 1, by omega⟩
      rw [hr2, List.replicate_succ, List.flatten_cons, show r + 1 - 1 = r by omega]
      simp only [List.append_assoc, List.cons_append, List.nil_append]
  · omega
theorem mv_cl (hW : pWF n s lv) (hv : vld n s lv og rl d p) (hp : p < n) (h2 : (s p).1 = 2) : ∃ e, d = e + 1 ∧ (s p).2.2 = some (og e) ∧ og e < p ∧ 1 ≤ rl e ∧ rl e < 100 ∧ p = pcl s (og e) ∧ vld n s lv og rl e (p + 1) ∧
    rest n s og rl d p = p :: ((List.replicate (rl e - 1) (trT s (og e + 1) p ++ [p])).flatten ++ rest n s og rl e (p + 1)) ∧
    (2 ≤ rl e → vld n s lv og (nup1 rl e (rl e - 1)) d (og e + 1) ∧ rest n s og rl d p = p :: rest n s og (nup1 rl e (rl e - 1)) d (og e + 1)) := by
  rcases hW p hp with ⟨q, -⟩ | ⟨q, -⟩ | ⟨-, o, e1, e2, e3, e4⟩
  · omega
  · omega
  · cases d with
    | zero =>
      have := hv.2 p (by omega) hp o e1
      omega
    | succ e =>
      obtain ⟨⟨a1, a2, a3, a4, a5, a6, a7, a7', a8, a9, a10⟩, b⟩ := hv
      have hc : p = pcl s (og e) := by
        rcases Nat.lt_or_ge p (pcl s (og e)) with q | q
        · have := a9 p (by omega) q o e1
          omega
        · omega
      rw [← hc] at b
      have eo : (s p).2.2 = some (og e) := by rw [hc]; exact hW.sym a1 a3
      refine ⟨e, rfl, eo, a4, a7, a7', hc, b, ?_, fun hr => ⟨⟨?_, ?_⟩, ?_⟩⟩
      · show trT s p (pcl s (og e)) ++ (pcl s (og e) :: ((List.replicate (rl e - 1) (trT s (og e + 1) (pcl s (og e)) ++ [pcl s (og e)])).flatten ++ rest n s og rl e (pcl s (og e) + 1))) = _
        rw [← hc, trT_nil (by omega)]; rfl
      · rw [nup1_s]
        rcases hW (og e) a1 with ⟨q, -⟩ | ⟨-, -, -, c, q1, -, -, -, -, q6⟩ | ⟨q, -⟩
        · omega
        · rw [a3] at q1
          have q1 := Option.some.inj q1
          rw [← q1] at q6
          refine ⟨a1, a2, a3, by omega, by omega, a6, by omega, by omega, a8, fun k k1 k2 m hm => ?_, fun k k1 k2 => ?_⟩
          · have := (q6 k (by omega) k2).2 m hm; omega
          · have := (q6 k (by omega) k2).1; omega
        · omega
      · rw [← hc]
        exact vld_cg (fun i hi => ⟨rfl, (nup1_n (by omega)).symm⟩) b
      · show trT s p (pcl s (og e)) ++ (pcl s (og e) :: ((List.replicate (rl e - 1) (trT s (og e + 1) (pcl s (og e)) ++ [pcl s (og e)])).flatten ++ rest n s og rl e (pcl s (og e) + 1))) = p :: (trT s (og e + 1) (pcl s (og e)) ++ (pcl s (og e) :: ((List.replicate (nup1 rl e (rl e - 1) e - 1) (trT s (og e + 1) (pcl s (og e)) ++ [pcl s (og e)])).flatten ++ rest n s og (nup1 rl e (rl e - 1)) e (pcl s (og e) + 1))))
        rw [nup1_s, ← hc, trT_nil (by omega), ← rest_cg (n := n) (s := s) (p := p + 1) (og := og) (rl := rl) (og' := og) (rl' := nup1 rl e (rl e - 1)) (d := e) (fun i hi => ⟨rfl, (nup1_n (by omega)).symm⟩)]
        obtain ⟨r, hr2⟩ : ∃ r, rl e = r + 2 := ⟨rl e - 2, by omega⟩
        rw [hr2, show r + 2 - 1 = r + 1 by omega, show r + 1 - 1 = r by omega, List.replicate_succ, List.flatten_cons]
        simp only [List.append_assoc, List.cons_append, List.nil_append]
end
