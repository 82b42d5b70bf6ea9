/-! 02e: more rows; words for answers -/
def bi (c : Prop) [Decidable c] : Int32 := if c then 1 else 0
theorem bi_t {c : Prop} [Decidable c] (h : c) : bi c = 1 := if_pos h
theorem bi_f {c : Prop} [Decidable c] (h : ¬ c) : bi c = 0 := if_neg h
theorem bi_01 (c : Prop) [Decidable c] : bi c = 0 ∨ bi c = 1 := by
  unfold bi; split
  · exact Or.inr rfl
  · exact Or.inl rfl
theorem bi_1 {c : Prop} [Decidable c] (h : ¬ bi c = 0) : c := by
  unfold bi at h; split at h
  · assumption
  · exact absurd rfl h
theorem bi_0 {c : Prop} [Decidable c] (h : bi c = 0) : ¬ c := by
  intro q; rw [bi_t q] at h; exact absurd h (by decide)
section XE
variable {z : Prop} {p : Program} {l : Launch} {e : Env} {R : Room} {s : State} {m : MethodId} {args : Array Value} {below : List Frame} {meth : Method} {c : Code} {nL : Nat} {G : xg_G} {O : Heap} {cells slots : Nat} {Q : State → Prop} {n : Nat} {w : Nat → va_E} {L : List (Option Value)} {pc : Nat} {rest : List Value} {cc : ByteArray} {own : String}
theorem g_inc (X : xg_X p m c cc nL s args own G) {i : Nat} {k : Int} {x kv : Int32} (hd : decode cc pc = .ok (.iinc i k, 3)) (hk : Int32.ofInt k = kv) (hx : L[i]? = some (some (.int x))) (hn : i < nL) (kk : gv z p l e R s m args below meth c nL G O cells slots Q n w (L.set i (some (.int (x + kv)))) (pc + 3) rest) : gv z p l e R s m args below meth c nL G O cells slots Q n w L pc rest :=
  g_iinc X hd hx (by rw [hk]) hn kk
theorem xs_out {x : Int32} {hi : Nat} (h31 : hi < 2 ^ 31) (h : ∀ k, k ≤ hi → ¬ x = nI k) : x.toInt < 0 ∨ (hi : Int) < x.toInt := by
  rcases Int.lt_or_le x.toInt 0 with q | q
  · exact Or.inl q
  · obtain ⟨j, hj, e⟩ := nI_of (x := x) (fun hx => by
      have h2 : x.toInt < (0 : Int32).toInt := Int32.lt_iff_toInt_lt.mp hx
      have h3 : (0 : Int32).toInt = 0 := rfl
      omega)
    refine Or.inr ?_
    rcases Nat.lt_or_ge hi j with q2 | q2
    · rw [e, nI_toInt hj]; omega
    · exact absurd e (h j q2)
theorem g_swIn (X : xg_X p m c cc nL s args own G) {dflt lo hi : Int} {offs : Array Int} {len : Nat} {x : Int32} {off : Int} {tgt : Nat} (k : Nat) (hd : decode cc pc = .ok (.tableswitch dflt lo hi offs, len)) (hx : x = nI k) (hk : k < 2 ^ 31) (hlo : lo = 0) (hhi : (k : Int) ≤ hi) (ho : offs[k]? = some off) (ht : (pc : Int) + off = (tgt : Int)) (kk : gv z p l e R s m args below meth c nL G O cells slots Q n w L tgt rest) : gv z p l e R s m args below meth c nL G O cells slots Q n w L pc (.int x :: rest) := by
  subst hx
  subst hlo
  refine g_tabIn X hd (by rw [nI_toInt hk]; omega) (by rw [nI_toInt hk]; omega) ?_ ht kk
  rw [nI_toInt hk, show ((k : Int) - 0).toNat = k by omega]
  exact ho
theorem g_swOut (X : xg_X p m c cc nL s args own G) {dflt lo hi : Int} {offs : Array Int} {len : Nat} {x : Int32} {tgt : Nat} (hn : Nat) (hd : decode cc pc = .ok (.tableswitch dflt lo hi offs, len)) (hlo : lo = 0) (hhi : hi = (hn : Int)) (h31 : hn < 2 ^ 31) (h : ∀ k, k ≤ hn → ¬ x = nI k) (ht : (pc : Int) + dflt = (tgt : Int)) (kk : gv z p l e R s m args below meth c nL G O cells slots Q n w L tgt rest) : gv z p l e R s m args below meth c nL G O cells slots Q n w L pc (.int x :: rest) := by
  subst hlo
  subst hhi
  exact g_tabOut X hd (xs_out h31 h) ht kk
end XE
