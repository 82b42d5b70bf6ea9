/-! 09b: the constructors: every cell as it is made -/
/-- the ints of the made cells at first -/
def t0 : xT := fun k j => if k = 0 then (if j = 7 then 3 else 0) else if k = 4 then (if j = 3 then -1 else 0) else if k = 58 then (upd (upd (upd (upd (upd (upd (upd (upd (fun _ => 0) 0 (-1)) 1 (-1)) 2 (-1)) 3 (-1)) 4 (-1)) 5 (-1)) 6 (-1)) 7 (-1)) j else if k = 76 then (if j = 6 then -1 else if j = 17 then 3 else 0) else if kd k = 1 then (if j = 0 then 2 else 0) else if kd k = 3 then (if j < 4 then -1 else 0) else 0
/-- the cells from a on are those of t0 -/
def xk (G : xg_G) (O : Heap) (w : Nat → va_E) (a : Nat) : Nat → va_E := fun j => if j < a then w j else xd G O t0 j
theorem xg_up_up (w : Nat → va_E) (k : Nat) (a b : va_E) : xg_up (xg_up w k a) k b = xg_up w k b := by
  funext j; unfold xg_up; by_cases h : j = k
  · rw [if_pos h, if_pos h]
  · rw [if_neg h, if_neg h, if_neg h]
theorem xk_0 (G : xg_G) (O : Heap) (w : Nat → va_E) : xk G O w 0 = xd G O t0 := by funext j; unfold xk; rw [if_neg (by omega)]
theorem xk_xd (G : xg_G) (O : Heap) (a : Nat) : xk G O (xd G O t0) a = xd G O t0 := by funext j; unfold xk; split <;> rfl
theorem xall {P : Nat → Prop} {a n : Nat} (h : ∀ q ∈ List.range' a (n - a), P q) {j : Nat} (h1 : ¬ j < a) (h2 : j < n) : P j := h j (List.mem_range'.mpr ⟨j - a, by omega, by omega⟩)
theorem xnil {P : Nat → Prop} : ∀ q ∈ ([] : List Nat), P q := fun _ h => absurd h List.not_mem_nil
theorem xcons {P : Nat → Prop} {a : Nat} {l : List Nat} (h : P a) (h2 : ∀ q ∈ l, P q) : ∀ q ∈ a :: l, P q := List.forall_mem_cons.mpr ⟨h, h2⟩
section XI
variable {z : Prop} {p : Program} {l : Launch} {e : Env} {R : Room} {s : State} {m : MethodId} {args : Array Value} {below : List Frame} {meth : Method} {c : Code} {nL : Nat} {G : xg_G} {O : Heap} {cells slots : Nat} {Q : State → Prop} {n : Nat} {w : Nat → va_E} {L : List (Option Value)} {pc : Nat} {rest : List Value} {cc : ByteArray} {own : String}
theorem g_iastN (X : xg_X p m c cc nL s args own G) {k ln : Nat} {f : Nat → Int32} {i x : Int32} (j : Nat) (hd : decode cc pc = .ok (.iastore, 1)) (hk : k < n) (hw : w k = .inl (G.2 0, ln, .inl f)) (hi : i = nI j) (hj : j < ln) (hln : ln < 1000) (kk : gv z p l e R s m args below meth c nL G O cells slots Q n (xg_up w k (.inl (G.2 0, ln, .inl (upd f j x)))) L (pc + 1) (rest)) : gv z p l e R s m args below meth c nL G O cells slots Q n w L (pc) (.int x :: .int i :: .ref (O.size + k) :: rest) := by
  subst hi
  refine g_iast X hd hk hw rfl (nI_in hj (by omega)) ?_
  rw [nI_clamp (by omega)]
  exact kk
end XI
theorem xq_7 (G : xg_G) (O : Heap) : (Sum.inl (G.2 2, 8, .inr (.inr (.inr (.inr (va_up (va_up (va_up (va_up (va_up (va_up (va_up (va_up (fun _ => none) 0 (some (O.size + 8))) 1 (some (O.size + 10))) 2 (some (O.size + 12))) 3 (some (O.size + 14))) 4 (some (O.size + 16))) 5 (some (O.size + 18))) 6 (some (O.size + 20))) 7 (some (O.size + 22))))))) : va_E) = xd G O t0 7 := by
  have e : (va_up (va_up (va_up (va_up (va_up (va_up (va_up (va_up (fun _ => none) 0 (some (O.size + 8))) 1 (some (O.size + 10))) 2 (some (O.size + 12))) 3 (some (O.size + 14))) 4 (some (O.size + 16))) 5 (some (O.size + 18))) 6 (some (O.size + 20))) 7 (some (O.size + 22))) = (fun j => if j < ln 7 then some (O.size + sr 7 j) else none) := by
    funext j
    match j with
    | 0 => rfl
    | 1 => rfl
    | 2 => rfl
    | 3 => rfl
    | 4 => rfl
    | 5 => rfl
    | 6 => rfl
    | 7 => rfl
    | j + 8 =>
      rw [if_neg (show ¬ j + 8 < ln 7 from by have : ln 7 = 8 := rfl; omega)]
      simp [va_up]
  rw [e]; rfl
theorem xq_56 (G : xg_G) (O : Heap) : (Sum.inl (G.2 3, 8, .inr (.inr (.inr (.inr (va_up (va_up (va_up (va_up (va_up (va_up (va_up (va_up (fun _ => none) 0 (some (O.size + 68))) 1 (some (O.size + 69))) 2 (some (O.size + 70))) 3 (some (O.size + 71))) 4 (some (O.size + 72))) 5 (some (O.size + 73))) 6 (some (O.size + 74))) 7 (some (O.size + 75))))))) : va_E) = xd G O t0 56 := by
  have e : (va_up (va_up (va_up (va_up (va_up (va_up (va_up (va_up (fun _ => none) 0 (some (O.size + 68))) 1 (some (O.size + 69))) 2 (some (O.size + 70))) 3 (some (O.size + 71))) 4 (some (O.size + 72))) 5 (some (O.size + 73))) 6 (some (O.size + 74))) 7 (some (O.size + 75))) = (fun j => if j < ln 56 then some (O.size + sr 56 j) else none) := by
    funext j
    match j with
    | 0 => rfl
    | 1 => rfl
    | 2 => rfl
    | 3 => rfl
    | 4 => rfl
    | 5 => rfl
    | 6 => rfl
    | 7 => rfl
    | j + 8 =>
      rw [if_neg (show ¬ j + 8 < ln 56 from by have : ln 56 = 8 := rfl; omega)]
      simp [va_up]
  rw [e]; rfl
theorem xq_25 (G : xg_G) (O : Heap) : (Sum.inl (G.2 1, 16, .inr (.inr (.inr (.inr (fun i => if i < 16 then some (O.size + 25 + 1 + i) else none))))) : va_E) = xd G O t0 25 := by
  have e : (fun i => if i < 16 then some (O.size + 25 + 1 + i) else none) = (fun j => if j < ln 25 then some (O.size + sr 25 j) else none) := by
    funext j
    have hl : ln 25 = 16 := rfl
    by_cases h : j < 16
    · rw [if_pos h, if_pos (by omega), (kd_row j h).1]; congr 1; omega
    · rw [if_neg h, if_neg (by omega)]
  rw [e]; rfl
theorem xq_44 (G : xg_G) (O : Heap) : (Sum.inl (G.2 1, 8, .inr (.inr (.inr (.inr (fun i => if i < 8 then some (O.size + 44 + 1 + i) else none))))) : va_E) = xd G O t0 44 := by
  have e : (fun i => if i < 8 then some (O.size + 44 + 1 + i) else none) = (fun j => if j < ln 44 then some (O.size + sr 44 j) else none) := by
    funext j
    have hl : ln 44 = 8 := rfl
    by_cases h : j < 8
    · rw [if_pos h, if_pos (by omega), (kd_cost j h).1]; congr 1; omega
    · rw [if_neg h, if_neg (by omega)]
  rw [e]; rfl
theorem xq_59 (G : xg_G) (O : Heap) : (Sum.inl (G.2 1, 8, .inr (.inr (.inr (.inr (fun i => if i < 8 then some (O.size + 59 + 1 + i) else none))))) : va_E) = xd G O t0 59 := by
  have e : (fun i => if i < 8 then some (O.size + 59 + 1 + i) else none) = (fun j => if j < ln 59 then some (O.size + sr 59 j) else none) := by
    funext j
    have hl : ln 59 = 8 := rfl
    by_cases h : j < 8
    · rw [if_pos h, if_pos (by omega), (kd_was j h).1]; congr 1; omega
    · rw [if_neg h, if_neg (by omega)]
  rw [e]; rfl
set_option maxRecDepth 100000 in
set_option maxHeartbeats 4000000 in
theorem k_fill (l : Launch) (G : xg_G) (O : Heap) (w : Nat → va_E) (hw : w 58 = .inl (G.2 0, 8, .inl (fun _ => 0))) : xg_M True l yJ7_fill_53178 cJ7_fill_53178 4 none rmJ7_fill_53178 G O 76 w [.ref (O.size + 58), .int (-1)] 76 0 0 (fun r w2 => r = none ∧ w2 = xg_up w 58 (.inl (G.2 0, 8, .inl (upd (upd (upd (upd (upd (upd (upd (upd (fun _ => 0) 0 (-1)) 1 (-1)) 2 (-1)) 3 (-1)) 4 (-1)) 5 (-1)) 6 (-1)) 7 (-1))))) := by
  refine xg_enter (by decide) 2 rfl rfl ?_
  intro p e s m args below meth c X hr hk hin
  refine g_eq (L2 := [some (.ref (O.size + 58)), some (.int (-1)), none, none]) rfl rfl rfl ?_
  refine g_iconst (pc := 0) (v := 0) X dJ7_fill_53178_0 (by decide) ?_
  refine g_istore_n (pc := 1) X dJ7_fill_53178_1 rfl (by decide) ?_
  refine g_aload_n (pc := 2) X dJ7_fill_53178_2 rfl rfl ?_
  refine g_alen (pc := 3) (v := 8) X 0 .int dJ7_fill_53178_3 (by decide) hw rfl rfl ?_
  refine g_istore_n (pc := 4) X dJ7_fill_53178_4 rfl (by decide) ?_
  refine g_iload_n (pc := 5) X dJ7_fill_53178_5 rfl rfl ?_
  refine g_iload_n (pc := 6) X dJ7_fill_53178_6 rfl rfl ?_
  refine g_icmp_ge (pc := 7) (tgt := 20) X dJ7_fill_53178_7 (by decide) (fun hc => absurd hc (show ¬ (8 : Int32) ≤ 0 by decide)) (fun _ => ?_)
  refine g_aload_n (pc := 10) X dJ7_fill_53178_10 rfl rfl ?_
  refine g_iload_n (pc := 11) X dJ7_fill_53178_11 rfl rfl ?_
  refine g_iload_n (pc := 12) X dJ7_fill_53178_12 rfl rfl ?_
  refine g_iastN (pc := 13) (k := 58) (ln := 8) (f := (fun _ => 0)) X 0 dJ7_fill_53178_13 (by decide) hw (by decide) (by decide) (by decide) ?_
  refine g_inc (pc := 14) (kv := 1) X dJ7_fill_53178_14 (by decide) rfl (by decide) ?_
  refine g_eq (L2 := [some (.ref (O.size + 58)), some (.int (-1)), some (.int 1), some (.int 8)]) rfl rfl rfl ?_
  refine g_goto (pc := 17) (tgt := 5) X dJ7_fill_53178_17 (by decide) ?_
  refine g_iload_n (pc := 5) X dJ7_fill_53178_5 rfl rfl ?_
  refine g_iload_n (pc := 6) X dJ7_fill_53178_6 rfl rfl ?_
  refine g_icmp_ge (pc := 7) (tgt := 20) X dJ7_fill_53178_7 (by decide) (fun hc => absurd hc (show ¬ (8 : Int32) ≤ 1 by decide)) (fun _ => ?_)
  refine g_aload_n (pc := 10) X dJ7_fill_53178_10 rfl rfl ?_
  refine g_iload_n (pc := 11) X dJ7_fill_53178_11 rfl rfl ?_
  refine g_iload_n (pc := 12) X dJ7_fill_53178_12 rfl rfl ?_
  refine g_iastN (pc := 13) (k := 58) (ln := 8) (f := (upd (fun _ => 0) 0 (-1))) X 1 dJ7_fill_53178_13 (by decide) rfl (by decide) (by decide) (by decide) ?_
  rw [xg_up_up]
  refine g_inc (pc := 14) (kv := 1) X dJ7_fill_53178_14 (by decide) rfl (by decide) ?_
  refine g_eq (L2 := [some (.ref (O.size + 58)), some (.int (-1)), some (.int 2), some (.int 8)]) rfl rfl rfl ?_
  refine g_goto (pc := 17) (tgt := 5) X dJ7_fill_53178_17 (by decide) ?_
  refine g_iload_n (pc := 5) X dJ7_fill_53178_5 rfl rfl ?_
  refine g_iload_n (pc := 6) X dJ7_fill_53178_6 rfl rfl ?_
  refine g_icmp_ge (pc := 7) (tgt := 20) X dJ7_fill_53178_7 (by decide) (fun hc => absurd hc (show ¬ (8 : Int32) ≤ 2 by decide)) (fun _ => ?_)
  refine g_aload_n (pc := 10) X dJ7_fill_53178_10 rfl rfl ?_
  refine g_iload_n (pc := 11) X dJ7_fill_53178_11 rfl rfl ?_
  refine g_iload_n (pc := 12) X dJ7_fill_53178_12 rfl rfl ?_
  refine g_iastN (pc := 13) (k := 58) (ln := 8) (f := (upd (upd (fun _ => 0) 0 (-1)) 1 (-1))) X 2 dJ7_fill_53178_13 (by decide) rfl (by decide) (by decide) (by decide) ?_
  rw [xg_up_up]
  refine g_inc (pc := 14) (kv := 1) X dJ7_fill_53178_14 (by decide) rfl (by decide) ?_
  refine g_eq (L2 := [some (.ref (O.size + 58)), some (.int (-1)), some (.int 3), some (.int 8)]) rfl rfl rfl ?_
  refine g_goto (pc := 17) (tgt := 5) X dJ7_fill_53178_17 (by decide) ?_
  refine g_iload_n (pc := 5) X dJ7_fill_53178_5 rfl rfl ?_
  refine g_iload_n (pc := 6) X dJ7_fill_53178_6 rfl rfl ?_
  refine g_icmp_ge (pc := 7) (tgt := 20) X dJ7_fill_53178_7 (by decide) (fun hc => absurd hc (show ¬ (8 : Int32) ≤ 3 by decide)) (fun _ => ?_)
  refine g_aload_n (pc := 10) X dJ7_fill_53178_10 rfl rfl ?_
  refine g_iload_n (pc := 11) X dJ7_fill_53178_11 rfl rfl ?_
  refine g_iload_n (pc := 12) X dJ7_fill_53178_12 rfl rfl ?_
  refine g_iastN (pc := 13) (k := 58) (ln := 8) (f := (upd (upd (upd (fun _ => 0) 0 (-1)) 1 (-1)) 2 (-1))) X 3 dJ7_fill_53178_13 (by decide) rfl (by decide) (by decide) (by decide) ?_
  rw [xg_up_up]
  refine g_inc (pc := 14) (kv := 1) X dJ7_fill_53178_14 (by decide) rfl (by decide) ?_
  refine g_eq (L2 := [some (.ref (O.size + 58)), some (.int (-1)), some (.int 4), some (.int 8)]) rfl rfl rfl ?_
  refine g_goto (pc := 17) (tgt := 5) X dJ7_fill_53178_17 (by decide) ?_
  refine g_iload_n (pc := 5) X dJ7_fill_53178_5 rfl rfl ?_
  refine g_iload_n (pc := 6) X dJ7_fill_53178_6 rfl rfl ?_
  refine g_icmp_ge (pc := 7) (tgt := 20) X dJ7_fill_53178_7 (by decide) (fun hc => absurd hc (show ¬ (8 : Int32) ≤ 4 by decide)) (fun _ => ?_)
  refine g_aload_n (pc := 10) X dJ7_fill_53178_10 rfl rfl ?_
  refine g_iload_n (pc := 11) X dJ7_fill_53178_11 rfl rfl ?_
  refine g_iload_n (pc := 12) X dJ7_fill_53178_12 rfl rfl ?_
  refine g_iastN (pc := 13) (k := 58) (ln := 8) (f := (upd (upd (upd (upd (fun _ => 0) 0 (-1)) 1 (-1)) 2 (-1)) 3 (-1))) X 4 dJ7_fill_53178_13 (by decide) rfl (by decide) (by decide) (by decide) ?_
  rw [xg_up_up]
  refine g_inc (pc := 14) (kv := 1) X dJ7_fill_53178_14 (by decide) rfl (by decide) ?_
  refine g_eq (L2 := [some (.ref (O.size + 58)), some (.int (-1)), some (.int 5), some (.int 8)]) rfl rfl rfl ?_
  refine g_goto (pc := 17) (tgt := 5) X dJ7_fill_53178_17 (by decide) ?_
  refine g_iload_n (pc := 5) X dJ7_fill_53178_5 rfl rfl ?_
  refine g_iload_n (pc := 6) X dJ7_fill_53178_6 rfl rfl ?_
  refine g_icmp_ge (pc := 7) (tgt := 20) X dJ7_fill_53178_7 (by decide) (fun hc => absurd hc (show ¬ (8 : Int32) ≤ 5 by decide)) (fun _ => ?_)
  refine g_aload_n (pc := 10) X dJ7_fill_53178_10 rfl rfl ?_
  refine g_iload_n (pc := 11) X dJ7_fill_53178_11 rfl rfl ?_
  refine g_iload_n (pc := 12) X dJ7_fill_53178_12 rfl rfl ?_
  refine g_iastN (pc := 13) (k := 58) (ln := 8) (f := (upd (upd (upd (upd (upd (fun _ => 0) 0 (-1)) 1 (-1)) 2 (-1)) 3 (-1)) 4 (-1))) X 5 dJ7_fill_53178_13 (by decide) rfl (by decide) (by decide) (by decide) ?_
  rw [xg_up_up]
  refine g_inc (pc := 14) (kv := 1) X dJ7_fill_53178_14 (by decide) rfl (by decide) ?_
  refine g_eq (L2 := [some (.ref (O.size + 58)), some (.int (-1)), some (.int 6), some (.int 8)]) rfl rfl rfl ?_
  refine g_goto (pc := 17) (tgt := 5) X dJ7_fill_53178_17 (by decide) ?_
  refine g_iload_n (pc := 5) X dJ7_fill_53178_5 rfl rfl ?_
  refine g_iload_n (pc := 6) X dJ7_fill_53178_6 rfl rfl ?_
  refine g_icmp_ge (pc := 7) (tgt := 20) X dJ7_fill_53178_7 (by decide) (fun hc => absurd hc (show ¬ (8 : Int32) ≤ 6 by decide)) (fun _ => ?_)
  refine g_aload_n (pc := 10) X dJ7_fill_53178_10 rfl rfl ?_
  refine g_iload_n (pc := 11) X dJ7_fill_53178_11 rfl rfl ?_
  refine g_iload_n (pc := 12) X dJ7_fill_53178_12 rfl rfl ?_
  refine g_iastN (pc := 13) (k := 58) (ln := 8) (f := (upd (upd (upd (upd (upd (upd (fun _ => 0) 0 (-1)) 1 (-1)) 2 (-1)) 3 (-1)) 4 (-1)) 5 (-1))) X 6 dJ7_fill_53178_13 (by decide) rfl (by decide) (by decide) (by decide) ?_
  rw [xg_up_up]
  refine g_inc (pc := 14) (kv := 1) X dJ7_fill_53178_14 (by decide) rfl (by decide) ?_
  refine g_eq (L2 := [some (.ref (O.size + 58)), some (.int (-1)), some (.int 7), some (.int 8)]) rfl rfl rfl ?_
  refine g_goto (pc := 17) (tgt := 5) X dJ7_fill_53178_17 (by decide) ?_
  refine g_iload_n (pc := 5) X dJ7_fill_53178_5 rfl rfl ?_
  refine g_iload_n (pc := 6) X dJ7_fill_53178_6 rfl rfl ?_
  refine g_icmp_ge (pc := 7) (tgt := 20) X dJ7_fill_53178_7 (by decide) (fun hc => absurd hc (show ¬ (8 : Int32) ≤ 7 by decide)) (fun _ => ?_)
  refine g_aload_n (pc := 10) X dJ7_fill_53178_10 rfl rfl ?_
  refine g_iload_n (pc := 11) X dJ7_fill_53178_11 rfl rfl ?_
  refine g_iload_n (pc := 12) X dJ7_fill_53178_12 rfl rfl ?_
  refine g_iastN (pc := 13) (k := 58) (ln := 8) (f := (upd (upd (upd (upd (upd (upd (upd (fun _ => 0) 0 (-1)) 1 (-1)) 2 (-1)) 3 (-1)) 4 (-1)) 5 (-1)) 6 (-1))) X 7 dJ7_fill_53178_13 (by decide) rfl (by decide) (by decide) (by decide) ?_
  rw [xg_up_up]
  refine g_inc (pc := 14) (kv := 1) X dJ7_fill_53178_14 (by decide) rfl (by decide) ?_
  refine g_eq (L2 := [some (.ref (O.size + 58)), some (.int (-1)), some (.int 8), some (.int 8)]) rfl rfl rfl ?_
  refine g_goto (pc := 17) (tgt := 5) X dJ7_fill_53178_17 (by decide) ?_
  refine g_iload_n (pc := 5) X dJ7_fill_53178_5 rfl rfl ?_
  refine g_iload_n (pc := 6) X dJ7_fill_53178_6 rfl rfl ?_
  refine g_icmp_ge (pc := 7) (tgt := 20) X dJ7_fill_53178_7 (by decide) (fun _ => ?_) (fun hc => absurd (show (8 : Int32) ≤ 8 by decide) hc)
  exact g_vret (pc := 20) X hr hk dJ7_fill_53178_20 ⟨rfl, rfl⟩
abbrev rmX6_init : Room := { frames := 1, cells := 1, slots := 400, locals := 48 }
set_option maxRecDepth 100000 in
set_option maxHeartbeats 4000000 in
theorem k_X6_1 (l : Launch) (G : xg_G) (O : Heap) (w : Nat → va_E) (hw : w 1 = .inr (6, [.null, .int 0])) : xg_M True l yX6_init cX6_init 1 none rmX6_init G O 2 w [.ref (O.size + 1)] 3 1 400 (fun r w2 => r = none ∧ w2 = xk G O w 1) := by
  refine xg_enter (by decide) 0 rfl rfl ?_
  intro p e s m args below meth c X hr hk hin
  refine g_eq (L2 := [some (.ref (O.size + 1))]) rfl rfl rfl ?_
  refine g_aload_n (pc := 0) X dX6_init_0 rfl rfl ?_
  refine g_objInit (pc := 1) X dX6_init_1 xw_59 xw_52 xw_53 (by decide) (Nat.le_of_ble_eq_true rfl) ?_
  refine g_aload_n (pc := 4) X dX6_init_4 rfl rfl ?_
  refine g_sipush (pc := 5) (v := 400) X dX6_init_5 (by decide) ?_
  refine g_newi (pc := 8) X 400 dX6_init_8 xw_68 (by decide) (by decide) (by decide) ?_
  refine g_put (pc := 10) (k := 1) (j := 0) (ci := 6) (fs := [.null, .int 0]) X tyX6 dX6_init_10 (by decide) hw rfl xu_6 tyX6_ok nmX6 (by decide) (show 0 < 2 by decide) xw_60 (Or.inr ⟨rfl, hin, rfl⟩) rfl rfl rfl ?_
  refine g_aload_n (pc := 13) X dX6_init_13 rfl rfl ?_
  refine g_iconst (pc := 14) (v := 0) X dX6_init_14 (by decide) ?_
  refine g_put (pc := 15) (k := 1) (j := 1) (ci := 6) (fs := [.ref (O.size + 2), .int 0]) X tyX6 dX6_init_15 (by decide) rfl rfl xu_6 tyX6_ok nmX6 (by decide) (show 1 < 2 by decide) xw_61 (Or.inl rfl) rfl rfl rfl ?_
  refine g_eqn (w2 := xk G O w 1) (fun j hj => ?_) ?_
  · by_cases hja : j < 1
    · unfold xk; rw [if_pos hja]
      have hne : ∀ k, 1 ≤ k → ¬ j = k := fun k hk he => by omega
      have hlt : ∀ k, 1 ≤ k → j < k := fun k hk => by omega
      simp only [xg_up, xg_mn, xk]
      repeat (first | rw [if_neg (hne _ (by decide))] | rw [if_pos (hlt _ (by decide))])
    · refine xall (n := 3) (a := 1) (P := fun j => _ = xk G O w 1 j) ?_ hja hj
      show ∀ q ∈ [1, 2], _
      exact xcons rfl (xcons rfl (xnil))
  exact g_vret (pc := 18) X hr hk dX6_init_18 ⟨rfl, rfl⟩
abbrev rmX7_init : Room := { frames := 1, cells := 1, slots := 160, locals := 48 }
set_option maxRecDepth 100000 in
set_option maxHeartbeats 4000000 in
theorem k_X7_4 (l : Launch) (G : xg_G) (O : Heap) (w : Nat → va_E) (hw : w 4 = .inr (7, [.null, .int 0, .int 0, .int 0])) : xg_M True l yX7_init cX7_init 1 none rmX7_init G O 5 w [.ref (O.size + 4)] 6 1 160 (fun r w2 => r = none ∧ w2 = xk G O w 4) := by
  refine xg_enter (by decide) 0 rfl rfl ?_
  intro p e s m args below meth c X hr hk hin
  refine g_eq (L2 := [some (.ref (O.size + 4))]) rfl rfl rfl ?_
  refine g_aload_n (pc := 0) X dX7_init_0 rfl rfl ?_
  refine g_objInit (pc := 1) X dX7_init_1 xw_80 xw_52 xw_53 (by decide) (Nat.le_of_ble_eq_true rfl) ?_
  refine g_aload_n (pc := 4) X dX7_init_4 rfl rfl ?_
  refine g_sipush (pc := 5) (v := 160) X dX7_init_5 (by decide) ?_
  refine g_newi (pc := 8) X 160 dX7_init_8 xw_68 (by decide) (by decide) (by decide) ?_
  refine g_put (pc := 10) (k := 4) (j := 0) (ci := 7) (fs := [.null, .int 0, .int 0, .int 0]) X tyX7 dX7_init_10 (by decide) hw rfl xu_7 tyX7_ok nmX7 (by decide) (show 0 < 4 by decide) xw_81 (Or.inr ⟨rfl, hin, rfl⟩) rfl rfl rfl ?_
  refine g_aload_n (pc := 13) X dX7_init_13 rfl rfl ?_
  refine g_iconst (pc := 14) (v := 0) X dX7_init_14 (by decide) ?_
  refine g_put (pc := 15) (k := 4) (j := 1) (ci := 7) (fs := [.ref (O.size + 5), .int 0, .int 0, .int 0]) X tyX7 dX7_init_15 (by decide) rfl rfl xu_7 tyX7_ok nmX7 (by decide) (show 1 < 4 by decide) xw_82 (Or.inl rfl) rfl rfl rfl ?_
  refine g_aload_n (pc := 18) X dX7_init_18 rfl rfl ?_
  refine g_iconst (pc := 19) (v := 0) X dX7_init_19 (by decide) ?_
  refine g_put (pc := 20) (k := 4) (j := 2) (ci := 7) (fs := [.ref (O.size + 5), .int 0, .int 0, .int 0]) X tyX7 dX7_init_20 (by decide) rfl rfl xu_7 tyX7_ok nmX7 (by decide) (show 2 < 4 by decide) xw_84 (Or.inl rfl) rfl rfl rfl ?_
  refine g_aload_n (pc := 23) X dX7_init_23 rfl rfl ?_
  refine g_iconst (pc := 24) (v := (-1)) X dX7_init_24 (by decide) ?_
  refine g_put (pc := 25) (k := 4) (j := 3) (ci := 7) (fs := [.ref (O.size + 5), .int 0, .int 0, .int 0]) X tyX7 dX7_init_25 (by decide) rfl rfl xu_7 tyX7_ok nmX7 (by decide) (show 3 < 4 by decide) xw_86 (Or.inl rfl) rfl rfl rfl ?_
  refine g_eqn (w2 := xk G O w 4) (fun j hj => ?_) ?_
  · by_cases hja : j < 4
    · unfold xk; rw [if_pos hja]
      have hne : ∀ k, 4 ≤ k → ¬ j = k := fun k hk he => by omega
      have hlt : ∀ k, 4 ≤ k → j < k := fun k hk => by omega
      simp only [xg_up, xg_mn, xk]
      repeat (first | rw [if_neg (hne _ (by decide))] | rw [if_pos (hlt _ (by decide))])
    · refine xall (n := 6) (a := 4) (P := fun j => _ = xk G O w 4 j) ?_ hja hj
      show ∀ q ∈ [4, 5], _
      exact xcons rfl (xcons rfl (xnil))
  exact g_vret (pc := 28) X hr hk dX7_init_28 ⟨rfl, rfl⟩
abbrev rmX1_init : Room := { frames := 1, cells := 1, slots := 16, locals := 48 }
set_option maxRecDepth 100000 in
set_option maxHeartbeats 4000000 in
theorem k_X1_8 (l : Launch) (G : xg_G) (O : Heap) (w : Nat → va_E) (hw : w 8 = .inr (1, [.int 0, .int 0, .int 0, .null])) : xg_M True l yX1_init cX1_init 1 none rmX1_init G O 9 w [.ref (O.size + 8)] 10 1 16 (fun r w2 => r = none ∧ w2 = xk G O w 8) := by
  refine xg_enter (by decide) 0 rfl rfl ?_
  intro p e s m args below meth c X hr hk hin
  refine g_eq (L2 := [some (.ref (O.size + 8))]) rfl rfl rfl ?_
  refine g_aload_n (pc := 0) X dX1_init_0 rfl rfl ?_
  refine g_objInit (pc := 1) X dX1_init_1 xw_109 xw_52 xw_53 (by decide) (Nat.le_of_ble_eq_true rfl) ?_
  refine g_aload_n (pc := 4) X dX1_init_4 rfl rfl ?_
  refine g_iconst (pc := 5) (v := 2) X dX1_init_5 (by decide) ?_
  refine g_put (pc := 6) (k := 8) (j := 0) (ci := 1) (fs := [.int 0, .int 0, .int 0, .null]) X tyX1 dX1_init_6 (by decide) hw rfl xu_1 tyX1_ok nmX1 (by decide) (show 0 < 4 by decide) xw_110 (Or.inl rfl) rfl rfl rfl ?_
  refine g_aload_n (pc := 9) X dX1_init_9 rfl rfl ?_
  refine g_iconst (pc := 10) (v := 0) X dX1_init_10 (by decide) ?_
  refine g_put (pc := 11) (k := 8) (j := 1) (ci := 1) (fs := [.int 2, .int 0, .int 0, .null]) X tyX1 dX1_init_11 (by decide) rfl rfl xu_1 tyX1_ok nmX1 (by decide) (show 1 < 4 by decide) xw_112 (Or.inl rfl) rfl rfl rfl ?_
  refine g_aload_n (pc := 14) X dX1_init_14 rfl rfl ?_
  refine g_iconst (pc := 15) (v := 0) X dX1_init_15 (by decide) ?_
  refine g_put (pc := 16) (k := 8) (j := 2) (ci := 1) (fs := [.int 2, .int 0, .int 0, .null]) X tyX1 dX1_init_16 (by decide) rfl rfl xu_1 tyX1_ok nmX1 (by decide) (show 2 < 4 by decide) xw_115 (Or.inl rfl) rfl rfl rfl ?_
  refine g_aload_n (pc := 19) X dX1_init_19 rfl rfl ?_
  refine g_bipush (pc := 20) (v := 16) X dX1_init_20 (by decide) ?_
  refine g_newi (pc := 22) X 16 dX1_init_22 xw_68 (by decide) (by decide) (by decide) ?_
  refine g_put (pc := 24) (k := 8) (j := 3) (ci := 1) (fs := [.int 2, .int 0, .int 0, .null]) X tyX1 dX1_init_24 (by decide) rfl rfl xu_1 tyX1_ok nmX1 (by decide) (show 3 < 4 by decide) xw_117 (Or.inr ⟨rfl, hin, rfl⟩) rfl rfl rfl ?_
  refine g_eqn (w2 := xk G O w 8) (fun j hj => ?_) ?_
  · by_cases hja : j < 8
    · unfold xk; rw [if_pos hja]
      have hne : ∀ k, 8 ≤ k → ¬ j = k := fun k hk he => by omega
      have hlt : ∀ k, 8 ≤ k → j < k := fun k hk => by omega
      simp only [xg_up, xg_mn, xk]
      repeat (first | rw [if_neg (hne _ (by decide))] | rw [if_pos (hlt _ (by decide))])
    · refine xall (n := 10) (a := 8) (P := fun j => _ = xk G O w 8 j) ?_ hja hj
      show ∀ q ∈ [8, 9], _
      exact xcons rfl (xcons rfl (xnil))
  exact g_vret (pc := 27) X hr hk dX1_init_27 ⟨rfl, rfl⟩
set_option maxRecDepth 100000 in
set_option maxHeartbeats 4000000 in
theorem k_X1_10 (l : Launch) (G : xg_G) (O : Heap) (w : Nat → va_E) (hw : w 10 = .inr (1, [.int 0, .int 0, .int 0, .null])) : xg_M True l yX1_init cX1_init 1 none rmX1_init G O 11 w [.ref (O.size + 10)] 12 1 16 (fun r w2 => r = none ∧ w2 = xk G O w 10) := by
  refine xg_enter (by decide) 0 rfl rfl ?_
  intro p e s m args below meth c X hr hk hin
  refine g_eq (L2 := [some (.ref (O.size + 10))]) rfl rfl rfl ?_
  refine g_aload_n (pc := 0) X dX1_init_0 rfl rfl ?_
  refine g_objInit (pc := 1) X dX1_init_1 xw_109 xw_52 xw_53 (by decide) (Nat.le_of_ble_eq_true rfl) ?_
  refine g_aload_n (pc := 4) X dX1_init_4 rfl rfl ?_
  refine g_iconst (pc := 5) (v := 2) X dX1_init_5 (by decide) ?_
  refine g_put (pc := 6) (k := 10) (j := 0) (ci := 1) (fs := [.int 0, .int 0, .int 0, .null]) X tyX1 dX1_init_6 (by decide) hw rfl xu_1 tyX1_ok nmX1 (by decide) (show 0 < 4 by decide) xw_110 (Or.inl rfl) rfl rfl rfl ?_
  refine g_aload_n (pc := 9) X dX1_init_9 rfl rfl ?_
  refine g_iconst (pc := 10) (v := 0) X dX1_init_10 (by decide) ?_
  refine g_put (pc := 11) (k := 10) (j := 1) (ci := 1) (fs := [.int 2, .int 0, .int 0, .null]) X tyX1 dX1_init_11 (by decide) rfl rfl xu_1 tyX1_ok nmX1 (by decide) (show 1 < 4 by decide) xw_112 (Or.inl rfl) rfl rfl rfl ?_
  refine g_aload_n (pc := 14) X dX1_init_14 rfl rfl ?_
  refine g_iconst (pc := 15) (v := 0) X dX1_init_15 (by decide) ?_
  refine g_put (pc := 16) (k := 10) (j := 2) (ci := 1) (fs := [.int 2, .int 0, .int 0, .null]) X tyX1 dX1_init_16 (by decide) rfl rfl xu_1 tyX1_ok nmX1 (by decide) (show 2 < 4 by decide) xw_115 (Or.inl rfl) rfl rfl rfl ?_
  refine g_aload_n (pc := 19) X dX1_init_19 rfl rfl ?_
  refine g_bipush (pc := 20) (v := 16) X dX1_init_20 (by decide) ?_
  refine g_newi (pc := 22) X 16 dX1_init_22 xw_68 (by decide) (by decide) (by decide) ?_
  refine g_put (pc := 24) (k := 10) (j := 3) (ci := 1) (fs := [.int 2, .int 0, .int 0, .null]) X tyX1 dX1_init_24 (by decide) rfl rfl xu_1 tyX1_ok nmX1 (by decide) (show 3 < 4 by decide) xw_117 (Or.inr ⟨rfl, hin, rfl⟩) rfl rfl rfl ?_
  refine g_eqn (w2 := xk G O w 10) (fun j hj => ?_) ?_
  · by_cases hja : j < 10
    · unfold xk; rw [if_pos hja]
      have hne : ∀ k, 10 ≤ k → ¬ j = k := fun k hk he => by omega
      have hlt : ∀ k, 10 ≤ k → j < k := fun k hk => by omega
      simp only [xg_up, xg_mn, xk]
      repeat (first | rw [if_neg (hne _ (by decide))] | rw [if_pos (hlt _ (by decide))])
    · refine xall (n := 12) (a := 10) (P := fun j => _ = xk G O w 10 j) ?_ hja hj
      show ∀ q ∈ [10, 11], _
      exact xcons rfl (xcons rfl (xnil))
  exact g_vret (pc := 27) X hr hk dX1_init_27 ⟨rfl, rfl⟩
set_option maxRecDepth 100000 in
set_option maxHeartbeats 4000000 in
theorem k_X1_12 (l : Launch) (G : xg_G) (O : Heap) (w : Nat → va_E) (hw : w 12 = .inr (1, [.int 0, .int 0, .int 0, .null])) : xg_M True l yX1_init cX1_init 1 none rmX1_init G O 13 w [.ref (O.size + 12)] 14 1 16 (fun r w2 => r = none ∧ w2 = xk G O w 12) := by
  refine xg_enter (by decide) 0 rfl rfl ?_
  intro p e s m args below meth c X hr hk hin
  refine g_eq (L2 := [some (.ref (O.size + 12))]) rfl rfl rfl ?_
  refine g_aload_n (pc := 0) X dX1_init_0 rfl rfl ?_
  refine g_objInit (pc := 1) X dX1_init_1 xw_109 xw_52 xw_53 (by decide) (Nat.le_of_ble_eq_true rfl) ?_
  refine g_aload_n (pc := 4) X dX1_init_4 rfl rfl ?_
  refine g_iconst (pc := 5) (v := 2) X dX1_init_5 (by decide) ?_
  refine g_put (pc := 6) (k := 12) (j := 0) (ci := 1) (fs := [.int 0, .int 0, .int 0, .null]) X tyX1 dX1_init_6 (by decide) hw rfl xu_1 tyX1_ok nmX1 (by decide) (show 0 < 4 by decide) xw_110 (Or.inl rfl) rfl rfl rfl ?_
  refine g_aload_n (pc := 9) X dX1_init_9 rfl rfl ?_
  refine g_iconst (pc := 10) (v := 0) X dX1_init_10 (by decide) ?_
  refine g_put (pc := 11) (k := 12) (j := 1) (ci := 1) (fs := [.int 2, .int 0, .int 0, .null]) X tyX1 dX1_init_11 (by decide) rfl rfl xu_1 tyX1_ok nmX1 (by decide) (show 1 < 4 by decide) xw_112 (Or.inl rfl) rfl rfl rfl ?_
  refine g_aload_n (pc := 14) X dX1_init_14 rfl rfl ?_
  refine g_iconst (pc := 15) (v := 0) X dX1_init_15 (by decide) ?_
  refine g_put (pc := 16) (k := 12) (j := 2) (ci := 1) (fs := [.int 2, .int 0, .int 0, .null]) X tyX1 dX1_init_16 (by decide) rfl rfl xu_1 tyX1_ok nmX1 (by decide) (show 2 < 4 by decide) xw_115 (Or.inl rfl) rfl rfl rfl ?_
  refine g_aload_n (pc := 19) X dX1_init_19 rfl rfl ?_
  refine g_bipush (pc := 20) (v := 16) X dX1_init_20 (by decide) ?_
  refine g_newi (pc := 22) X 16 dX1_init_22 xw_68 (by decide) (by decide) (by decide) ?_
  refine g_put (pc := 24) (k := 12) (j := 3) (ci := 1) (fs := [.int 2, .int 0, .int 0, .null]) X tyX1 dX1_init_24 (by decide) rfl rfl xu_1 tyX1_ok nmX1 (by decide) (show 3 < 4 by decide) xw_117 (Or.inr ⟨rfl, hin, rfl⟩) rfl rfl rfl ?_
  refine g_eqn (w2 := xk G O w 12) (fun j hj => ?_) ?_
  · by_cases hja : j < 12
    · unfold xk; rw [if_pos hja]
      have hne : ∀ k, 12 ≤ k → ¬ j = k := fun k hk he => by omega
      have hlt : ∀ k, 12 ≤ k → j < k := fun k hk => by omega
      simp only [xg_up, xg_mn, xk]
      repeat (first | rw [if_neg (hne _ (by decide))] | rw [if_pos (hlt _ (by decide))])
    · refine xall (n := 14) (a := 12) (P := fun j => _ = xk G O w 12 j) ?_ hja hj
      show ∀ q ∈ [12, 13], _
      exact xcons rfl (xcons rfl (xnil))
  exact g_vret (pc := 27) X hr hk dX1_init_27 ⟨rfl, rfl⟩
set_option maxRecDepth 100000 in
set_option maxHeartbeats 4000000 in
theorem k_X1_14 (l : Launch) (G : xg_G) (O : Heap) (w : Nat → va_E) (hw : w 14 = .inr (1, [.int 0, .int 0, .int 0, .null])) : xg_M True l yX1_init cX1_init 1 none rmX1_init G O 15 w [.ref (O.size + 14)] 16 1 16 (fun r w2 => r = none ∧ w2 = xk G O w 14) := by
  refine xg_enter (by decide) 0 rfl rfl ?_
  intro p e s m args below meth c X hr hk hin
  refine g_eq (L2 := [some (.ref (O.size + 14))]) rfl rfl rfl ?_
  refine g_aload_n (pc := 0) X dX1_init_0 rfl rfl ?_
  refine g_objInit (pc := 1) X dX1_init_1 xw_109 xw_52 xw_53 (by decide) (Nat.le_of_ble_eq_true rfl) ?_
  refine g_aload_n (pc := 4) X dX1_init_4 rfl rfl ?_
  refine g_iconst (pc := 5) (v := 2) X dX1_init_5 (by decide) ?_
  refine g_put (pc := 6) (k := 14) (j := 0) (ci := 1) (fs := [.int 0, .int 0, .int 0, .null]) X tyX1 dX1_init_6 (by decide) hw rfl xu_1 tyX1_ok nmX1 (by decide) (show 0 < 4 by decide) xw_110 (Or.inl rfl) rfl rfl rfl ?_
  refine g_aload_n (pc := 9) X dX1_init_9 rfl rfl ?_
  refine g_iconst (pc := 10) (v := 0) X dX1_init_10 (by decide) ?_
  refine g_put (pc := 11) (k := 14) (j := 1) (ci := 1) (fs := [.int 2, .int 0, .int 0, .null]) X tyX1 dX1_init_11 (by decide) rfl rfl xu_1 tyX1_ok nmX1 (by decide) (show 1 < 4 by decide) xw_112 (Or.inl rfl) rfl rfl rfl ?_
  refine g_aload_n (pc := 14) X dX1_init_14 rfl rfl ?_
  refine g_iconst (pc := 15) (v := 0) X dX1_init_15 (by decide) ?_
  refine g_put (pc := 16) (k := 14) (j := 2) (ci := 1) (fs := [.int 2, .int 0, .int 0, .null]) X tyX1 dX1_init_16 (by decide) rfl rfl xu_1 tyX1_ok nmX1 (by decide) (show 2 < 4 by decide) xw_115 (Or.inl rfl) rfl rfl rfl ?_
  refine g_aload_n (pc := 19) X dX1_init_19 rfl rfl ?_
  refine g_bipush (pc := 20) (v := 16) X dX1_init_20 (by decide) ?_
  refine g_newi (pc := 22) X 16 dX1_init_22 xw_68 (by decide) (by decide) (by decide) ?_
  refine g_put (pc := 24) (k := 14) (j := 3) (ci := 1) (fs := [.int 2, .int 0, .int 0, .null]) X tyX1 dX1_init_24 (by decide) rfl rfl xu_1 tyX1_ok nmX1 (by decide) (show 3 < 4 by decide) xw_117 (Or.inr ⟨rfl, hin, rfl⟩) rfl rfl rfl ?_
  refine g_eqn (w2 := xk G O w 14) (fun j hj => ?_) ?_
  · by_cases hja : j < 14
    · unfold xk; rw [if_pos hja]
      have hne : ∀ k, 14 ≤ k → ¬ j = k := fun k hk he => by omega
      have hlt : ∀ k, 14 ≤ k → j < k := fun k hk => by omega
      simp only [xg_up, xg_mn, xk]
      repeat (first | rw [if_neg (hne _ (by decide))] | rw [if_pos (hlt _ (by decide))])
    · refine xall (n := 16) (a := 14) (P := fun j => _ = xk G O w 14 j) ?_ hja hj
      show ∀ q ∈ [14, 15], _
      exact xcons rfl (xcons rfl (xnil))
  exact g_vret (pc := 27) X hr hk dX1_init_27 ⟨rfl, rfl⟩
set_option maxRecDepth 100000 in
set_option maxHeartbeats 4000000 in
theorem k_X1_16 (l : Launch) (G : xg_G) (O : Heap) (w : Nat → va_E) (hw : w 16 = .inr (1, [.int 0, .int 0, .int 0, .null])) : xg_M True l yX1_init cX1_init 1 none rmX1_init G O 17 w [.ref (O.size + 16)] 18 1 16 (fun r w2 => r = none ∧ w2 = xk G O w 16) := by
  refine xg_enter (by decide) 0 rfl rfl ?_
  intro p e s m args below meth c X hr hk hin
  refine g_eq (L2 := [some (.ref (O.size + 16))]) rfl rfl rfl ?_
  refine g_aload_n (pc := 0) X dX1_init_0 rfl rfl ?_
  refine g_objInit (pc := 1) X dX1_init_1 xw_109 xw_52 xw_53 (by decide) (Nat.le_of_ble_eq_true rfl) ?_
  refine g_aload_n (pc := 4) X dX1_init_4 rfl rfl ?_
  refine g_iconst (pc := 5) (v := 2) X dX1_init_5 (by decide) ?_
  refine g_put (pc := 6) (k := 16) (j := 0) (ci := 1) (fs := [.int 0, .int 0, .int 0, .null]) X tyX1 dX1_init_6 (by decide) hw rfl xu_1 tyX1_ok nmX1 (by decide) (show 0 < 4 by decide) xw_110 (Or.inl rfl) rfl rfl rfl ?_
  refine g_aload_n (pc := 9) X dX1_init_9 rfl rfl ?_
  refine g_iconst (pc := 10) (v := 0) X dX1_init_10 (by decide) ?_
  refine g_put (pc := 11) (k := 16) (j := 1) (ci := 1) (fs := [.int 2, .int 0, .int 0, .null]) X tyX1 dX1_init_11 (by decide) rfl rfl xu_1 tyX1_ok nmX1 (by decide) (show 1 < 4 by decide) xw_112 (Or.inl rfl) rfl rfl rfl ?_
  refine g_aload_n (pc := 14) X dX1_init_14 rfl rfl ?_
  refine g_iconst (pc := 15) (v := 0) X dX1_init_15 (by decide) ?_
  refine g_put (pc := 16) (k := 16) (j := 2) (ci := 1) (fs := [.int 2, .int 0, .int 0, .null]) X tyX1 dX1_init_16 (by decide) rfl rfl xu_1 tyX1_ok nmX1 (by decide) (show 2 < 4 by decide) xw_115 (Or.inl rfl) rfl rfl rfl ?_
  refine g_aload_n (pc := 19) X dX1_init_19 rfl rfl ?_
  refine g_bipush (pc := 20) (v := 16) X dX1_init_20 (by decide) ?_
  refine g_newi (pc := 22) X 16 dX1_init_22 xw_68 (by decide) (by decide) (by decide) ?_
  refine g_put (pc := 24) (k := 16) (j := 3) (ci := 1) (fs := [.int 2, .int 0, .int 0, .null]) X tyX1 dX1_init_24 (by decide) rfl rfl xu_1 tyX1_ok nmX1 (by decide) (show 3 < 4 by decide) xw_117 (Or.inr ⟨rfl, hin, rfl⟩) rfl rfl rfl ?_
  refine g_eqn (w2 := xk G O w 16) (fun j hj => ?_) ?_
  · by_cases hja : j < 16
    · unfold xk; rw [if_pos hja]
      have hne : ∀ k, 16 ≤ k → ¬ j = k := fun k hk he => by omega
      have hlt : ∀ k, 16 ≤ k → j < k := fun k hk => by omega
      simp only [xg_up, xg_mn, xk]
      repeat (first | rw [if_neg (hne _ (by decide))] | rw [if_pos (hlt _ (by decide))])
    · refine xall (n := 18) (a := 16) (P := fun j => _ = xk G O w 16 j) ?_ hja hj
      show ∀ q ∈ [16, 17], _
      exact xcons rfl (xcons rfl (xnil))
  exact g_vret (pc := 27) X hr hk dX1_init_27 ⟨rfl, rfl⟩
set_option maxRecDepth 100000 in
set_option maxHeartbeats 4000000 in
theorem k_X1_18 (l : Launch) (G : xg_G) (O : Heap) (w : Nat → va_E) (hw : w 18 = .inr (1, [.int 0, .int 0, .int 0, .null])) : xg_M True l yX1_init cX1_init 1 none rmX1_init G O 19 w [.ref (O.size + 18)] 20 1 16 (fun r w2 => r = none ∧ w2 = xk G O w 18) := by
  refine xg_enter (by decide) 0 rfl rfl ?_
  intro p e s m args below meth c X hr hk hin
  refine g_eq (L2 := [some (.ref (O.size + 18))]) rfl rfl rfl ?_
  refine g_aload_n (pc := 0) X dX1_init_0 rfl rfl ?_
  refine g_objInit (pc := 1) X dX1_init_1 xw_109 xw_52 xw_53 (by decide) (Nat.le_of_ble_eq_true rfl) ?_
  refine g_aload_n (pc := 4) X dX1_init_4 rfl rfl ?_
  refine g_iconst (pc := 5) (v := 2) X dX1_init_5 (by decide) ?_
  refine g_put (pc := 6) (k := 18) (j := 0) (ci := 1) (fs := [.int 0, .int 0, .int 0, .null]) X tyX1 dX1_init_6 (by decide) hw rfl xu_1 tyX1_ok nmX1 (by decide) (show 0 < 4 by decide) xw_110 (Or.inl rfl) rfl rfl rfl ?_
  refine g_aload_n (pc := 9) X dX1_init_9 rfl rfl ?_
  refine g_iconst (pc := 10) (v := 0) X dX1_init_10 (by decide) ?_
  refine g_put (pc := 11) (k := 18) (j := 1) (ci := 1) (fs := [.int 2, .int 0, .int 0, .null]) X tyX1 dX1_init_11 (by decide) rfl rfl xu_1 tyX1_ok nmX1 (by decide) (show 1 < 4 by decide) xw_112 (Or.inl rfl) rfl rfl rfl ?_
  refine g_aload_n (pc := 14) X dX1_init_14 rfl rfl ?_
  refine g_iconst (pc := 15) (v := 0) X dX1_init_15 (by decide) ?_
  refine g_put (pc := 16) (k := 18) (j := 2) (ci := 1) (fs := [.int 2, .int 0, .int 0, .null]) X tyX1 dX1_init_16 (by decide) rfl rfl xu_1 tyX1_ok nmX1 (by decide) (show 2 < 4 by decide) xw_115 (Or.inl rfl) rfl rfl rfl ?_
  refine g_aload_n (pc := 19) X dX1_init_19 rfl rfl ?_
  refine g_bipush (pc := 20) (v := 16) X dX1_init_20 (by decide) ?_
  refine g_newi (pc := 22) X 16 dX1_init_22 xw_68 (by decide) (by decide) (by decide) ?_
  refine g_put (pc := 24) (k := 18) (j := 3) (ci := 1) (fs := [.int 2, .int 0, .int 0, .null]) X tyX1 dX1_init_24 (by decide) rfl rfl xu_1 tyX1_ok nmX1 (by decide) (show 3 < 4 by decide) xw_117 (Or.inr ⟨rfl, hin, rfl⟩) rfl rfl rfl ?_
  refine g_eqn (w2 := xk G O w 18) (fun j hj => ?_) ?_
  · by_cases hja : j < 18
    · unfold xk; rw [if_pos hja]
      have hne : ∀ k, 18 ≤ k → ¬ j = k := fun k hk he => by omega
      have hlt : ∀ k, 18 ≤ k → j < k := fun k hk => by omega
      simp only [xg_up, xg_mn, xk]
      repeat (first | rw [if_neg (hne _ (by decide))] | rw [if_pos (hlt _ (by decide))])
    · refine xall (n := 20) (a := 18) (P := fun j => _ = xk G O w 18 j) ?_ hja hj
      show ∀ q ∈ [18, 19], _
      exact xcons rfl (xcons rfl (xnil))
  exact g_vret (pc := 27) X hr hk dX1_init_27 ⟨rfl, rfl⟩
set_option maxRecDepth 100000 in
set_option maxHeartbeats 4000000 in
theorem k_X1_20 (l : Launch) (G : xg_G) (O : Heap) (w : Nat → va_E) (hw : w 20 = .inr (1, [.int 0, .int 0, .int 0, .null])) : xg_M True l yX1_init cX1_init 1 none rmX1_init G O 21 w [.ref (O.size + 20)] 22 1 16 (fun r w2 => r = none ∧ w2 = xk G O w 20) := by
  refine xg_enter (by decide) 0 rfl rfl ?_
  intro p e s m args below meth c X hr hk hin
  refine g_eq (L2 := [some (.ref (O.size + 20))]) rfl rfl rfl ?_
  refine g_aload_n (pc := 0) X dX1_init_0 rfl rfl ?_
  refine g_objInit (pc := 1) X dX1_init_1 xw_109 xw_52 xw_53 (by decide) (Nat.le_of_ble_eq_true rfl) ?_
  refine g_aload_n (pc := 4) X dX1_init_4 rfl rfl ?_
  refine g_iconst (pc := 5) (v := 2) X dX1_init_5 (by decide) ?_
  refine g_put (pc := 6) (k := 20) (j := 0) (ci := 1) (fs := [.int 0, .int 0, .int 0, .null]) X tyX1 dX1_init_6 (by decide) hw rfl xu_1 tyX1_ok nmX1 (by decide) (show 0 < 4 by decide) xw_110 (Or.inl rfl) rfl rfl rfl ?_
  refine g_aload_n (pc := 9) X dX1_init_9 rfl rfl ?_
  refine g_iconst (pc := 10) (v := 0) X dX1_init_10 (by decide) ?_
  refine g_put (pc := 11) (k := 20) (j := 1) (ci := 1) (fs := [.int 2, .int 0, .int 0, .null]) X tyX1 dX1_init_11 (by decide) rfl rfl xu_1 tyX1_ok nmX1 (by decide) (show 1 < 4 by decide) xw_112 (Or.inl rfl) rfl rfl rfl ?_
  refine g_aload_n (pc := 14) X dX1_init_14 rfl rfl ?_
  refine g_iconst (pc := 15) (v := 0) X dX1_init_15 (by decide) ?_
  refine g_put (pc := 16) (k := 20) (j := 2) (ci := 1) (fs := [.int 2, .int 0, .int 0, .null]) X tyX1 dX1_init_16 (by decide) rfl rfl xu_1 tyX1_ok nmX1 (by decide) (show 2 < 4 by decide) xw_115 (Or.inl rfl) rfl rfl rfl ?_
  refine g_aload_n (pc := 19) X dX1_init_19 rfl rfl ?_
  refine g_bipush (pc := 20) (v := 16) X dX1_init_20 (by decide) ?_
  refine g_newi (pc := 22) X 16 dX1_init_22 xw_68 (by decide) (by decide) (by decide) ?_
  refine g_put (pc := 24) (k := 20) (j := 3) (ci := 1) (fs := [.int 2, .int 0, .int 0, .null]) X tyX1 dX1_init_24 (by decide) rfl rfl xu_1 tyX1_ok nmX1 (by decide) (show 3 < 4 by decide) xw_117 (Or.inr ⟨rfl, hin, rfl⟩) rfl rfl rfl ?_
  refine g_eqn (w2 := xk G O w 20) (fun j hj => ?_) ?_
  · by_cases hja : j < 20
    · unfold xk; rw [if_pos hja]
      have hne : ∀ k, 20 ≤ k → ¬ j = k := fun k hk he => by omega
      have hlt : ∀ k, 20 ≤ k → j < k := fun k hk => by omega
      simp only [xg_up, xg_mn, xk]
      repeat (first | rw [if_neg (hne _ (by decide))] | rw [if_pos (hlt _ (by decide))])
    · refine xall (n := 22) (a := 20) (P := fun j => _ = xk G O w 20 j) ?_ hja hj
      show ∀ q ∈ [20, 21], _
      exact xcons rfl (xcons rfl (xnil))
  exact g_vret (pc := 27) X hr hk dX1_init_27 ⟨rfl, rfl⟩
set_option maxRecDepth 100000 in
set_option maxHeartbeats 4000000 in
theorem k_X1_22 (l : Launch) (G : xg_G) (O : Heap) (w : Nat → va_E) (hw : w 22 = .inr (1, [.int 0, .int 0, .int 0, .null])) : xg_M True l yX1_init cX1_init 1 none rmX1_init G O 23 w [.ref (O.size + 22)] 24 1 16 (fun r w2 => r = none ∧ w2 = xk G O w 22) := by
  refine xg_enter (by decide) 0 rfl rfl ?_
  intro p e s m args below meth c X hr hk hin
  refine g_eq (L2 := [some (.ref (O.size + 22))]) rfl rfl rfl ?_
  refine g_aload_n (pc := 0) X dX1_init_0 rfl rfl ?_
  refine g_objInit (pc := 1) X dX1_init_1 xw_109 xw_52 xw_53 (by decide) (Nat.le_of_ble_eq_true rfl) ?_
  refine g_aload_n (pc := 4) X dX1_init_4 rfl rfl ?_
  refine g_iconst (pc := 5) (v := 2) X dX1_init_5 (by decide) ?_
  refine g_put (pc := 6) (k := 22) (j := 0) (ci := 1) (fs := [.int 0, .int 0, .int 0, .null]) X tyX1 dX1_init_6 (by decide) hw rfl xu_1 tyX1_ok nmX1 (by decide) (show 0 < 4 by decide) xw_110 (Or.inl rfl) rfl rfl rfl ?_
  refine g_aload_n (pc := 9) X dX1_init_9 rfl rfl ?_
  refine g_iconst (pc := 10) (v := 0) X dX1_init_10 (by decide) ?_
  refine g_put (pc := 11) (k := 22) (j := 1) (ci := 1) (fs := [.int 2, .int 0, .int 0, .null]) X tyX1 dX1_init_11 (by decide) rfl rfl xu_1 tyX1_ok nmX1 (by decide) (show 1 < 4 by decide) xw_112 (Or.inl rfl) rfl rfl rfl ?_
  refine g_aload_n (pc := 14) X dX1_init_14 rfl rfl ?_
  refine g_iconst (pc := 15) (v := 0) X dX1_init_15 (by decide) ?_
  refine g_put (pc := 16) (k := 22) (j := 2) (ci := 1) (fs := [.int 2, .int 0, .int 0, .null]) X tyX1 dX1_init_16 (by decide) rfl rfl xu_1 tyX1_ok nmX1 (by decide) (show 2 < 4 by decide) xw_115 (Or.inl rfl) rfl rfl rfl ?_
  refine g_aload_n (pc := 19) X dX1_init_19 rfl rfl ?_
  refine g_bipush (pc := 20) (v := 16) X dX1_init_20 (by decide) ?_
  refine g_newi (pc := 22) X 16 dX1_init_22 xw_68 (by decide) (by decide) (by decide) ?_
  refine g_put (pc := 24) (k := 22) (j := 3) (ci := 1) (fs := [.int 2, .int 0, .int 0, .null]) X tyX1 dX1_init_24 (by decide) rfl rfl xu_1 tyX1_ok nmX1 (by decide) (show 3 < 4 by decide) xw_117 (Or.inr ⟨rfl, hin, rfl⟩) rfl rfl rfl ?_
  refine g_eqn (w2 := xk G O w 22) (fun j hj => ?_) ?_
  · by_cases hja : j < 22
    · unfold xk; rw [if_pos hja]
      have hne : ∀ k, 22 ≤ k → ¬ j = k := fun k hk he => by omega
      have hlt : ∀ k, 22 ≤ k → j < k := fun k hk => by omega
      simp only [xg_up, xg_mn, xk]
      repeat (first | rw [if_neg (hne _ (by decide))] | rw [if_pos (hlt _ (by decide))])
    · refine xall (n := 24) (a := 22) (P := fun j => _ = xk G O w 22 j) ?_ hja hj
      show ∀ q ∈ [22, 23], _
      exact xcons rfl (xcons rfl (xnil))
  exact g_vret (pc := 27) X hr hk dX1_init_27 ⟨rfl, rfl⟩
abbrev rmX2_init : Room := { frames := 2, cells := 17, slots := 168, locals := 68 }
set_option maxRecDepth 100000 in
set_option maxHeartbeats 4000000 in
theorem k_X2_6 (l : Launch) (G : xg_G) (O : Heap) (w : Nat → va_E) (hw : w 6 = .inr (2, [.null, .int 0])) : xg_M True l yX2_init cX2_init 2 none rmX2_init G O 7 w [.ref (O.size + 6)] 24 17 168 (fun r w2 => r = none ∧ w2 = xk G O w 6) := by
  refine xg_enter (by decide) 1 rfl rfl ?_
  intro p e s m args below meth c X hr hk hin
  refine g_eq (L2 := [some (.ref (O.size + 6)), none]) rfl rfl rfl ?_
  refine g_aload_n (pc := 0) X dX2_init_0 rfl rfl ?_
  refine g_objInit (pc := 1) X dX2_init_1 xw_102 xw_52 xw_53 (by decide) (Nat.le_of_ble_eq_true rfl) ?_
  refine g_aload_n (pc := 4) X dX2_init_4 rfl rfl ?_
  refine g_bipush (pc := 5) (v := 8) X dX2_init_5 (by decide) ?_
  refine g_anew (pc := 7) (C := "UnderText$Half") X 2 8 dX2_init_7 xw_103 X.2.2.2.1 rfl (by decide) (by decide) (by decide) ?_
  refine g_put (pc := 10) (k := 6) (j := 0) (ci := 2) (fs := [.null, .int 0]) X tyX2 dX2_init_10 (by decide) hw rfl xu_2 tyX2_ok nmX2 (by decide) (show 0 < 2 by decide) xw_131 (Or.inr ⟨rfl, hin, rfl⟩) rfl rfl rfl ?_
  refine g_aload_n (pc := 13) X dX2_init_13 rfl rfl ?_
  refine g_iconst (pc := 14) (v := 0) X dX2_init_14 (by decide) ?_
  refine g_put (pc := 15) (k := 6) (j := 1) (ci := 2) (fs := [.ref (O.size + 7), .int 0]) X tyX2 dX2_init_15 (by decide) rfl rfl xu_2 tyX2_ok nmX2 (by decide) (show 1 < 2 by decide) xw_135 (Or.inl rfl) rfl rfl rfl ?_
  refine g_iconst (pc := 18) (v := 0) X dX2_init_18 (by decide) ?_
  refine g_istore_n (pc := 19) X dX2_init_19 rfl (by decide) ?_
  refine g_iload_n (pc := 20) X dX2_init_20 rfl rfl ?_
  refine g_bipush (pc := 21) (v := 8) X dX2_init_21 (by decide) ?_
  refine g_icmp_ge (pc := 23) (tgt := 45) X dX2_init_23 (by decide) (fun hc => absurd hc (show ¬ (8 : Int32) ≤ 0 by decide)) (fun _ => ?_)
  refine g_aload_n (pc := 26) X dX2_init_26 rfl rfl ?_
  refine g_get (pc := 27) (k := 6) (j := 0) (ci := 2) (fs := [.ref (O.size + 7), .int 0]) X dX2_init_27 (by decide) rfl rfl xu_2 (by decide) xw_131 rfl ?_
  refine g_iload_n (pc := 30) X dX2_init_30 rfl rfl ?_
  refine g_new (pc := 31) (ci := 1) (fs := [.int 0, .int 0, .int 0, .null]) X tyX1 dX2_init_31 xw_103 xw_105 xw_37 rfl xu_1 tyX1_ok (fun j hj => match j, hj with | 0, _ => rfl | 1, _ => rfl | 2, _ => rfl | 3, _ => rfl | j + 4, h => absurd h (by omega)) (by decide) ?_
  refine g_dup (pc := 34) X dX2_init_34 rfl ?_
  refine g_callIN (pc := 35) (as := []) (rest := [.ref (O.size + 8), .int 0, .ref (O.size + 7)]) X xc_X2_21 (k_X1_8 l G O _ rfl) dX2_init_35 rfl rfl (by decide) (Nat.le_of_ble_eq_true rfl) (fun r w2 hp => ?_)
  obtain ⟨rfl, rfl⟩ := hp
  refine g_eq (st2 := [.ref (O.size + 8), .int 0, .ref (O.size + 7)]) rfl rfl rfl ?_
  refine g_aast (pc := 38) (k := 7) (kv := 8) (ci := 1) (fs := [.int 2, .int 0, .int 0, .ref (O.size + 9)]) (N := 8) (r := (RX1, TX1, 4)) X 2 0 dX2_init_38 (by decide) rfl rfl (by decide) rfl rfl (by decide) (by decide) (by decide) ?_
  refine g_inc (pc := 39) (kv := 1) X dX2_init_39 (by decide) rfl (by decide) ?_
  refine g_eq (L2 := [some (.ref (O.size + 6)), some (.int 1)]) rfl rfl rfl ?_
  refine g_goto (pc := 42) (tgt := 20) X dX2_init_42 (by decide) ?_
  refine g_iload_n (pc := 20) X dX2_init_20 rfl rfl ?_
  refine g_bipush (pc := 21) (v := 8) X dX2_init_21 (by decide) ?_
  refine g_icmp_ge (pc := 23) (tgt := 45) X dX2_init_23 (by decide) (fun hc => absurd hc (show ¬ (8 : Int32) ≤ 1 by decide)) (fun _ => ?_)
  refine g_aload_n (pc := 26) X dX2_init_26 rfl rfl ?_
  refine g_get (pc := 27) (k := 6) (j := 0) (ci := 2) (fs := [.ref (O.size + 7), .int 0]) X dX2_init_27 (by decide) rfl rfl xu_2 (by decide) xw_131 rfl ?_
  refine g_iload_n (pc := 30) X dX2_init_30 rfl rfl ?_
  refine g_new (pc := 31) (ci := 1) (fs := [.int 0, .int 0, .int 0, .null]) X tyX1 dX2_init_31 xw_103 xw_105 xw_37 rfl xu_1 tyX1_ok (fun j hj => match j, hj with | 0, _ => rfl | 1, _ => rfl | 2, _ => rfl | 3, _ => rfl | j + 4, h => absurd h (by omega)) (by decide) ?_
  refine g_dup (pc := 34) X dX2_init_34 rfl ?_
  refine g_callIN (pc := 35) (as := []) (rest := [.ref (O.size + 10), .int 1, .ref (O.size + 7)]) X xc_X2_21 (k_X1_10 l G O _ rfl) dX2_init_35 rfl rfl (by decide) (Nat.le_of_ble_eq_true rfl) (fun r w2 hp => ?_)
  obtain ⟨rfl, rfl⟩ := hp
  refine g_eq (st2 := [.ref (O.size + 10), .int 1, .ref (O.size + 7)]) rfl rfl rfl ?_
  refine g_aast (pc := 38) (k := 7) (kv := 10) (ci := 1) (fs := [.int 2, .int 0, .int 0, .ref (O.size + 11)]) (N := 8) (r := (RX1, TX1, 4)) X 2 1 dX2_init_38 (by decide) rfl rfl (by decide) rfl rfl (by decide) (by decide) (by decide) ?_
  refine g_inc (pc := 39) (kv := 1) X dX2_init_39 (by decide) rfl (by decide) ?_
  refine g_eq (L2 := [some (.ref (O.size + 6)), some (.int 2)]) rfl rfl rfl ?_
  refine g_goto (pc := 42) (tgt := 20) X dX2_init_42 (by decide) ?_
  refine g_iload_n (pc := 20) X dX2_init_20 rfl rfl ?_
  refine g_bipush (pc := 21) (v := 8) X dX2_init_21 (by decide) ?_
  refine g_icmp_ge (pc := 23) (tgt := 45) X dX2_init_23 (by decide) (fun hc => absurd hc (show ¬ (8 : Int32) ≤ 2 by decide)) (fun _ => ?_)
  refine g_aload_n (pc := 26) X dX2_init_26 rfl rfl ?_
  refine g_get (pc := 27) (k := 6) (j := 0) (ci := 2) (fs := [.ref (O.size + 7), .int 0]) X dX2_init_27 (by decide) rfl rfl xu_2 (by decide) xw_131 rfl ?_
  refine g_iload_n (pc := 30) X dX2_init_30 rfl rfl ?_
  refine g_new (pc := 31) (ci := 1) (fs := [.int 0, .int 0, .int 0, .null]) X tyX1 dX2_init_31 xw_103 xw_105 xw_37 rfl xu_1 tyX1_ok (fun j hj => match j, hj with | 0, _ => rfl | 1, _ => rfl | 2, _ => rfl | 3, _ => rfl | j + 4, h => absurd h (by omega)) (by decide) ?_
  refine g_dup (pc := 34) X dX2_init_34 rfl ?_
  refine g_callIN (pc := 35) (as := []) (rest := [.ref (O.size + 12), .int 2, .ref (O.size + 7)]) X xc_X2_21 (k_X1_12 l G O _ rfl) dX2_init_35 rfl rfl (by decide) (Nat.le_of_ble_eq_true rfl) (fun r w2 hp => ?_)
  obtain ⟨rfl, rfl⟩ := hp
  refine g_eq (st2 := [.ref (O.size + 12), .int 2, .ref (O.size + 7)]) rfl rfl rfl ?_
  refine g_aast (pc := 38) (k := 7) (kv := 12) (ci := 1) (fs := [.int 2, .int 0, .int 0, .ref (O.size + 13)]) (N := 8) (r := (RX1, TX1, 4)) X 2 2 dX2_init_38 (by decide) rfl rfl (by decide) rfl rfl (by decide) (by decide) (by decide) ?_
  refine g_inc (pc := 39) (kv := 1) X dX2_init_39 (by decide) rfl (by decide) ?_
  refine g_eq (L2 := [some (.ref (O.size + 6)), some (.int 3)]) rfl rfl rfl ?_
  refine g_goto (pc := 42) (tgt := 20) X dX2_init_42 (by decide) ?_
  refine g_iload_n (pc := 20) X dX2_init_20 rfl rfl ?_
  refine g_bipush (pc := 21) (v := 8) X dX2_init_21 (by decide) ?_
  refine g_icmp_ge (pc := 23) (tgt := 45) X dX2_init_23 (by decide) (fun hc => absurd hc (show ¬ (8 : Int32) ≤ 3 by decide)) (fun _ => ?_)
  refine g_aload_n (pc := 26) X dX2_init_26 rfl rfl ?_
  refine g_get (pc := 27) (k := 6) (j := 0) (ci := 2) (fs := [.ref (O.size + 7), .int 0]) X dX2_init_27 (by decide) rfl rfl xu_2 (by decide) xw_131 rfl ?_
  refine g_iload_n (pc := 30) X dX2_init_30 rfl rfl ?_
  refine g_new (pc := 31) (ci := 1) (fs := [.int 0, .int 0, .int 0, .null]) X tyX1 dX2_init_31 xw_103 xw_105 xw_37 rfl xu_1 tyX1_ok (fun j hj => match j, hj with | 0, _ => rfl | 1, _ => rfl | 2, _ => rfl | 3, _ => rfl | j + 4, h => absurd h (by omega)) (by decide) ?_
  refine g_dup (pc := 34) X dX2_init_34 rfl ?_
  refine g_callIN (pc := 35) (as := []) (rest := [.ref (O.size + 14), .int 3, .ref (O.size + 7)]) X xc_X2_21 (k_X1_14 l G O _ rfl) dX2_init_35 rfl rfl (by decide) (Nat.le_of_ble_eq_true rfl) (fun r w2 hp => ?_)
  obtain ⟨rfl, rfl⟩ := hp
  refine g_eq (st2 := [.ref (O.size + 14), .int 3, .ref (O.size + 7)]) rfl rfl rfl ?_
  refine g_aast (pc := 38) (k := 7) (kv := 14) (ci := 1) (fs := [.int 2, .int 0, .int 0, .ref (O.size + 15)]) (N := 8) (r := (RX1, TX1, 4)) X 2 3 dX2_init_38 (by decide) rfl rfl (by decide) rfl rfl (by decide) (by decide) (by decide) ?_
  refine g_inc (pc := 39) (kv := 1) X dX2_init_39 (by decide) rfl (by decide) ?_
  refine g_eq (L2 := [some (.ref (O.size + 6)), some (.int 4)]) rfl rfl rfl ?_
  refine g_goto (pc := 42) (tgt := 20) X dX2_init_42 (by decide) ?_
  refine g_iload_n (pc := 20) X dX2_init_20 rfl rfl ?_
  refine g_bipush (pc := 21) (v := 8) X dX2_init_21 (by decide) ?_
  refine g_icmp_ge (pc := 23) (tgt := 45) X dX2_init_23 (by decide) (fun hc => absurd hc (show ¬ (8 : Int32) ≤ 4 by decide)) (fun _ => ?_)
  refine g_aload_n (pc := 26) X dX2_init_26 rfl rfl ?_
  refine g_get (pc := 27) (k := 6) (j := 0) (ci := 2) (fs := [.ref (O.size + 7), .int 0]) X dX2_init_27 (by decide) rfl rfl xu_2 (by decide) xw_131 rfl ?_
  refine g_iload_n (pc := 30) X dX2_init_30 rfl rfl ?_
  refine g_new (pc := 31) (ci := 1) (fs := [.int 0, .int 0, .int 0, .null]) X tyX1 dX2_init_31 xw_103 xw_105 xw_37 rfl xu_1 tyX1_ok (fun j hj => match j, hj with | 0, _ => rfl | 1, _ => rfl | 2, _ => rfl | 3, _ => rfl | j + 4, h => absurd h (by omega)) (by decide) ?_
  refine g_dup (pc := 34) X dX2_init_34 rfl ?_
  refine g_callIN (pc := 35) (as := []) (rest := [.ref (O.size + 16), .int 4, .ref (O.size + 7)]) X xc_X2_21 (k_X1_16 l G O _ rfl) dX2_init_35 rfl rfl (by decide) (Nat.le_of_ble_eq_true rfl) (fun r w2 hp => ?_)
  obtain ⟨rfl, rfl⟩ := hp
  refine g_eq (st2 := [.ref (O.size + 16), .int 4, .ref (O.size + 7)]) rfl rfl rfl ?_
  refine g_aast (pc := 38) (k := 7) (kv := 16) (ci := 1) (fs := [.int 2, .int 0, .int 0, .ref (O.size + 17)]) (N := 8) (r := (RX1, TX1, 4)) X 2 4 dX2_init_38 (by decide) rfl rfl (by decide) rfl rfl (by decide) (by decide) (by decide) ?_
  refine g_inc (pc := 39) (kv := 1) X dX2_init_39 (by decide) rfl (by decide) ?_
  refine g_eq (L2 := [some (.ref (O.size + 6)), some (.int 5)]) rfl rfl rfl ?_
  refine g_goto (pc := 42) (tgt := 20) X dX2_init_42 (by decide) ?_
  refine g_iload_n (pc := 20) X dX2_init_20 rfl rfl ?_
  refine g_bipush (pc := 21) (v := 8) X dX2_init_21 (by decide) ?_
  refine g_icmp_ge (pc := 23) (tgt := 45) X dX2_init_23 (by decide) (fun hc => absurd hc (show ¬ (8 : Int32) ≤ 5 by decide)) (fun _ => ?_)
  refine g_aload_n (pc := 26) X dX2_init_26 rfl rfl ?_
  refine g_get (pc := 27) (k := 6) (j := 0) (ci := 2) (fs := [.ref (O.size + 7), .int 0]) X dX2_init_27 (by decide) rfl rfl xu_2 (by decide) xw_131 rfl ?_
  refine g_iload_n (pc := 30) X dX2_init_30 rfl rfl ?_
  refine g_new (pc := 31) (ci := 1) (fs := [.int 0, .int 0, .int 0, .null]) X tyX1 dX2_init_31 xw_103 xw_105 xw_37 rfl xu_1 tyX1_ok (fun j hj => match j, hj with | 0, _ => rfl | 1, _ => rfl | 2, _ => rfl | 3, _ => rfl | j + 4, h => absurd h (by omega)) (by decide) ?_
  refine g_dup (pc := 34) X dX2_init_34 rfl ?_
  refine g_callIN (pc := 35) (as := []) (rest := [.ref (O.size + 18), .int 5, .ref (O.size + 7)]) X xc_X2_21 (k_X1_18 l G O _ rfl) dX2_init_35 rfl rfl (by decide) (Nat.le_of_ble_eq_true rfl) (fun r w2 hp => ?_)
  obtain ⟨rfl, rfl⟩ := hp
  refine g_eq (st2 := [.ref (O.size + 18), .int 5, .ref (O.size + 7)]) rfl rfl rfl ?_
  refine g_aast (pc := 38) (k := 7) (kv := 18) (ci := 1) (fs := [.int 2, .int 0, .int 0, .ref (O.size + 19)]) (N := 8) (r := (RX1, TX1, 4)) X 2 5 dX2_init_38 (by decide) rfl rfl (by decide) rfl rfl (by decide) (by decide) (by decide) ?_
  refine g_inc (pc := 39) (kv := 1) X dX2_init_39 (by decide) rfl (by decide) ?_
  refine g_eq (L2 := [some (.ref (O.size + 6)), some (.int 6)]) rfl rfl rfl ?_
  refine g_goto (pc := 42) (tgt := 20) X dX2_init_42 (by decide) ?_
  refine g_iload_n (pc := 20) X dX2_init_20 rfl rfl ?_
  refine g_bipush (pc := 21) (v := 8) X dX2_init_21 (by decide) ?_
  refine g_icmp_ge (pc := 23) (tgt := 45) X dX2_init_23 (by decide) (fun hc => absurd hc (show ¬ (8 : Int32) ≤ 6 by decide)) (fun _ => ?_)
  refine g_aload_n (pc := 26) X dX2_init_26 rfl rfl ?_
  refine g_get (pc := 27) (k := 6) (j := 0) (ci := 2) (fs := [.ref (O.size + 7), .int 0]) X dX2_init_27 (by decide) rfl rfl xu_2 (by decide) xw_131 rfl ?_
  refine g_iload_n (pc := 30) X dX2_init_30 rfl rfl ?_
  refine g_new (pc := 31) (ci := 1) (fs := [.int 0, .int 0, .int 0, .null]) X tyX1 dX2_init_31 xw_103 xw_105 xw_37 rfl xu_1 tyX1_ok (fun j hj => match j, hj with | 0, _ => rfl | 1, _ => rfl | 2, _ => rfl | 3, _ => rfl | j + 4, h => absurd h (by omega)) (by decide) ?_
  refine g_dup (pc := 34) X dX2_init_34 rfl ?_
  refine g_callIN (pc := 35) (as := []) (rest := [.ref (O.size + 20), .int 6, .ref (O.size + 7)]) X xc_X2_21 (k_X1_20 l G O _ rfl) dX2_init_35 rfl rfl (by decide) (Nat.le_of_ble_eq_true rfl) (fun r w2 hp => ?_)
  obtain ⟨rfl, rfl⟩ := hp
  refine g_eq (st2 := [.ref (O.size + 20), .int 6, .ref (O.size + 7)]) rfl rfl rfl ?_
  refine g_aast (pc := 38) (k := 7) (kv := 20) (ci := 1) (fs := [.int 2, .int 0, .int 0, .ref (O.size + 21)]) (N := 8) (r := (RX1, TX1, 4)) X 2 6 dX2_init_38 (by decide) rfl rfl (by decide) rfl rfl (by decide) (by decide) (by decide) ?_
  refine g_inc (pc := 39) (kv := 1) X dX2_init_39 (by decide) rfl (by decide) ?_
  refine g_eq (L2 := [some (.ref (O.size + 6)), some (.int 7)]) rfl rfl rfl ?_
  refine g_goto (pc := 42) (tgt := 20) X dX2_init_42 (by decide) ?_
  refine g_iload_n (pc := 20) X dX2_init_20 rfl rfl ?_
  refine g_bipush (pc := 21) (v := 8) X dX2_init_21 (by decide) ?_
  refine g_icmp_ge (pc := 23) (tgt := 45) X dX2_init_23 (by decide) (fun hc => absurd hc (show ¬ (8 : Int32) ≤ 7 by decide)) (fun _ => ?_)
  refine g_aload_n (pc := 26) X dX2_init_26 rfl rfl ?_
  refine g_get (pc := 27) (k := 6) (j := 0) (ci := 2) (fs := [.ref (O.size + 7), .int 0]) X dX2_init_27 (by decide) rfl rfl xu_2 (by decide) xw_131 rfl ?_
  refine g_iload_n (pc := 30) X dX2_init_30 rfl rfl ?_
  refine g_new (pc := 31) (ci := 1) (fs := [.int 0, .int 0, .int 0, .null]) X tyX1 dX2_init_31 xw_103 xw_105 xw_37 rfl xu_1 tyX1_ok (fun j hj => match j, hj with | 0, _ => rfl | 1, _ => rfl | 2, _ => rfl | 3, _ => rfl | j + 4, h => absurd h (by omega)) (by decide) ?_
  refine g_dup (pc := 34) X dX2_init_34 rfl ?_
  refine g_callIN (pc := 35) (as := []) (rest := [.ref (O.size + 22), .int 7, .ref (O.size + 7)]) X xc_X2_21 (k_X1_22 l G O _ rfl) dX2_init_35 rfl rfl (by decide) (Nat.le_of_ble_eq_true rfl) (fun r w2 hp => ?_)
  obtain ⟨rfl, rfl⟩ := hp
  refine g_eq (st2 := [.ref (O.size + 22), .int 7, .ref (O.size + 7)]) rfl rfl rfl ?_
  refine g_aast (pc := 38) (k := 7) (kv := 22) (ci := 1) (fs := [.int 2, .int 0, .int 0, .ref (O.size + 23)]) (N := 8) (r := (RX1, TX1, 4)) X 2 7 dX2_init_38 (by decide) rfl rfl (by decide) rfl rfl (by decide) (by decide) (by decide) ?_
  refine g_inc (pc := 39) (kv := 1) X dX2_init_39 (by decide) rfl (by decide) ?_
  refine g_eq (L2 := [some (.ref (O.size + 6)), some (.int 8)]) rfl rfl rfl ?_
  refine g_goto (pc := 42) (tgt := 20) X dX2_init_42 (by decide) ?_
  refine g_iload_n (pc := 20) X dX2_init_20 rfl rfl ?_
  refine g_bipush (pc := 21) (v := 8) X dX2_init_21 (by decide) ?_
  refine g_icmp_ge (pc := 23) (tgt := 45) X dX2_init_23 (by decide) (fun _ => ?_) (fun hc => absurd (show (8 : Int32) ≤ 8 by decide) hc)
  refine g_eqn (w2 := xk G O w 6) (fun j hj => ?_) ?_
  · by_cases hja : j < 6
    · unfold xk; rw [if_pos hja]
      have hne : ∀ k, 6 ≤ k → ¬ j = k := fun k hk he => by omega
      have hlt : ∀ k, 6 ≤ k → j < k := fun k hk => by omega
      simp only [xg_up, xg_mn, xk]
      repeat (first | rw [if_neg (hne _ (by decide))] | rw [if_pos (hlt _ (by decide))])
    · refine xall (n := 24) (a := 6) (P := fun j => _ = xk G O w 6 j) ?_ hja hj
      show ∀ q ∈ [6, 7, 8, 9, 10, 11, 12, 13, 14, 15, 16, 17, 18, 19, 20, 21, 22, 23], _
      exact xcons rfl (xcons (xq_7 G O) (xcons rfl (xcons rfl (xcons rfl (xcons rfl (xcons rfl (xcons rfl (xcons rfl (xcons rfl (xcons rfl (xcons rfl (xcons rfl (xcons rfl (xcons rfl (xcons rfl (xcons rfl (xcons rfl (xnil))))))))))))))))))
  exact g_vret (pc := 45) X hr hk dX2_init_45 ⟨rfl, rfl⟩
abbrev rmX3_init : Room := { frames := 1, cells := 0, slots := 0, locals := 48 }
set_option maxRecDepth 100000 in
set_option maxHeartbeats 4000000 in
theorem k_X3_24 (l : Launch) (G : xg_G) (O : Heap) (w : Nat → va_E) (hw : w 24 = .inr (3, [.int 0, .int 0, .int 0, .int 0, .int 0, .int 0, .int 0])) : xg_M True l yX3_init cX3_init 1 none rmX3_init G O 25 w [.ref (O.size + 24)] 25 0 0 (fun r w2 => r = none ∧ w2 = xk G O w 24) := by
  refine xg_enter (by decide) 0 rfl rfl ?_
  intro p e s m args below meth c X hr hk hin
  refine g_eq (L2 := [some (.ref (O.size + 24))]) rfl rfl rfl ?_
  refine g_aload_n (pc := 0) X dX3_init_0 rfl rfl ?_
  refine g_objInit (pc := 1) X dX3_init_1 xw_149 xw_52 xw_53 (by decide) (Nat.le_of_ble_eq_true rfl) ?_
  refine g_aload_n (pc := 4) X dX3_init_4 rfl rfl ?_
  refine g_iconst (pc := 5) (v := (-1)) X dX3_init_5 (by decide) ?_
  refine g_put (pc := 6) (k := 24) (j := 0) (ci := 3) (fs := [.int 0, .int 0, .int 0, .int 0, .int 0, .int 0, .int 0]) X tyX3 dX3_init_6 (by decide) hw rfl xu_3 tyX3_ok nmX3 (by decide) (show 0 < 7 by decide) xw_150 (Or.inl rfl) rfl rfl rfl ?_
  refine g_aload_n (pc := 9) X dX3_init_9 rfl rfl ?_
  refine g_iconst (pc := 10) (v := (-1)) X dX3_init_10 (by decide) ?_
  refine g_put (pc := 11) (k := 24) (j := 1) (ci := 3) (fs := [.int (-1), .int 0, .int 0, .int 0, .int 0, .int 0, .int 0]) X tyX3 dX3_init_11 (by decide) rfl rfl xu_3 tyX3_ok nmX3 (by decide) (show 1 < 7 by decide) xw_153 (Or.inl rfl) rfl rfl rfl ?_
  refine g_aload_n (pc := 14) X dX3_init_14 rfl rfl ?_
  refine g_iconst (pc := 15) (v := (-1)) X dX3_init_15 (by decide) ?_
  refine g_put (pc := 16) (k := 24) (j := 2) (ci := 3) (fs := [.int (-1), .int (-1), .int 0, .int 0, .int 0, .int 0, .int 0]) X tyX3 dX3_init_16 (by decide) rfl rfl xu_3 tyX3_ok nmX3 (by decide) (show 2 < 7 by decide) xw_156 (Or.inl rfl) rfl rfl rfl ?_
  refine g_aload_n (pc := 19) X dX3_init_19 rfl rfl ?_
  refine g_iconst (pc := 20) (v := (-1)) X dX3_init_20 (by decide) ?_
  refine g_put (pc := 21) (k := 24) (j := 3) (ci := 3) (fs := [.int (-1), .int (-1), .int (-1), .int 0, .int 0, .int 0, .int 0]) X tyX3 dX3_init_21 (by decide) rfl rfl xu_3 tyX3_ok nmX3 (by decide) (show 3 < 7 by decide) xw_160 (Or.inl rfl) rfl rfl rfl ?_
  refine g_aload_n (pc := 24) X dX3_init_24 rfl rfl ?_
  refine g_iconst (pc := 25) (v := 0) X dX3_init_25 (by decide) ?_
  refine g_put (pc := 26) (k := 24) (j := 4) (ci := 3) (fs := [.int (-1), .int (-1), .int (-1), .int (-1), .int 0, .int 0, .int 0]) X tyX3 dX3_init_26 (by decide) rfl rfl xu_3 tyX3_ok nmX3 (by decide) (show 4 < 7 by decide) xw_165 (Or.inl rfl) rfl rfl rfl ?_
  refine g_aload_n (pc := 29) X dX3_init_29 rfl rfl ?_
  refine g_iconst (pc := 30) (v := 0) X dX3_init_30 (by decide) ?_
  refine g_put (pc := 31) (k := 24) (j := 5) (ci := 3) (fs := [.int (-1), .int (-1), .int (-1), .int (-1), .int 0, .int 0, .int 0]) X tyX3 dX3_init_31 (by decide) rfl rfl xu_3 tyX3_ok nmX3 (by decide) (show 5 < 7 by decide) xw_168 (Or.inl rfl) rfl rfl rfl ?_
  refine g_aload_n (pc := 34) X dX3_init_34 rfl rfl ?_
  refine g_iconst (pc := 35) (v := 0) X dX3_init_35 (by decide) ?_
  refine g_put (pc := 36) (k := 24) (j := 6) (ci := 3) (fs := [.int (-1), .int (-1), .int (-1), .int (-1), .int 0, .int 0, .int 0]) X tyX3 dX3_init_36 (by decide) rfl rfl xu_3 tyX3_ok nmX3 (by decide) (show 6 < 7 by decide) xw_171 (Or.inl rfl) rfl rfl rfl ?_
  refine g_eqn (w2 := xk G O w 24) (fun j hj => ?_) ?_
  · by_cases hja : j < 24
    · unfold xk; rw [if_pos hja]
      have hne : ∀ k, 24 ≤ k → ¬ j = k := fun k hk he => by omega
      have hlt : ∀ k, 24 ≤ k → j < k := fun k hk => by omega
      simp only [xg_up, xg_mn, xk]
      repeat (first | rw [if_neg (hne _ (by decide))] | rw [if_pos (hlt _ (by decide))])
    · refine xall (n := 25) (a := 24) (P := fun j => _ = xk G O w 24 j) ?_ hja hj
      show ∀ q ∈ [24], _
      exact xcons rfl (xnil)
  exact g_vret (pc := 39) X hr hk dX3_init_39 ⟨rfl, rfl⟩
abbrev rmX5_init : Room := { frames := 3, cells := 39, slots := 2550, locals := 89 }
set_option maxRecDepth 100000 in
set_option maxHeartbeats 4000000 in
theorem k_X5_3 (l : Launch) (G : xg_G) (O : Heap) (w : Nat → va_E) (hw : w 3 = .inr (5, [.null, .null, .null, .null, .null])) : xg_M True l yX5_init cX5_init 1 none rmX5_init G O 4 w [.ref (O.size + 3)] 43 39 2550 (fun r w2 => r = none ∧ w2 = xk G O w 3) := by
  refine xg_enter (by decide) 0 rfl rfl ?_
  intro p e s m args below meth c X hr hk hin
  refine g_eq (L2 := [some (.ref (O.size + 3))]) rfl rfl rfl ?_
  refine g_aload_n (pc := 0) X dX5_init_0 rfl rfl ?_
  refine g_objInit (pc := 1) X dX5_init_1 xw_74 xw_52 xw_53 (by decide) (Nat.le_of_ble_eq_true rfl) ?_
  refine g_aload_n (pc := 4) X dX5_init_4 rfl rfl ?_
  refine g_new (pc := 5) (ci := 7) (fs := [.null, .int 0, .int 0, .int 0]) X tyX7 dX5_init_5 xw_75 xw_76 xw_35 rfl xu_7 tyX7_ok (fun j hj => match j, hj with | 0, _ => rfl | 1, _ => rfl | 2, _ => rfl | 3, _ => rfl | j + 4, h => absurd h (by omega)) (by decide) ?_
  refine g_dup (pc := 8) X dX5_init_8 rfl ?_
  refine g_callIN (pc := 9) (as := []) (rest := [.ref (O.size + 4), .ref (O.size + 3)]) X xc_X5_11 (k_X7_4 l G O _ rfl) dX5_init_9 rfl rfl (by decide) (Nat.le_of_ble_eq_true rfl) (fun r w2 hp => ?_)
  obtain ⟨rfl, rfl⟩ := hp
  refine g_eq (st2 := [.ref (O.size + 4), .ref (O.size + 3)]) rfl rfl rfl ?_
  refine g_put (pc := 12) (k := 3) (j := 0) (ci := 5) (fs := [.null, .null, .null, .null, .null]) X tyX5 dX5_init_12 (by decide) hw rfl xu_5 tyX5_ok nmX5 (by decide) (show 0 < 5 by decide) xw_191 (Or.inr ⟨rfl, hin, rfl⟩) rfl rfl rfl ?_
  refine g_aload_n (pc := 15) X dX5_init_15 rfl rfl ?_
  refine g_new (pc := 16) (ci := 2) (fs := [.null, .int 0]) X tyX2 dX5_init_16 xw_97 xw_98 xw_36 rfl xu_2 tyX2_ok (fun j hj => match j, hj with | 0, _ => rfl | 1, _ => rfl | j + 2, h => absurd h (by omega)) (by decide) ?_
  refine g_dup (pc := 19) X dX5_init_19 rfl ?_
  refine g_callI (pc := 20) (as := []) (rest := [.ref (O.size + 6), .ref (O.size + 3)]) X xc_X5_20 (k_X2_6 l G O _ rfl) dX5_init_20 rfl rfl (by decide) (Nat.le_of_ble_eq_true rfl) (fun r w2 hp => ?_)
  obtain ⟨rfl, rfl⟩ := hp
  refine g_eq (st2 := [.ref (O.size + 6), .ref (O.size + 3)]) rfl rfl rfl ?_
  refine g_put (pc := 23) (k := 3) (j := 1) (ci := 5) (fs := [.ref (O.size + 4), .null, .null, .null, .null]) X tyX5 dX5_init_23 (by decide) rfl rfl xu_5 tyX5_ok nmX5 (by decide) (show 1 < 5 by decide) xw_193 (Or.inr ⟨rfl, hin, rfl⟩) rfl rfl rfl ?_
  refine g_aload_n (pc := 26) X dX5_init_26 rfl rfl ?_
  refine g_new (pc := 27) (ci := 3) (fs := [.int 0, .int 0, .int 0, .int 0, .int 0, .int 0, .int 0]) X tyX3 dX5_init_27 xw_144 xw_145 xw_38 rfl xu_3 tyX3_ok (fun j hj => match j, hj with | 0, _ => rfl | 1, _ => rfl | 2, _ => rfl | 3, _ => rfl | 4, _ => rfl | 5, _ => rfl | 6, _ => rfl | j + 7, h => absurd h (by omega)) (by decide) ?_
  refine g_dup (pc := 30) X dX5_init_30 rfl ?_
  refine g_callIN (pc := 31) (as := []) (rest := [.ref (O.size + 24), .ref (O.size + 3)]) X xc_X5_27 (k_X3_24 l G O _ rfl) dX5_init_31 rfl rfl (by decide) (Nat.le_of_ble_eq_true rfl) (fun r w2 hp => ?_)
  obtain ⟨rfl, rfl⟩ := hp
  refine g_eq (st2 := [.ref (O.size + 24), .ref (O.size + 3)]) rfl rfl rfl ?_
  refine g_put (pc := 34) (k := 3) (j := 2) (ci := 5) (fs := [.ref (O.size + 4), .ref (O.size + 6), .null, .null, .null]) X tyX5 dX5_init_34 (by decide) rfl rfl xu_5 tyX5_ok nmX5 (by decide) (show 2 < 5 by decide) xw_195 (Or.inr ⟨rfl, hin, rfl⟩) rfl rfl rfl ?_
  refine g_aload_n (pc := 37) X dX5_init_37 rfl rfl ?_
  refine g_bipush (pc := 38) (v := 16) X dX5_init_38 (by decide) ?_
  refine g_sipush (pc := 40) (v := 129) X dX5_init_40 (by decide) ?_
  refine g_mna (pc := 43) X 16 129 dX5_init_43 xw_189 xw_68 (by decide) (by decide) (by decide) (by decide) (by decide) ?_
  refine g_put (pc := 47) (k := 3) (j := 3) (ci := 5) (fs := [.ref (O.size + 4), .ref (O.size + 6), .ref (O.size + 24), .null, .null]) X tyX5 dX5_init_47 (by decide) rfl rfl xu_5 tyX5_ok nmX5 (by decide) (show 3 < 5 by decide) xw_198 (Or.inr ⟨rfl, hin, rfl⟩) rfl rfl rfl ?_
  refine g_aload_n (pc := 50) X dX5_init_50 rfl rfl ?_
  refine g_sipush (pc := 51) (v := 129) X dX5_init_51 (by decide) ?_
  refine g_newi (pc := 54) X 129 dX5_init_54 xw_68 (by decide) (by decide) (by decide) ?_
  refine g_put (pc := 56) (k := 3) (j := 4) (ci := 5) (fs := [.ref (O.size + 4), .ref (O.size + 6), .ref (O.size + 24), .ref (O.size + 25), .null]) X tyX5 dX5_init_56 (by decide) rfl rfl xu_5 tyX5_ok nmX5 (by decide) (show 4 < 5 by decide) xw_199 (Or.inr ⟨rfl, hin, rfl⟩) rfl rfl rfl ?_
  refine g_eqn (w2 := xk G O w 3) (fun j hj => ?_) ?_
  · by_cases hja : j < 3
    · unfold xk; rw [if_pos hja]
      have hne : ∀ k, 3 ≤ k → ¬ j = k := fun k hk he => by omega
      have hlt : ∀ k, 3 ≤ k → j < k := fun k hk => by omega
      simp only [xg_up, xg_mn, xk]
      repeat (first | rw [if_neg (hne _ (by decide))] | rw [if_pos (hlt _ (by decide))])
    · refine xall (n := 43) (a := 3) (P := fun j => _ = xk G O w 3 j) ?_ hja hj
      show ∀ q ∈ [3, 4, 5, 6, 7, 8, 9, 10, 11, 12, 13, 14, 15, 16, 17, 18, 19, 20, 21, 22, 23, 24, 25, 26, 27, 28, 29, 30, 31, 32, 33, 34, 35, 36, 37, 38, 39, 40, 41, 42], _
      exact xcons rfl (xcons rfl (xcons rfl (xcons rfl (xcons rfl (xcons rfl (xcons rfl (xcons rfl (xcons rfl (xcons rfl (xcons rfl (xcons rfl (xcons rfl (xcons rfl (xcons rfl (xcons rfl (xcons rfl (xcons rfl (xcons rfl (xcons rfl (xcons rfl (xcons rfl (xcons (xq_25 G O) (xcons rfl (xcons rfl (xcons rfl (xcons rfl (xcons rfl (xcons rfl (xcons rfl (xcons rfl (xcons rfl (xcons rfl (xcons rfl (xcons rfl (xcons rfl (xcons rfl (xcons rfl (xcons rfl (xcons rfl (xnil))))))))))))))))))))))))))))))))))))))))
  exact g_vret (pc := 59) X hr hk dX5_init_59 ⟨rfl, rfl⟩
abbrev rmX4_init : Room := { frames := 1, cells := 11, slots := 584, locals := 48 }
set_option maxRecDepth 100000 in
set_option maxHeartbeats 4000000 in
theorem k_X4_43 (l : Launch) (G : xg_G) (O : Heap) (w : Nat → va_E) (hw : w 43 = .inr (4, [.null, .null, .null, .int 0])) : xg_M True l yX4_init cX4_init 1 none rmX4_init G O 44 w [.ref (O.size + 43)] 55 11 584 (fun r w2 => r = none ∧ w2 = xk G O w 43) := by
  refine xg_enter (by decide) 0 rfl rfl ?_
  intro p e s m args below meth c X hr hk hin
  refine g_eq (L2 := [some (.ref (O.size + 43))]) rfl rfl rfl ?_
  refine g_aload_n (pc := 0) X dX4_init_0 rfl rfl ?_
  refine g_objInit (pc := 1) X dX4_init_1 xw_216 xw_52 xw_53 (by decide) (Nat.le_of_ble_eq_true rfl) ?_
  refine g_aload_n (pc := 4) X dX4_init_4 rfl rfl ?_
  refine g_bipush (pc := 5) (v := 8) X dX4_init_5 (by decide) ?_
  refine g_bipush (pc := 7) (v := 8) X dX4_init_7 (by decide) ?_
  refine g_mna (pc := 9) X 8 8 dX4_init_9 xw_217 xw_68 (by decide) (by decide) (by decide) (by decide) (by decide) ?_
  refine g_put (pc := 13) (k := 43) (j := 0) (ci := 4) (fs := [.null, .null, .null, .int 0]) X tyX4 dX4_init_13 (by decide) hw rfl xu_4 tyX4_ok nmX4 (by decide) (show 0 < 4 by decide) xw_218 (Or.inr ⟨rfl, hin, rfl⟩) rfl rfl rfl ?_
  refine g_aload_n (pc := 16) X dX4_init_16 rfl rfl ?_
  refine g_sipush (pc := 17) (v := 256) X dX4_init_17 (by decide) ?_
  refine g_newi (pc := 20) X 256 dX4_init_20 xw_68 (by decide) (by decide) (by decide) ?_
  refine g_put (pc := 22) (k := 43) (j := 1) (ci := 4) (fs := [.ref (O.size + 44), .null, .null, .int 0]) X tyX4 dX4_init_22 (by decide) rfl rfl xu_4 tyX4_ok nmX4 (by decide) (show 1 < 4 by decide) xw_219 (Or.inr ⟨rfl, hin, rfl⟩) rfl rfl rfl ?_
  refine g_aload_n (pc := 25) X dX4_init_25 rfl rfl ?_
  refine g_sipush (pc := 26) (v := 256) X dX4_init_26 (by decide) ?_
  refine g_newi (pc := 29) X 256 dX4_init_29 xw_68 (by decide) (by decide) (by decide) ?_
  refine g_put (pc := 31) (k := 43) (j := 2) (ci := 4) (fs := [.ref (O.size + 44), .ref (O.size + 53), .null, .int 0]) X tyX4 dX4_init_31 (by decide) rfl rfl xu_4 tyX4_ok nmX4 (by decide) (show 2 < 4 by decide) xw_220 (Or.inr ⟨rfl, hin, rfl⟩) rfl rfl rfl ?_
  refine g_aload_n (pc := 34) X dX4_init_34 rfl rfl ?_
  refine g_iconst (pc := 35) (v := 0) X dX4_init_35 (by decide) ?_
  refine g_put (pc := 36) (k := 43) (j := 3) (ci := 4) (fs := [.ref (O.size + 44), .ref (O.size + 53), .ref (O.size + 54), .int 0]) X tyX4 dX4_init_36 (by decide) rfl rfl xu_4 tyX4_ok nmX4 (by decide) (show 3 < 4 by decide) xw_221 (Or.inl rfl) rfl rfl rfl ?_
  refine g_eqn (w2 := xk G O w 43) (fun j hj => ?_) ?_
  · by_cases hja : j < 43
    · unfold xk; rw [if_pos hja]
      have hne : ∀ k, 43 ≤ k → ¬ j = k := fun k hk he => by omega
      have hlt : ∀ k, 43 ≤ k → j < k := fun k hk => by omega
      simp only [xg_up, xg_mn, xk]
      repeat (first | rw [if_neg (hne _ (by decide))] | rw [if_pos (hlt _ (by decide))])
    · refine xall (n := 55) (a := 43) (P := fun j => _ = xk G O w 43 j) ?_ hja hj
      show ∀ q ∈ [43, 44, 45, 46, 47, 48, 49, 50, 51, 52, 53, 54], _
      exact xcons rfl (xcons (xq_44 G O) (xcons rfl (xcons rfl (xcons rfl (xcons rfl (xcons rfl (xcons rfl (xcons rfl (xcons rfl (xcons rfl (xcons rfl (xnil))))))))))))
  exact g_vret (pc := 39) X hr hk dX4_init_39 ⟨rfl, rfl⟩
set_option maxRecDepth 100000 in
set_option maxHeartbeats 4000000 in
theorem k_X3_68 (l : Launch) (G : xg_G) (O : Heap) (w : Nat → va_E) (hw : w 68 = .inr (3, [.int 0, .int 0, .int 0, .int 0, .int 0, .int 0, .int 0])) : xg_M True l yX3_init cX3_init 1 none rmX3_init G O 69 w [.ref (O.size + 68)] 69 0 0 (fun r w2 => r = none ∧ w2 = xk G O w 68) := by
  refine xg_enter (by decide) 0 rfl rfl ?_
  intro p e s m args below meth c X hr hk hin
  refine g_eq (L2 := [some (.ref (O.size + 68))]) rfl rfl rfl ?_
  refine g_aload_n (pc := 0) X dX3_init_0 rfl rfl ?_
  refine g_objInit (pc := 1) X dX3_init_1 xw_149 xw_52 xw_53 (by decide) (Nat.le_of_ble_eq_true rfl) ?_
  refine g_aload_n (pc := 4) X dX3_init_4 rfl rfl ?_
  refine g_iconst (pc := 5) (v := (-1)) X dX3_init_5 (by decide) ?_
  refine g_put (pc := 6) (k := 68) (j := 0) (ci := 3) (fs := [.int 0, .int 0, .int 0, .int 0, .int 0, .int 0, .int 0]) X tyX3 dX3_init_6 (by decide) hw rfl xu_3 tyX3_ok nmX3 (by decide) (show 0 < 7 by decide) xw_150 (Or.inl rfl) rfl rfl rfl ?_
  refine g_aload_n (pc := 9) X dX3_init_9 rfl rfl ?_
  refine g_iconst (pc := 10) (v := (-1)) X dX3_init_10 (by decide) ?_
  refine g_put (pc := 11) (k := 68) (j := 1) (ci := 3) (fs := [.int (-1), .int 0, .int 0, .int 0, .int 0, .int 0, .int 0]) X tyX3 dX3_init_11 (by decide) rfl rfl xu_3 tyX3_ok nmX3 (by decide) (show 1 < 7 by decide) xw_153 (Or.inl rfl) rfl rfl rfl ?_
  refine g_aload_n (pc := 14) X dX3_init_14 rfl rfl ?_
  refine g_iconst (pc := 15) (v := (-1)) X dX3_init_15 (by decide) ?_
  refine g_put (pc := 16) (k := 68) (j := 2) (ci := 3) (fs := [.int (-1), .int (-1), .int 0, .int 0, .int 0, .int 0, .int 0]) X tyX3 dX3_init_16 (by decide) rfl rfl xu_3 tyX3_ok nmX3 (by decide) (show 2 < 7 by decide) xw_156 (Or.inl rfl) rfl rfl rfl ?_
  refine g_aload_n (pc := 19) X dX3_init_19 rfl rfl ?_
  refine g_iconst (pc := 20) (v := (-1)) X dX3_init_20 (by decide) ?_
  refine g_put (pc := 21) (k := 68) (j := 3) (ci := 3) (fs := [.int (-1), .int (-1), .int (-1), .int 0, .int 0, .int 0, .int 0]) X tyX3 dX3_init_21 (by decide) rfl rfl xu_3 tyX3_ok nmX3 (by decide) (show 3 < 7 by decide) xw_160 (Or.inl rfl) rfl rfl rfl ?_
  refine g_aload_n (pc := 24) X dX3_init_24 rfl rfl ?_
  refine g_iconst (pc := 25) (v := 0) X dX3_init_25 (by decide) ?_
  refine g_put (pc := 26) (k := 68) (j := 4) (ci := 3) (fs := [.int (-1), .int (-1), .int (-1), .int (-1), .int 0, .int 0, .int 0]) X tyX3 dX3_init_26 (by decide) rfl rfl xu_3 tyX3_ok nmX3 (by decide) (show 4 < 7 by decide) xw_165 (Or.inl rfl) rfl rfl rfl ?_
  refine g_aload_n (pc := 29) X dX3_init_29 rfl rfl ?_
  refine g_iconst (pc := 30) (v := 0) X dX3_init_30 (by decide) ?_
  refine g_put (pc := 31) (k := 68) (j := 5) (ci := 3) (fs := [.int (-1), .int (-1), .int (-1), .int (-1), .int 0, .int 0, .int 0]) X tyX3 dX3_init_31 (by decide) rfl rfl xu_3 tyX3_ok nmX3 (by decide) (show 5 < 7 by decide) xw_168 (Or.inl rfl) rfl rfl rfl ?_
  refine g_aload_n (pc := 34) X dX3_init_34 rfl rfl ?_
  refine g_iconst (pc := 35) (v := 0) X dX3_init_35 (by decide) ?_
  refine g_put (pc := 36) (k := 68) (j := 6) (ci := 3) (fs := [.int (-1), .int (-1), .int (-1), .int (-1), .int 0, .int 0, .int 0]) X tyX3 dX3_init_36 (by decide) rfl rfl xu_3 tyX3_ok nmX3 (by decide) (show 6 < 7 by decide) xw_171 (Or.inl rfl) rfl rfl rfl ?_
  refine g_eqn (w2 := xk G O w 68) (fun j hj => ?_) ?_
  · by_cases hja : j < 68
    · unfold xk; rw [if_pos hja]
      have hne : ∀ k, 68 ≤ k → ¬ j = k := fun k hk he => by omega
      have hlt : ∀ k, 68 ≤ k → j < k := fun k hk => by omega
      simp only [xg_up, xg_mn, xk]
      repeat (first | rw [if_neg (hne _ (by decide))] | rw [if_pos (hlt _ (by decide))])
    · refine xall (n := 69) (a := 68) (P := fun j => _ = xk G O w 68 j) ?_ hja hj
      show ∀ q ∈ [68], _
      exact xcons rfl (xnil)
  exact g_vret (pc := 39) X hr hk dX3_init_39 ⟨rfl, rfl⟩
set_option maxRecDepth 100000 in
set_option maxHeartbeats 4000000 in
theorem k_X3_69 (l : Launch) (G : xg_G) (O : Heap) (w : Nat → va_E) (hw : w 69 = .inr (3, [.int 0, .int 0, .int 0, .int 0, .int 0, .int 0, .int 0])) : xg_M True l yX3_init cX3_init 1 none rmX3_init G O 70 w [.ref (O.size + 69)] 70 0 0 (fun r w2 => r = none ∧ w2 = xk G O w 69) := by
  refine xg_enter (by decide) 0 rfl rfl ?_
  intro p e s m args below meth c X hr hk hin
  refine g_eq (L2 := [some (.ref (O.size + 69))]) rfl rfl rfl ?_
  refine g_aload_n (pc := 0) X dX3_init_0 rfl rfl ?_
  refine g_objInit (pc := 1) X dX3_init_1 xw_149 xw_52 xw_53 (by decide) (Nat.le_of_ble_eq_true rfl) ?_
  refine g_aload_n (pc := 4) X dX3_init_4 rfl rfl ?_
  refine g_iconst (pc := 5) (v := (-1)) X dX3_init_5 (by decide) ?_
  refine g_put (pc := 6) (k := 69) (j := 0) (ci := 3) (fs := [.int 0, .int 0, .int 0, .int 0, .int 0, .int 0, .int 0]) X tyX3 dX3_init_6 (by decide) hw rfl xu_3 tyX3_ok nmX3 (by decide) (show 0 < 7 by decide) xw_150 (Or.inl rfl) rfl rfl rfl ?_
  refine g_aload_n (pc := 9) X dX3_init_9 rfl rfl ?_
  refine g_iconst (pc := 10) (v := (-1)) X dX3_init_10 (by decide) ?_
  refine g_put (pc := 11) (k := 69) (j := 1) (ci := 3) (fs := [.int (-1), .int 0, .int 0, .int 0, .int 0, .int 0, .int 0]) X tyX3 dX3_init_11 (by decide) rfl rfl xu_3 tyX3_ok nmX3 (by decide) (show 1 < 7 by decide) xw_153 (Or.inl rfl) rfl rfl rfl ?_
  refine g_aload_n (pc := 14) X dX3_init_14 rfl rfl ?_
  refine g_iconst (pc := 15) (v := (-1)) X dX3_init_15 (by decide) ?_
  refine g_put (pc := 16) (k := 69) (j := 2) (ci := 3) (fs := [.int (-1), .int (-1), .int 0, .int 0, .int 0, .int 0, .int 0]) X tyX3 dX3_init_16 (by decide) rfl rfl xu_3 tyX3_ok nmX3 (by decide) (show 2 < 7 by decide) xw_156 (Or.inl rfl) rfl rfl rfl ?_
  refine g_aload_n (pc := 19) X dX3_init_19 rfl rfl ?_
  refine g_iconst (pc := 20) (v := (-1)) X dX3_init_20 (by decide) ?_
  refine g_put (pc := 21) (k := 69) (j := 3) (ci := 3) (fs := [.int (-1), .int (-1), .int (-1), .int 0, .int 0, .int 0, .int 0]) X tyX3 dX3_init_21 (by decide) rfl rfl xu_3 tyX3_ok nmX3 (by decide) (show 3 < 7 by decide) xw_160 (Or.inl rfl) rfl rfl rfl ?_
  refine g_aload_n (pc := 24) X dX3_init_24 rfl rfl ?_
  refine g_iconst (pc := 25) (v := 0) X dX3_init_25 (by decide) ?_
  refine g_put (pc := 26) (k := 69) (j := 4) (ci := 3) (fs := [.int (-1), .int (-1), .int (-1), .int (-1), .int 0, .int 0, .int 0]) X tyX3 dX3_init_26 (by decide) rfl rfl xu_3 tyX3_ok nmX3 (by decide) (show 4 < 7 by decide) xw_165 (Or.inl rfl) rfl rfl rfl ?_
  refine g_aload_n (pc := 29) X dX3_init_29 rfl rfl ?_
  refine g_iconst (pc := 30) (v := 0) X dX3_init_30 (by decide) ?_
  refine g_put (pc := 31) (k := 69) (j := 5) (ci := 3) (fs := [.int (-1), .int (-1), .int (-1), .int (-1), .int 0, .int 0, .int 0]) X tyX3 dX3_init_31 (by decide) rfl rfl xu_3 tyX3_ok nmX3 (by decide) (show 5 < 7 by decide) xw_168 (Or.inl rfl) rfl rfl rfl ?_
  refine g_aload_n (pc := 34) X dX3_init_34 rfl rfl ?_
  refine g_iconst (pc := 35) (v := 0) X dX3_init_35 (by decide) ?_
  refine g_put (pc := 36) (k := 69) (j := 6) (ci := 3) (fs := [.int (-1), .int (-1), .int (-1), .int (-1), .int 0, .int 0, .int 0]) X tyX3 dX3_init_36 (by decide) rfl rfl xu_3 tyX3_ok nmX3 (by decide) (show 6 < 7 by decide) xw_171 (Or.inl rfl) rfl rfl rfl ?_
  refine g_eqn (w2 := xk G O w 69) (fun j hj => ?_) ?_
  · by_cases hja : j < 69
    · unfold xk; rw [if_pos hja]
      have hne : ∀ k, 69 ≤ k → ¬ j = k := fun k hk he => by omega
      have hlt : ∀ k, 69 ≤ k → j < k := fun k hk => by omega
      simp only [xg_up, xg_mn, xk]
      repeat (first | rw [if_neg (hne _ (by decide))] | rw [if_pos (hlt _ (by decide))])
    · refine xall (n := 70) (a := 69) (P := fun j => _ = xk G O w 69 j) ?_ hja hj
      show ∀ q ∈ [69], _
      exact xcons rfl (xnil)
  exact g_vret (pc := 39) X hr hk dX3_init_39 ⟨rfl, rfl⟩
set_option maxRecDepth 100000 in
set_option maxHeartbeats 4000000 in
theorem k_X3_70 (l : Launch) (G : xg_G) (O : Heap) (w : Nat → va_E) (hw : w 70 = .inr (3, [.int 0, .int 0, .int 0, .int 0, .int 0, .int 0, .int 0])) : xg_M True l yX3_init cX3_init 1 none rmX3_init G O 71 w [.ref (O.size + 70)] 71 0 0 (fun r w2 => r = none ∧ w2 = xk G O w 70) := by
  refine xg_enter (by decide) 0 rfl rfl ?_
  intro p e s m args below meth c X hr hk hin
  refine g_eq (L2 := [some (.ref (O.size + 70))]) rfl rfl rfl ?_
  refine g_aload_n (pc := 0) X dX3_init_0 rfl rfl ?_
  refine g_objInit (pc := 1) X dX3_init_1 xw_149 xw_52 xw_53 (by decide) (Nat.le_of_ble_eq_true rfl) ?_
  refine g_aload_n (pc := 4) X dX3_init_4 rfl rfl ?_
  refine g_iconst (pc := 5) (v := (-1)) X dX3_init_5 (by decide) ?_
  refine g_put (pc := 6) (k := 70) (j := 0) (ci := 3) (fs := [.int 0, .int 0, .int 0, .int 0, .int 0, .int 0, .int 0]) X tyX3 dX3_init_6 (by decide) hw rfl xu_3 tyX3_ok nmX3 (by decide) (show 0 < 7 by decide) xw_150 (Or.inl rfl) rfl rfl rfl ?_
  refine g_aload_n (pc := 9) X dX3_init_9 rfl rfl ?_
  refine g_iconst (pc := 10) (v := (-1)) X dX3_init_10 (by decide) ?_
  refine g_put (pc := 11) (k := 70) (j := 1) (ci := 3) (fs := [.int (-1), .int 0, .int 0, .int 0, .int 0, .int 0, .int 0]) X tyX3 dX3_init_11 (by decide) rfl rfl xu_3 tyX3_ok nmX3 (by decide) (show 1 < 7 by decide) xw_153 (Or.inl rfl) rfl rfl rfl ?_
  refine g_aload_n (pc := 14) X dX3_init_14 rfl rfl ?_
  refine g_iconst (pc := 15) (v := (-1)) X dX3_init_15 (by decide) ?_
  refine g_put (pc := 16) (k := 70) (j := 2) (ci := 3) (fs := [.int (-1), .int (-1), .int 0, .int 0, .int 0, .int 0, .int 0]) X tyX3 dX3_init_16 (by decide) rfl rfl xu_3 tyX3_ok nmX3 (by decide) (show 2 < 7 by decide) xw_156 (Or.inl rfl) rfl rfl rfl ?_
  refine g_aload_n (pc := 19) X dX3_init_19 rfl rfl ?_
  refine g_iconst (pc := 20) (v := (-1)) X dX3_init_20 (by decide) ?_
  refine g_put (pc := 21) (k := 70) (j := 3) (ci := 3) (fs := [.int (-1), .int (-1), .int (-1), .int 0, .int 0, .int 0, .int 0]) X tyX3 dX3_init_21 (by decide) rfl rfl xu_3 tyX3_ok nmX3 (by decide) (show 3 < 7 by decide) xw_160 (Or.inl rfl) rfl rfl rfl ?_
  refine g_aload_n (pc := 24) X dX3_init_24 rfl rfl ?_
  refine g_iconst (pc := 25) (v := 0) X dX3_init_25 (by decide) ?_
  refine g_put (pc := 26) (k := 70) (j := 4) (ci := 3) (fs := [.int (-1), .int (-1), .int (-1), .int (-1), .int 0, .int 0, .int 0]) X tyX3 dX3_init_26 (by decide) rfl rfl xu_3 tyX3_ok nmX3 (by decide) (show 4 < 7 by decide) xw_165 (Or.inl rfl) rfl rfl rfl ?_
  refine g_aload_n (pc := 29) X dX3_init_29 rfl rfl ?_
  refine g_iconst (pc := 30) (v := 0) X dX3_init_30 (by decide) ?_
  refine g_put (pc := 31) (k := 70) (j := 5) (ci := 3) (fs := [.int (-1), .int (-1), .int (-1), .int (-1), .int 0, .int 0, .int 0]) X tyX3 dX3_init_31 (by decide) rfl rfl xu_3 tyX3_ok nmX3 (by decide) (show 5 < 7 by decide) xw_168 (Or.inl rfl) rfl rfl rfl ?_
  refine g_aload_n (pc := 34) X dX3_init_34 rfl rfl ?_
  refine g_iconst (pc := 35) (v := 0) X dX3_init_35 (by decide) ?_
  refine g_put (pc := 36) (k := 70) (j := 6) (ci := 3) (fs := [.int (-1), .int (-1), .int (-1), .int (-1), .int 0, .int 0, .int 0]) X tyX3 dX3_init_36 (by decide) rfl rfl xu_3 tyX3_ok nmX3 (by decide) (show 6 < 7 by decide) xw_171 (Or.inl rfl) rfl rfl rfl ?_
  refine g_eqn (w2 := xk G O w 70) (fun j hj => ?_) ?_
  · by_cases hja : j < 70
    · unfold xk; rw [if_pos hja]
      have hne : ∀ k, 70 ≤ k → ¬ j = k := fun k hk he => by omega
      have hlt : ∀ k, 70 ≤ k → j < k := fun k hk => by omega
      simp only [xg_up, xg_mn, xk]
      repeat (first | rw [if_neg (hne _ (by decide))] | rw [if_pos (hlt _ (by decide))])
    · refine xall (n := 71) (a := 70) (P := fun j => _ = xk G O w 70 j) ?_ hja hj
      show ∀ q ∈ [70], _
      exact xcons rfl (xnil)
  exact g_vret (pc := 39) X hr hk dX3_init_39 ⟨rfl, rfl⟩
set_option maxRecDepth 100000 in
set_option maxHeartbeats 4000000 in
theorem k_X3_71 (l : Launch) (G : xg_G) (O : Heap) (w : Nat → va_E) (hw : w 71 = .inr (3, [.int 0, .int 0, .int 0, .int 0, .int 0, .int 0, .int 0])) : xg_M True l yX3_init cX3_init 1 none rmX3_init G O 72 w [.ref (O.size + 71)] 72 0 0 (fun r w2 => r = none ∧ w2 = xk G O w 71) := by
  refine xg_enter (by decide) 0 rfl rfl ?_
  intro p e s m args below meth c X hr hk hin
  refine g_eq (L2 := [some (.ref (O.size + 71))]) rfl rfl rfl ?_
  refine g_aload_n (pc := 0) X dX3_init_0 rfl rfl ?_
  refine g_objInit (pc := 1) X dX3_init_1 xw_149 xw_52 xw_53 (by decide) (Nat.le_of_ble_eq_true rfl) ?_
  refine g_aload_n (pc := 4) X dX3_init_4 rfl rfl ?_
  refine g_iconst (pc := 5) (v := (-1)) X dX3_init_5 (by decide) ?_
  refine g_put (pc := 6) (k := 71) (j := 0) (ci := 3) (fs := [.int 0, .int 0, .int 0, .int 0, .int 0, .int 0, .int 0]) X tyX3 dX3_init_6 (by decide) hw rfl xu_3 tyX3_ok nmX3 (by decide) (show 0 < 7 by decide) xw_150 (Or.inl rfl) rfl rfl rfl ?_
  refine g_aload_n (pc := 9) X dX3_init_9 rfl rfl ?_
  refine g_iconst (pc := 10) (v := (-1)) X dX3_init_10 (by decide) ?_
  refine g_put (pc := 11) (k := 71) (j := 1) (ci := 3) (fs := [.int (-1), .int 0, .int 0, .int 0, .int 0, .int 0, .int 0]) X tyX3 dX3_init_11 (by decide) rfl rfl xu_3 tyX3_ok nmX3 (by decide) (show 1 < 7 by decide) xw_153 (Or.inl rfl) rfl rfl rfl ?_
  refine g_aload_n (pc := 14) X dX3_init_14 rfl rfl ?_
  refine g_iconst (pc := 15) (v := (-1)) X dX3_init_15 (by decide) ?_
  refine g_put (pc := 16) (k := 71) (j := 2) (ci := 3) (fs := [.int (-1), .int (-1), .int 0, .int 0, .int 0, .int 0, .int 0]) X tyX3 dX3_init_16 (by decide) rfl rfl xu_3 tyX3_ok nmX3 (by decide) (show 2 < 7 by decide) xw_156 (Or.inl rfl) rfl rfl rfl ?_
  refine g_aload_n (pc := 19) X dX3_init_19 rfl rfl ?_
  refine g_iconst (pc := 20) (v := (-1)) X dX3_init_20 (by decide) ?_
  refine g_put (pc := 21) (k := 71) (j := 3) (ci := 3) (fs := [.int (-1), .int (-1), .int (-1), .int 0, .int 0, .int 0, .int 0]) X tyX3 dX3_init_21 (by decide) rfl rfl xu_3 tyX3_ok nmX3 (by decide) (show 3 < 7 by decide) xw_160 (Or.inl rfl) rfl rfl rfl ?_
  refine g_aload_n (pc := 24) X dX3_init_24 rfl rfl ?_
  refine g_iconst (pc := 25) (v := 0) X dX3_init_25 (by decide) ?_
  refine g_put (pc := 26) (k := 71) (j := 4) (ci := 3) (fs := [.int (-1), .int (-1), .int (-1), .int (-1), .int 0, .int 0, .int 0]) X tyX3 dX3_init_26 (by decide) rfl rfl xu_3 tyX3_ok nmX3 (by decide) (show 4 < 7 by decide) xw_165 (Or.inl rfl) rfl rfl rfl ?_
  refine g_aload_n (pc := 29) X dX3_init_29 rfl rfl ?_
  refine g_iconst (pc := 30) (v := 0) X dX3_init_30 (by decide) ?_
  refine g_put (pc := 31) (k := 71) (j := 5) (ci := 3) (fs := [.int (-1), .int (-1), .int (-1), .int (-1), .int 0, .int 0, .int 0]) X tyX3 dX3_init_31 (by decide) rfl rfl xu_3 tyX3_ok nmX3 (by decide) (show 5 < 7 by decide) xw_168 (Or.inl rfl) rfl rfl rfl ?_
  refine g_aload_n (pc := 34) X dX3_init_34 rfl rfl ?_
  refine g_iconst (pc := 35) (v := 0) X dX3_init_35 (by decide) ?_
  refine g_put (pc := 36) (k := 71) (j := 6) (ci := 3) (fs := [.int (-1), .int (-1), .int (-1), .int (-1), .int 0, .int 0, .int 0]) X tyX3 dX3_init_36 (by decide) rfl rfl xu_3 tyX3_ok nmX3 (by decide) (show 6 < 7 by decide) xw_171 (Or.inl rfl) rfl rfl rfl ?_
  refine g_eqn (w2 := xk G O w 71) (fun j hj => ?_) ?_
  · by_cases hja : j < 71
    · unfold xk; rw [if_pos hja]
      have hne : ∀ k, 71 ≤ k → ¬ j = k := fun k hk he => by omega
      have hlt : ∀ k, 71 ≤ k → j < k := fun k hk => by omega
      simp only [xg_up, xg_mn, xk]
      repeat (first | rw [if_neg (hne _ (by decide))] | rw [if_pos (hlt _ (by decide))])
    · refine xall (n := 72) (a := 71) (P := fun j => _ = xk G O w 71 j) ?_ hja hj
      show ∀ q ∈ [71], _
      exact xcons rfl (xnil)
  exact g_vret (pc := 39) X hr hk dX3_init_39 ⟨rfl, rfl⟩
set_option maxRecDepth 100000 in
set_option maxHeartbeats 4000000 in
theorem k_X3_72 (l : Launch) (G : xg_G) (O : Heap) (w : Nat → va_E) (hw : w 72 = .inr (3, [.int 0, .int 0, .int 0, .int 0, .int 0, .int 0, .int 0])) : xg_M True l yX3_init cX3_init 1 none rmX3_init G O 73 w [.ref (O.size + 72)] 73 0 0 (fun r w2 => r = none ∧ w2 = xk G O w 72) := by
  refine xg_enter (by decide) 0 rfl rfl ?_
  intro p e s m args below meth c X hr hk hin
  refine g_eq (L2 := [some (.ref (O.size + 72))]) rfl rfl rfl ?_
  refine g_aload_n (pc := 0) X dX3_init_0 rfl rfl ?_
  refine g_objInit (pc := 1) X dX3_init_1 xw_149 xw_52 xw_53 (by decide) (Nat.le_of_ble_eq_true rfl) ?_
  refine g_aload_n (pc := 4) X dX3_init_4 rfl rfl ?_
  refine g_iconst (pc := 5) (v := (-1)) X dX3_init_5 (by decide) ?_
  refine g_put (pc := 6) (k := 72) (j := 0) (ci := 3) (fs := [.int 0, .int 0, .int 0, .int 0, .int 0, .int 0, .int 0]) X tyX3 dX3_init_6 (by decide) hw rfl xu_3 tyX3_ok nmX3 (by decide) (show 0 < 7 by decide) xw_150 (Or.inl rfl) rfl rfl rfl ?_
  refine g_aload_n (pc := 9) X dX3_init_9 rfl rfl ?_
  refine g_iconst (pc := 10) (v := (-1)) X dX3_init_10 (by decide) ?_
  refine g_put (pc := 11) (k := 72) (j := 1) (ci := 3) (fs := [.int (-1), .int 0, .int 0, .int 0, .int 0, .int 0, .int 0]) X tyX3 dX3_init_11 (by decide) rfl rfl xu_3 tyX3_ok nmX3 (by decide) (show 1 < 7 by decide) xw_153 (Or.inl rfl) rfl rfl rfl ?_
  refine g_aload_n (pc := 14) X dX3_init_14 rfl rfl ?_
  refine g_iconst (pc := 15) (v := (-1)) X dX3_init_15 (by decide) ?_
  refine g_put (pc := 16) (k := 72) (j := 2) (ci := 3) (fs := [.int (-1), .int (-1), .int 0, .int 0, .int 0, .int 0, .int 0]) X tyX3 dX3_init_16 (by decide) rfl rfl xu_3 tyX3_ok nmX3 (by decide) (show 2 < 7 by decide) xw_156 (Or.inl rfl) rfl rfl rfl ?_
  refine g_aload_n (pc := 19) X dX3_init_19 rfl rfl ?_
  refine g_iconst (pc := 20) (v := (-1)) X dX3_init_20 (by decide) ?_
  refine g_put (pc := 21) (k := 72) (j := 3) (ci := 3) (fs := [.int (-1), .int (-1), .int (-1), .int 0, .int 0, .int 0, .int 0]) X tyX3 dX3_init_21 (by decide) rfl rfl xu_3 tyX3_ok nmX3 (by decide) (show 3 < 7 by decide) xw_160 (Or.inl rfl) rfl rfl rfl ?_
  refine g_aload_n (pc := 24) X dX3_init_24 rfl rfl ?_
  refine g_iconst (pc := 25) (v := 0) X dX3_init_25 (by decide) ?_
  refine g_put (pc := 26) (k := 72) (j := 4) (ci := 3) (fs := [.int (-1), .int (-1), .int (-1), .int (-1), .int 0, .int 0, .int 0]) X tyX3 dX3_init_26 (by decide) rfl rfl xu_3 tyX3_ok nmX3 (by decide) (show 4 < 7 by decide) xw_165 (Or.inl rfl) rfl rfl rfl ?_
  refine g_aload_n (pc := 29) X dX3_init_29 rfl rfl ?_
  refine g_iconst (pc := 30) (v := 0) X dX3_init_30 (by decide) ?_
  refine g_put (pc := 31) (k := 72) (j := 5) (ci := 3) (fs := [.int (-1), .int (-1), .int (-1), .int (-1), .int 0, .int 0, .int 0]) X tyX3 dX3_init_31 (by decide) rfl rfl xu_3 tyX3_ok nmX3 (by decide) (show 5 < 7 by decide) xw_168 (Or.inl rfl) rfl rfl rfl ?_
  refine g_aload_n (pc := 34) X dX3_init_34 rfl rfl ?_
  refine g_iconst (pc := 35) (v := 0) X dX3_init_35 (by decide) ?_
  refine g_put (pc := 36) (k := 72) (j := 6) (ci := 3) (fs := [.int (-1), .int (-1), .int (-1), .int (-1), .int 0, .int 0, .int 0]) X tyX3 dX3_init_36 (by decide) rfl rfl xu_3 tyX3_ok nmX3 (by decide) (show 6 < 7 by decide) xw_171 (Or.inl rfl) rfl rfl rfl ?_
  refine g_eqn (w2 := xk G O w 72) (fun j hj => ?_) ?_
  · by_cases hja : j < 72
    · unfold xk; rw [if_pos hja]
      have hne : ∀ k, 72 ≤ k → ¬ j = k := fun k hk he => by omega
      have hlt : ∀ k, 72 ≤ k → j < k := fun k hk => by omega
      simp only [xg_up, xg_mn, xk]
      repeat (first | rw [if_neg (hne _ (by decide))] | rw [if_pos (hlt _ (by decide))])
    · refine xall (n := 73) (a := 72) (P := fun j => _ = xk G O w 72 j) ?_ hja hj
      show ∀ q ∈ [72], _
      exact xcons rfl (xnil)
  exact g_vret (pc := 39) X hr hk dX3_init_39 ⟨rfl, rfl⟩
set_option maxRecDepth 100000 in
set_option maxHeartbeats 4000000 in
theorem k_X3_73 (l : Launch) (G : xg_G) (O : Heap) (w : Nat → va_E) (hw : w 73 = .inr (3, [.int 0, .int 0, .int 0, .int 0, .int 0, .int 0, .int 0])) : xg_M True l yX3_init cX3_init 1 none rmX3_init G O 74 w [.ref (O.size + 73)] 74 0 0 (fun r w2 => r = none ∧ w2 = xk G O w 73) := by
  refine xg_enter (by decide) 0 rfl rfl ?_
  intro p e s m args below meth c X hr hk hin
  refine g_eq (L2 := [some (.ref (O.size + 73))]) rfl rfl rfl ?_
  refine g_aload_n (pc := 0) X dX3_init_0 rfl rfl ?_
  refine g_objInit (pc := 1) X dX3_init_1 xw_149 xw_52 xw_53 (by decide) (Nat.le_of_ble_eq_true rfl) ?_
  refine g_aload_n (pc := 4) X dX3_init_4 rfl rfl ?_
  refine g_iconst (pc := 5) (v := (-1)) X dX3_init_5 (by decide) ?_
  refine g_put (pc := 6) (k := 73) (j := 0) (ci := 3) (fs := [.int 0, .int 0, .int 0, .int 0, .int 0, .int 0, .int 0]) X tyX3 dX3_init_6 (by decide) hw rfl xu_3 tyX3_ok nmX3 (by decide) (show 0 < 7 by decide) xw_150 (Or.inl rfl) rfl rfl rfl ?_
  refine g_aload_n (pc := 9) X dX3_init_9 rfl rfl ?_
  refine g_iconst (pc := 10) (v := (-1)) X dX3_init_10 (by decide) ?_
  refine g_put (pc := 11) (k := 73) (j := 1) (ci := 3) (fs := [.int (-1), .int 0, .int 0, .int 0, .int 0, .int 0, .int 0]) X tyX3 dX3_init_11 (by decide) rfl rfl xu_3 tyX3_ok nmX3 (by decide) (show 1 < 7 by decide) xw_153 (Or.inl rfl) rfl rfl rfl ?_
  refine g_aload_n (pc := 14) X dX3_init_14 rfl rfl ?_
  refine g_iconst (pc := 15) (v := (-1)) X dX3_init_15 (by decide) ?_
  refine g_put (pc := 16) (k := 73) (j := 2) (ci := 3) (fs := [.int (-1), .int (-1), .int 0, .int 0, .int 0, .int 0, .int 0]) X tyX3 dX3_init_16 (by decide) rfl rfl xu_3 tyX3_ok nmX3 (by decide) (show 2 < 7 by decide) xw_156 (Or.inl rfl) rfl rfl rfl ?_
  refine g_aload_n (pc := 19) X dX3_init_19 rfl rfl ?_
  refine g_iconst (pc := 20) (v := (-1)) X dX3_init_20 (by decide) ?_
  refine g_put (pc := 21) (k := 73) (j := 3) (ci := 3) (fs := [.int (-1), .int (-1), .int (-1), .int 0, .int 0, .int 0, .int 0]) X tyX3 dX3_init_21 (by decide) rfl rfl xu_3 tyX3_ok nmX3 (by decide) (show 3 < 7 by decide) xw_160 (Or.inl rfl) rfl rfl rfl ?_
  refine g_aload_n (pc := 24) X dX3_init_24 rfl rfl ?_
  refine g_iconst (pc := 25) (v := 0) X dX3_init_25 (by decide) ?_
  refine g_put (pc := 26) (k := 73) (j := 4) (ci := 3) (fs := [.int (-1), .int (-1), .int (-1), .int (-1), .int 0, .int 0, .int 0]) X tyX3 dX3_init_26 (by decide) rfl rfl xu_3 tyX3_ok nmX3 (by decide) (show 4 < 7 by decide) xw_165 (Or.inl rfl) rfl rfl rfl ?_
  refine g_aload_n (pc := 29) X dX3_init_29 rfl rfl ?_
  refine g_iconst (pc := 30) (v := 0) X dX3_init_30 (by decide) ?_
  refine g_put (pc := 31) (k := 73) (j := 5) (ci := 3) (fs := [.int (-1), .int (-1), .int (-1), .int (-1), .int 0, .int 0, .int 0]) X tyX3 dX3_init_31 (by decide) rfl rfl xu_3 tyX3_ok nmX3 (by decide) (show 5 < 7 by decide) xw_168 (Or.inl rfl) rfl rfl rfl ?_
  refine g_aload_n (pc := 34) X dX3_init_34 rfl rfl ?_
  refine g_iconst (pc := 35) (v := 0) X dX3_init_35 (by decide) ?_
  refine g_put (pc := 36) (k := 73) (j := 6) (ci := 3) (fs := [.int (-1), .int (-1), .int (-1), .int (-1), .int 0, .int 0, .int 0]) X tyX3 dX3_init_36 (by decide) rfl rfl xu_3 tyX3_ok nmX3 (by decide) (show 6 < 7 by decide) xw_171 (Or.inl rfl) rfl rfl rfl ?_
  refine g_eqn (w2 := xk G O w 73) (fun j hj => ?_) ?_
  · by_cases hja : j < 73
    · unfold xk; rw [if_pos hja]
      have hne : ∀ k, 73 ≤ k → ¬ j = k := fun k hk he => by omega
      have hlt : ∀ k, 73 ≤ k → j < k := fun k hk => by omega
      simp only [xg_up, xg_mn, xk]
      repeat (first | rw [if_neg (hne _ (by decide))] | rw [if_pos (hlt _ (by decide))])
    · refine xall (n := 74) (a := 73) (P := fun j => _ = xk G O w 73 j) ?_ hja hj
      show ∀ q ∈ [73], _
      exact xcons rfl (xnil)
  exact g_vret (pc := 39) X hr hk dX3_init_39 ⟨rfl, rfl⟩
set_option maxRecDepth 100000 in
set_option maxHeartbeats 4000000 in
theorem k_X3_74 (l : Launch) (G : xg_G) (O : Heap) (w : Nat → va_E) (hw : w 74 = .inr (3, [.int 0, .int 0, .int 0, .int 0, .int 0, .int 0, .int 0])) : xg_M True l yX3_init cX3_init 1 none rmX3_init G O 75 w [.ref (O.size + 74)] 75 0 0 (fun r w2 => r = none ∧ w2 = xk G O w 74) := by
  refine xg_enter (by decide) 0 rfl rfl ?_
  intro p e s m args below meth c X hr hk hin
  refine g_eq (L2 := [some (.ref (O.size + 74))]) rfl rfl rfl ?_
  refine g_aload_n (pc := 0) X dX3_init_0 rfl rfl ?_
  refine g_objInit (pc := 1) X dX3_init_1 xw_149 xw_52 xw_53 (by decide) (Nat.le_of_ble_eq_true rfl) ?_
  refine g_aload_n (pc := 4) X dX3_init_4 rfl rfl ?_
  refine g_iconst (pc := 5) (v := (-1)) X dX3_init_5 (by decide) ?_
  refine g_put (pc := 6) (k := 74) (j := 0) (ci := 3) (fs := [.int 0, .int 0, .int 0, .int 0, .int 0, .int 0, .int 0]) X tyX3 dX3_init_6 (by decide) hw rfl xu_3 tyX3_ok nmX3 (by decide) (show 0 < 7 by decide) xw_150 (Or.inl rfl) rfl rfl rfl ?_
  refine g_aload_n (pc := 9) X dX3_init_9 rfl rfl ?_
  refine g_iconst (pc := 10) (v := (-1)) X dX3_init_10 (by decide) ?_
  refine g_put (pc := 11) (k := 74) (j := 1) (ci := 3) (fs := [.int (-1), .int 0, .int 0, .int 0, .int 0, .int 0, .int 0]) X tyX3 dX3_init_11 (by decide) rfl rfl xu_3 tyX3_ok nmX3 (by decide) (show 1 < 7 by decide) xw_153 (Or.inl rfl) rfl rfl rfl ?_
  refine g_aload_n (pc := 14) X dX3_init_14 rfl rfl ?_
  refine g_iconst (pc := 15) (v := (-1)) X dX3_init_15 (by decide) ?_
  refine g_put (pc := 16) (k := 74) (j := 2) (ci := 3) (fs := [.int (-1), .int (-1), .int 0, .int 0, .int 0, .int 0, .int 0]) X tyX3 dX3_init_16 (by decide) rfl rfl xu_3 tyX3_ok nmX3 (by decide) (show 2 < 7 by decide) xw_156 (Or.inl rfl) rfl rfl rfl ?_
  refine g_aload_n (pc := 19) X dX3_init_19 rfl rfl ?_
  refine g_iconst (pc := 20) (v := (-1)) X dX3_init_20 (by decide) ?_
  refine g_put (pc := 21) (k := 74) (j := 3) (ci := 3) (fs := [.int (-1), .int (-1), .int (-1), .int 0, .int 0, .int 0, .int 0]) X tyX3 dX3_init_21 (by decide) rfl rfl xu_3 tyX3_ok nmX3 (by decide) (show 3 < 7 by decide) xw_160 (Or.inl rfl) rfl rfl rfl ?_
  refine g_aload_n (pc := 24) X dX3_init_24 rfl rfl ?_
  refine g_iconst (pc := 25) (v := 0) X dX3_init_25 (by decide) ?_
  refine g_put (pc := 26) (k := 74) (j := 4) (ci := 3) (fs := [.int (-1), .int (-1), .int (-1), .int (-1), .int 0, .int 0, .int 0]) X tyX3 dX3_init_26 (by decide) rfl rfl xu_3 tyX3_ok nmX3 (by decide) (show 4 < 7 by decide) xw_165 (Or.inl rfl) rfl rfl rfl ?_
  refine g_aload_n (pc := 29) X dX3_init_29 rfl rfl ?_
  refine g_iconst (pc := 30) (v := 0) X dX3_init_30 (by decide) ?_
  refine g_put (pc := 31) (k := 74) (j := 5) (ci := 3) (fs := [.int (-1), .int (-1), .int (-1), .int (-1), .int 0, .int 0, .int 0]) X tyX3 dX3_init_31 (by decide) rfl rfl xu_3 tyX3_ok nmX3 (by decide) (show 5 < 7 by decide) xw_168 (Or.inl rfl) rfl rfl rfl ?_
  refine g_aload_n (pc := 34) X dX3_init_34 rfl rfl ?_
  refine g_iconst (pc := 35) (v := 0) X dX3_init_35 (by decide) ?_
  refine g_put (pc := 36) (k := 74) (j := 6) (ci := 3) (fs := [.int (-1), .int (-1), .int (-1), .int (-1), .int 0, .int 0, .int 0]) X tyX3 dX3_init_36 (by decide) rfl rfl xu_3 tyX3_ok nmX3 (by decide) (show 6 < 7 by decide) xw_171 (Or.inl rfl) rfl rfl rfl ?_
  refine g_eqn (w2 := xk G O w 74) (fun j hj => ?_) ?_
  · by_cases hja : j < 74
    · unfold xk; rw [if_pos hja]
      have hne : ∀ k, 74 ≤ k → ¬ j = k := fun k hk he => by omega
      have hlt : ∀ k, 74 ≤ k → j < k := fun k hk => by omega
      simp only [xg_up, xg_mn, xk]
      repeat (first | rw [if_neg (hne _ (by decide))] | rw [if_pos (hlt _ (by decide))])
    · refine xall (n := 75) (a := 74) (P := fun j => _ = xk G O w 74 j) ?_ hja hj
      show ∀ q ∈ [74], _
      exact xcons rfl (xnil)
  exact g_vret (pc := 39) X hr hk dX3_init_39 ⟨rfl, rfl⟩
set_option maxRecDepth 100000 in
set_option maxHeartbeats 4000000 in
theorem k_X3_75 (l : Launch) (G : xg_G) (O : Heap) (w : Nat → va_E) (hw : w 75 = .inr (3, [.int 0, .int 0, .int 0, .int 0, .int 0, .int 0, .int 0])) : xg_M True l yX3_init cX3_init 1 none rmX3_init G O 76 w [.ref (O.size + 75)] 76 0 0 (fun r w2 => r = none ∧ w2 = xk G O w 75) := by
  refine xg_enter (by decide) 0 rfl rfl ?_
  intro p e s m args below meth c X hr hk hin
  refine g_eq (L2 := [some (.ref (O.size + 75))]) rfl rfl rfl ?_
  refine g_aload_n (pc := 0) X dX3_init_0 rfl rfl ?_
  refine g_objInit (pc := 1) X dX3_init_1 xw_149 xw_52 xw_53 (by decide) (Nat.le_of_ble_eq_true rfl) ?_
  refine g_aload_n (pc := 4) X dX3_init_4 rfl rfl ?_
  refine g_iconst (pc := 5) (v := (-1)) X dX3_init_5 (by decide) ?_
  refine g_put (pc := 6) (k := 75) (j := 0) (ci := 3) (fs := [.int 0, .int 0, .int 0, .int 0, .int 0, .int 0, .int 0]) X tyX3 dX3_init_6 (by decide) hw rfl xu_3 tyX3_ok nmX3 (by decide) (show 0 < 7 by decide) xw_150 (Or.inl rfl) rfl rfl rfl ?_
  refine g_aload_n (pc := 9) X dX3_init_9 rfl rfl ?_
  refine g_iconst (pc := 10) (v := (-1)) X dX3_init_10 (by decide) ?_
  refine g_put (pc := 11) (k := 75) (j := 1) (ci := 3) (fs := [.int (-1), .int 0, .int 0, .int 0, .int 0, .int 0, .int 0]) X tyX3 dX3_init_11 (by decide) rfl rfl xu_3 tyX3_ok nmX3 (by decide) (show 1 < 7 by decide) xw_153 (Or.inl rfl) rfl rfl rfl ?_
  refine g_aload_n (pc := 14) X dX3_init_14 rfl rfl ?_
  refine g_iconst (pc := 15) (v := (-1)) X dX3_init_15 (by decide) ?_
  refine g_put (pc := 16) (k := 75) (j := 2) (ci := 3) (fs := [.int (-1), .int (-1), .int 0, .int 0, .int 0, .int 0, .int 0]) X tyX3 dX3_init_16 (by decide) rfl rfl xu_3 tyX3_ok nmX3 (by decide) (show 2 < 7 by decide) xw_156 (Or.inl rfl) rfl rfl rfl ?_
  refine g_aload_n (pc := 19) X dX3_init_19 rfl rfl ?_
  refine g_iconst (pc := 20) (v := (-1)) X dX3_init_20 (by decide) ?_
  refine g_put (pc := 21) (k := 75) (j := 3) (ci := 3) (fs := [.int (-1), .int (-1), .int (-1), .int 0, .int 0, .int 0, .int 0]) X tyX3 dX3_init_21 (by decide) rfl rfl xu_3 tyX3_ok nmX3 (by decide) (show 3 < 7 by decide) xw_160 (Or.inl rfl) rfl rfl rfl ?_
  refine g_aload_n (pc := 24) X dX3_init_24 rfl rfl ?_
  refine g_iconst (pc := 25) (v := 0) X dX3_init_25 (by decide) ?_
  refine g_put (pc := 26) (k := 75) (j := 4) (ci := 3) (fs := [.int (-1), .int (-1), .int (-1), .int (-1), .int 0, .int 0, .int 0]) X tyX3 dX3_init_26 (by decide) rfl rfl xu_3 tyX3_ok nmX3 (by decide) (show 4 < 7 by decide) xw_165 (Or.inl rfl) rfl rfl rfl ?_
  refine g_aload_n (pc := 29) X dX3_init_29 rfl rfl ?_
  refine g_iconst (pc := 30) (v := 0) X dX3_init_30 (by decide) ?_
  refine g_put (pc := 31) (k := 75) (j := 5) (ci := 3) (fs := [.int (-1), .int (-1), .int (-1), .int (-1), .int 0, .int 0, .int 0]) X tyX3 dX3_init_31 (by decide) rfl rfl xu_3 tyX3_ok nmX3 (by decide) (show 5 < 7 by decide) xw_168 (Or.inl rfl) rfl rfl rfl ?_
  refine g_aload_n (pc := 34) X dX3_init_34 rfl rfl ?_
  refine g_iconst (pc := 35) (v := 0) X dX3_init_35 (by decide) ?_
  refine g_put (pc := 36) (k := 75) (j := 6) (ci := 3) (fs := [.int (-1), .int (-1), .int (-1), .int (-1), .int 0, .int 0, .int 0]) X tyX3 dX3_init_36 (by decide) rfl rfl xu_3 tyX3_ok nmX3 (by decide) (show 6 < 7 by decide) xw_171 (Or.inl rfl) rfl rfl rfl ?_
  refine g_eqn (w2 := xk G O w 75) (fun j hj => ?_) ?_
  · by_cases hja : j < 75
    · unfold xk; rw [if_pos hja]
      have hne : ∀ k, 75 ≤ k → ¬ j = k := fun k hk he => by omega
      have hlt : ∀ k, 75 ≤ k → j < k := fun k hk => by omega
      simp only [xg_up, xg_mn, xk]
      repeat (first | rw [if_neg (hne _ (by decide))] | rw [if_pos (hlt _ (by decide))])
    · refine xall (n := 76) (a := 75) (P := fun j => _ = xk G O w 75 j) ?_ hja hj
      show ∀ q ∈ [75], _
      exact xcons rfl (xnil)
  exact g_vret (pc := 39) X hr hk dX3_init_39 ⟨rfl, rfl⟩
abbrev rmX0_init : Room := { frames := 2, cells := 20, slots := 216, locals := 68 }
set_option maxRecDepth 100000 in
set_option maxHeartbeats 4000000 in
theorem k_X0_55 (l : Launch) (G : xg_G) (O : Heap) (w : Nat → va_E) (hw : w 55 = .inr (0, [.null, .null, .null, .null, .int 0])) : xg_M True l yX0_init cX0_init 2 none rmX0_init G O 56 w [.ref (O.size + 55)] 76 20 216 (fun r w2 => r = none ∧ w2 = xk G O w 55) := by
  refine xg_enter (by decide) 1 rfl rfl ?_
  intro p e s m args below meth c X hr hk hin
  refine g_eq (L2 := [some (.ref (O.size + 55)), none]) rfl rfl rfl ?_
  refine g_aload_n (pc := 0) X dX0_init_0 rfl rfl ?_
  refine g_objInit (pc := 1) X dX0_init_1 xw_236 xw_52 xw_53 (by decide) (Nat.le_of_ble_eq_true rfl) ?_
  refine g_aload_n (pc := 4) X dX0_init_4 rfl rfl ?_
  refine g_bipush (pc := 5) (v := 8) X dX0_init_5 (by decide) ?_
  refine g_anew (pc := 7) (C := "UnderText$Leaf") X 3 8 dX0_init_7 xw_237 X.2.2.2.2.1 rfl (by decide) (by decide) (by decide) ?_
  refine g_put (pc := 10) (k := 55) (j := 0) (ci := 0) (fs := [.null, .null, .null, .null, .int 0]) X tyX0 dX0_init_10 (by decide) hw rfl xu_0 tyX0_ok nmX0 (by decide) (show 0 < 5 by decide) xw_244 (Or.inr ⟨rfl, hin, rfl⟩) rfl rfl rfl ?_
  refine g_aload_n (pc := 13) X dX0_init_13 rfl rfl ?_
  refine g_bipush (pc := 14) (v := 8) X dX0_init_14 (by decide) ?_
  refine g_newi (pc := 16) X 8 dX0_init_16 xw_68 (by decide) (by decide) (by decide) ?_
  refine g_put (pc := 18) (k := 55) (j := 1) (ci := 0) (fs := [.ref (O.size + 56), .null, .null, .null, .int 0]) X tyX0 dX0_init_18 (by decide) rfl rfl xu_0 tyX0_ok nmX0 (by decide) (show 1 < 5 by decide) xw_246 (Or.inr ⟨rfl, hin, rfl⟩) rfl rfl rfl ?_
  refine g_aload_n (pc := 21) X dX0_init_21 rfl rfl ?_
  refine g_bipush (pc := 22) (v := 8) X dX0_init_22 (by decide) ?_
  refine g_newi (pc := 24) X 8 dX0_init_24 xw_68 (by decide) (by decide) (by decide) ?_
  refine g_put (pc := 26) (k := 55) (j := 2) (ci := 0) (fs := [.ref (O.size + 56), .ref (O.size + 57), .null, .null, .int 0]) X tyX0 dX0_init_26 (by decide) rfl rfl xu_0 tyX0_ok nmX0 (by decide) (show 2 < 5 by decide) xw_248 (Or.inr ⟨rfl, hin, rfl⟩) rfl rfl rfl ?_
  refine g_aload_n (pc := 29) X dX0_init_29 rfl rfl ?_
  refine g_bipush (pc := 30) (v := 8) X dX0_init_30 (by decide) ?_
  refine g_bipush (pc := 32) (v := 16) X dX0_init_32 (by decide) ?_
  refine g_mna (pc := 34) X 8 16 dX0_init_34 xw_239 xw_68 (by decide) (by decide) (by decide) (by decide) (by decide) ?_
  refine g_put (pc := 38) (k := 55) (j := 3) (ci := 0) (fs := [.ref (O.size + 56), .ref (O.size + 57), .ref (O.size + 58), .null, .int 0]) X tyX0 dX0_init_38 (by decide) rfl rfl xu_0 tyX0_ok nmX0 (by decide) (show 3 < 5 by decide) xw_250 (Or.inr ⟨rfl, hin, rfl⟩) rfl rfl rfl ?_
  refine g_aload_n (pc := 41) X dX0_init_41 rfl rfl ?_
  refine g_iconst (pc := 42) (v := 0) X dX0_init_42 (by decide) ?_
  refine g_put (pc := 43) (k := 55) (j := 4) (ci := 0) (fs := [.ref (O.size + 56), .ref (O.size + 57), .ref (O.size + 58), .ref (O.size + 59), .int 0]) X tyX0 dX0_init_43 (by decide) rfl rfl xu_0 tyX0_ok nmX0 (by decide) (show 4 < 5 by decide) xw_252 (Or.inl rfl) rfl rfl rfl ?_
  refine g_iconst (pc := 46) (v := 0) X dX0_init_46 (by decide) ?_
  refine g_istore_n (pc := 47) X dX0_init_47 rfl (by decide) ?_
  refine g_iload_n (pc := 48) X dX0_init_48 rfl rfl ?_
  refine g_bipush (pc := 49) (v := 8) X dX0_init_49 (by decide) ?_
  refine g_icmp_ge (pc := 51) (tgt := 73) X dX0_init_51 (by decide) (fun hc => absurd hc (show ¬ (8 : Int32) ≤ 0 by decide)) (fun _ => ?_)
  refine g_aload_n (pc := 54) X dX0_init_54 rfl rfl ?_
  refine g_get (pc := 55) (k := 55) (j := 0) (ci := 0) (fs := [.ref (O.size + 56), .ref (O.size + 57), .ref (O.size + 58), .ref (O.size + 59), .int 0]) X dX0_init_55 (by decide) rfl rfl xu_0 (by decide) xw_244 rfl ?_
  refine g_iload_n (pc := 58) X dX0_init_58 rfl rfl ?_
  refine g_new (pc := 59) (ci := 3) (fs := [.int 0, .int 0, .int 0, .int 0, .int 0, .int 0, .int 0]) X tyX3 dX0_init_59 xw_237 xw_145 xw_38 rfl xu_3 tyX3_ok (fun j hj => match j, hj with | 0, _ => rfl | 1, _ => rfl | 2, _ => rfl | 3, _ => rfl | 4, _ => rfl | 5, _ => rfl | 6, _ => rfl | j + 7, h => absurd h (by omega)) (by decide) ?_
  refine g_dup (pc := 62) X dX0_init_62 rfl ?_
  refine g_callIN (pc := 63) (as := []) (rest := [.ref (O.size + 68), .int 0, .ref (O.size + 56)]) X xc_X0_33 (k_X3_68 l G O _ rfl) dX0_init_63 rfl rfl (by decide) (Nat.le_of_ble_eq_true rfl) (fun r w2 hp => ?_)
  obtain ⟨rfl, rfl⟩ := hp
  refine g_eq (st2 := [.ref (O.size + 68), .int 0, .ref (O.size + 56)]) rfl rfl rfl ?_
  refine g_aast (pc := 66) (k := 56) (kv := 68) (ci := 3) (fs := [.int (-1), .int (-1), .int (-1), .int (-1), .int 0, .int 0, .int 0]) (N := 8) (r := (RX3, TX3, 7)) X 3 0 dX0_init_66 (by decide) rfl rfl (by decide) rfl rfl (by decide) (by decide) (by decide) ?_
  refine g_inc (pc := 67) (kv := 1) X dX0_init_67 (by decide) rfl (by decide) ?_
  refine g_eq (L2 := [some (.ref (O.size + 55)), some (.int 1)]) rfl rfl rfl ?_
  refine g_goto (pc := 70) (tgt := 48) X dX0_init_70 (by decide) ?_
  refine g_iload_n (pc := 48) X dX0_init_48 rfl rfl ?_
  refine g_bipush (pc := 49) (v := 8) X dX0_init_49 (by decide) ?_
  refine g_icmp_ge (pc := 51) (tgt := 73) X dX0_init_51 (by decide) (fun hc => absurd hc (show ¬ (8 : Int32) ≤ 1 by decide)) (fun _ => ?_)
  refine g_aload_n (pc := 54) X dX0_init_54 rfl rfl ?_
  refine g_get (pc := 55) (k := 55) (j := 0) (ci := 0) (fs := [.ref (O.size + 56), .ref (O.size + 57), .ref (O.size + 58), .ref (O.size + 59), .int 0]) X dX0_init_55 (by decide) rfl rfl xu_0 (by decide) xw_244 rfl ?_
  refine g_iload_n (pc := 58) X dX0_init_58 rfl rfl ?_
  refine g_new (pc := 59) (ci := 3) (fs := [.int 0, .int 0, .int 0, .int 0, .int 0, .int 0, .int 0]) X tyX3 dX0_init_59 xw_237 xw_145 xw_38 rfl xu_3 tyX3_ok (fun j hj => match j, hj with | 0, _ => rfl | 1, _ => rfl | 2, _ => rfl | 3, _ => rfl | 4, _ => rfl | 5, _ => rfl | 6, _ => rfl | j + 7, h => absurd h (by omega)) (by decide) ?_
  refine g_dup (pc := 62) X dX0_init_62 rfl ?_
  refine g_callIN (pc := 63) (as := []) (rest := [.ref (O.size + 69), .int 1, .ref (O.size + 56)]) X xc_X0_33 (k_X3_69 l G O _ rfl) dX0_init_63 rfl rfl (by decide) (Nat.le_of_ble_eq_true rfl) (fun r w2 hp => ?_)
  obtain ⟨rfl, rfl⟩ := hp
  refine g_eq (st2 := [.ref (O.size + 69), .int 1, .ref (O.size + 56)]) rfl rfl rfl ?_
  refine g_aast (pc := 66) (k := 56) (kv := 69) (ci := 3) (fs := [.int (-1), .int (-1), .int (-1), .int (-1), .int 0, .int 0, .int 0]) (N := 8) (r := (RX3, TX3, 7)) X 3 1 dX0_init_66 (by decide) rfl rfl (by decide) rfl rfl (by decide) (by decide) (by decide) ?_
  refine g_inc (pc := 67) (kv := 1) X dX0_init_67 (by decide) rfl (by decide) ?_
  refine g_eq (L2 := [some (.ref (O.size + 55)), some (.int 2)]) rfl rfl rfl ?_
  refine g_goto (pc := 70) (tgt := 48) X dX0_init_70 (by decide) ?_
  refine g_iload_n (pc := 48) X dX0_init_48 rfl rfl ?_
  refine g_bipush (pc := 49) (v := 8) X dX0_init_49 (by decide) ?_
  refine g_icmp_ge (pc := 51) (tgt := 73) X dX0_init_51 (by decide) (fun hc => absurd hc (show ¬ (8 : Int32) ≤ 2 by decide)) (fun _ => ?_)
  refine g_aload_n (pc := 54) X dX0_init_54 rfl rfl ?_
  refine g_get (pc := 55) (k := 55) (j := 0) (ci := 0) (fs := [.ref (O.size + 56), .ref (O.size + 57), .ref (O.size + 58), .ref (O.size + 59), .int 0]) X dX0_init_55 (by decide) rfl rfl xu_0 (by decide) xw_244 rfl ?_
  refine g_iload_n (pc := 58) X dX0_init_58 rfl rfl ?_
  refine g_new (pc := 59) (ci := 3) (fs := [.int 0, .int 0, .int 0, .int 0, .int 0, .int 0, .int 0]) X tyX3 dX0_init_59 xw_237 xw_145 xw_38 rfl xu_3 tyX3_ok (fun j hj => match j, hj with | 0, _ => rfl | 1, _ => rfl | 2, _ => rfl | 3, _ => rfl | 4, _ => rfl | 5, _ => rfl | 6, _ => rfl | j + 7, h => absurd h (by omega)) (by decide) ?_
  refine g_dup (pc := 62) X dX0_init_62 rfl ?_
  refine g_callIN (pc := 63) (as := []) (rest := [.ref (O.size + 70), .int 2, .ref (O.size + 56)]) X xc_X0_33 (k_X3_70 l G O _ rfl) dX0_init_63 rfl rfl (by decide) (Nat.le_of_ble_eq_true rfl) (fun r w2 hp => ?_)
  obtain ⟨rfl, rfl⟩ := hp
  refine g_eq (st2 := [.ref (O.size + 70), .int 2, .ref (O.size + 56)]) rfl rfl rfl ?_
  refine g_aast (pc := 66) (k := 56) (kv := 70) (ci := 3) (fs := [.int (-1), .int (-1), .int (-1), .int (-1), .int 0, .int 0, .int 0]) (N := 8) (r := (RX3, TX3, 7)) X 3 2 dX0_init_66 (by decide) rfl rfl (by decide) rfl rfl (by decide) (by decide) (by decide) ?_
  refine g_inc (pc := 67) (kv := 1) X dX0_init_67 (by decide) rfl (by decide) ?_
  refine g_eq (L2 := [some (.ref (O.size + 55)), some (.int 3)]) rfl rfl rfl ?_
  refine g_goto (pc := 70) (tgt := 48) X dX0_init_70 (by decide) ?_
  refine g_iload_n (pc := 48) X dX0_init_48 rfl rfl ?_
  refine g_bipush (pc := 49) (v := 8) X dX0_init_49 (by decide) ?_
  refine g_icmp_ge (pc := 51) (tgt := 73) X dX0_init_51 (by decide) (fun hc => absurd hc (show ¬ (8 : Int32) ≤ 3 by decide)) (fun _ => ?_)
  refine g_aload_n (pc := 54) X dX0_init_54 rfl rfl ?_
  refine g_get (pc := 55) (k := 55) (j := 0) (ci := 0) (fs := [.ref (O.size + 56), .ref (O.size + 57), .ref (O.size + 58), .ref (O.size + 59), .int 0]) X dX0_init_55 (by decide) rfl rfl xu_0 (by decide) xw_244 rfl ?_
  refine g_iload_n (pc := 58) X dX0_init_58 rfl rfl ?_
  refine g_new (pc := 59) (ci := 3) (fs := [.int 0, .int 0, .int 0, .int 0, .int 0, .int 0, .int 0]) X tyX3 dX0_init_59 xw_237 xw_145 xw_38 rfl xu_3 tyX3_ok (fun j hj => match j, hj with | 0, _ => rfl | 1, _ => rfl | 2, _ => rfl | 3, _ => rfl | 4, _ => rfl | 5, _ => rfl | 6, _ => rfl | j + 7, h => absurd h (by omega)) (by decide) ?_
  refine g_dup (pc := 62) X dX0_init_62 rfl ?_
  refine g_callIN (pc := 63) (as := []) (rest := [.ref (O.size + 71), .int 3, .ref (O.size + 56)]) X xc_X0_33 (k_X3_71 l G O _ rfl) dX0_init_63 rfl rfl (by decide) (Nat.le_of_ble_eq_true rfl) (fun r w2 hp => ?_)
  obtain ⟨rfl, rfl⟩ := hp
  refine g_eq (st2 := [.ref (O.size + 71), .int 3, .ref (O.size + 56)]) rfl rfl rfl ?_
  refine g_aast (pc := 66) (k := 56) (kv := 71) (ci := 3) (fs := [.int (-1), .int (-1), .int (-1), .int (-1), .int 0, .int 0, .int 0]) (N := 8) (r := (RX3, TX3, 7)) X 3 3 dX0_init_66 (by decide) rfl rfl (by decide) rfl rfl (by decide) (by decide) (by decide) ?_
  refine g_inc (pc := 67) (kv := 1) X dX0_init_67 (by decide) rfl (by decide) ?_
  refine g_eq (L2 := [some (.ref (O.size + 55)), some (.int 4)]) rfl rfl rfl ?_
  refine g_goto (pc := 70) (tgt := 48) X dX0_init_70 (by decide) ?_
  refine g_iload_n (pc := 48) X dX0_init_48 rfl rfl ?_
  refine g_bipush (pc := 49) (v := 8) X dX0_init_49 (by decide) ?_
  refine g_icmp_ge (pc := 51) (tgt := 73) X dX0_init_51 (by decide) (fun hc => absurd hc (show ¬ (8 : Int32) ≤ 4 by decide)) (fun _ => ?_)
  refine g_aload_n (pc := 54) X dX0_init_54 rfl rfl ?_
  refine g_get (pc := 55) (k := 55) (j := 0) (ci := 0) (fs := [.ref (O.size + 56), .ref (O.size + 57), .ref (O.size + 58), .ref (O.size + 59), .int 0]) X dX0_init_55 (by decide) rfl rfl xu_0 (by decide) xw_244 rfl ?_
  refine g_iload_n (pc := 58) X dX0_init_58 rfl rfl ?_
  refine g_new (pc := 59) (ci := 3) (fs := [.int 0, .int 0, .int 0, .int 0, .int 0, .int 0, .int 0]) X tyX3 dX0_init_59 xw_237 xw_145 xw_38 rfl xu_3 tyX3_ok (fun j hj => match j, hj with | 0, _ => rfl | 1, _ => rfl | 2, _ => rfl | 3, _ => rfl | 4, _ => rfl | 5, _ => rfl | 6, _ => rfl | j + 7, h => absurd h (by omega)) (by decide) ?_
  refine g_dup (pc := 62) X dX0_init_62 rfl ?_
  refine g_callIN (pc := 63) (as := []) (rest := [.ref (O.size + 72), .int 4, .ref (O.size + 56)]) X xc_X0_33 (k_X3_72 l G O _ rfl) dX0_init_63 rfl rfl (by decide) (Nat.le_of_ble_eq_true rfl) (fun r w2 hp => ?_)
  obtain ⟨rfl, rfl⟩ := hp
  refine g_eq (st2 := [.ref (O.size + 72), .int 4, .ref (O.size + 56)]) rfl rfl rfl ?_
  refine g_aast (pc := 66) (k := 56) (kv := 72) (ci := 3) (fs := [.int (-1), .int (-1), .int (-1), .int (-1), .int 0, .int 0, .int 0]) (N := 8) (r := (RX3, TX3, 7)) X 3 4 dX0_init_66 (by decide) rfl rfl (by decide) rfl rfl (by decide) (by decide) (by decide) ?_
  refine g_inc (pc := 67) (kv := 1) X dX0_init_67 (by decide) rfl (by decide) ?_
  refine g_eq (L2 := [some (.ref (O.size + 55)), some (.int 5)]) rfl rfl rfl ?_
  refine g_goto (pc := 70) (tgt := 48) X dX0_init_70 (by decide) ?_
  refine g_iload_n (pc := 48) X dX0_init_48 rfl rfl ?_
  refine g_bipush (pc := 49) (v := 8) X dX0_init_49 (by decide) ?_
  refine g_icmp_ge (pc := 51) (tgt := 73) X dX0_init_51 (by decide) (fun hc => absurd hc (show ¬ (8 : Int32) ≤ 5 by decide)) (fun _ => ?_)
  refine g_aload_n (pc := 54) X dX0_init_54 rfl rfl ?_
  refine g_get (pc := 55) (k := 55) (j := 0) (ci := 0) (fs := [.ref (O.size + 56), .ref (O.size + 57), .ref (O.size + 58), .ref (O.size + 59), .int 0]) X dX0_init_55 (by decide) rfl rfl xu_0 (by decide) xw_244 rfl ?_
  refine g_iload_n (pc := 58) X dX0_init_58 rfl rfl ?_
  refine g_new (pc := 59) (ci := 3) (fs := [.int 0, .int 0, .int 0, .int 0, .int 0, .int 0, .int 0]) X tyX3 dX0_init_59 xw_237 xw_145 xw_38 rfl xu_3 tyX3_ok (fun j hj => match j, hj with | 0, _ => rfl | 1, _ => rfl | 2, _ => rfl | 3, _ => rfl | 4, _ => rfl | 5, _ => rfl | 6, _ => rfl | j + 7, h => absurd h (by omega)) (by decide) ?_
  refine g_dup (pc := 62) X dX0_init_62 rfl ?_
  refine g_callIN (pc := 63) (as := []) (rest := [.ref (O.size + 73), .int 5, .ref (O.size + 56)]) X xc_X0_33 (k_X3_73 l G O _ rfl) dX0_init_63 rfl rfl (by decide) (Nat.le_of_ble_eq_true rfl) (fun r w2 hp => ?_)
  obtain ⟨rfl, rfl⟩ := hp
  refine g_eq (st2 := [.ref (O.size + 73), .int 5, .ref (O.size + 56)]) rfl rfl rfl ?_
  refine g_aast (pc := 66) (k := 56) (kv := 73) (ci := 3) (fs := [.int (-1), .int (-1), .int (-1), .int (-1), .int 0, .int 0, .int 0]) (N := 8) (r := (RX3, TX3, 7)) X 3 5 dX0_init_66 (by decide) rfl rfl (by decide) rfl rfl (by decide) (by decide) (by decide) ?_
  refine g_inc (pc := 67) (kv := 1) X dX0_init_67 (by decide) rfl (by decide) ?_
  refine g_eq (L2 := [some (.ref (O.size + 55)), some (.int 6)]) rfl rfl rfl ?_
  refine g_goto (pc := 70) (tgt := 48) X dX0_init_70 (by decide) ?_
  refine g_iload_n (pc := 48) X dX0_init_48 rfl rfl ?_
  refine g_bipush (pc := 49) (v := 8) X dX0_init_49 (by decide) ?_
  refine g_icmp_ge (pc := 51) (tgt := 73) X dX0_init_51 (by decide) (fun hc => absurd hc (show ¬ (8 : Int32) ≤ 6 by decide)) (fun _ => ?_)
  refine g_aload_n (pc := 54) X dX0_init_54 rfl rfl ?_
  refine g_get (pc := 55) (k := 55) (j := 0) (ci := 0) (fs := [.ref (O.size + 56), .ref (O.size + 57), .ref (O.size + 58), .ref (O.size + 59), .int 0]) X dX0_init_55 (by decide) rfl rfl xu_0 (by decide) xw_244 rfl ?_
  refine g_iload_n (pc := 58) X dX0_init_58 rfl rfl ?_
  refine g_new (pc := 59) (ci := 3) (fs := [.int 0, .int 0, .int 0, .int 0, .int 0, .int 0, .int 0]) X tyX3 dX0_init_59 xw_237 xw_145 xw_38 rfl xu_3 tyX3_ok (fun j hj => match j, hj with | 0, _ => rfl | 1, _ => rfl | 2, _ => rfl | 3, _ => rfl | 4, _ => rfl | 5, _ => rfl | 6, _ => rfl | j + 7, h => absurd h (by omega)) (by decide) ?_
  refine g_dup (pc := 62) X dX0_init_62 rfl ?_
  refine g_callIN (pc := 63) (as := []) (rest := [.ref (O.size + 74), .int 6, .ref (O.size + 56)]) X xc_X0_33 (k_X3_74 l G O _ rfl) dX0_init_63 rfl rfl (by decide) (Nat.le_of_ble_eq_true rfl) (fun r w2 hp => ?_)
  obtain ⟨rfl, rfl⟩ := hp
  refine g_eq (st2 := [.ref (O.size + 74), .int 6, .ref (O.size + 56)]) rfl rfl rfl ?_
  refine g_aast (pc := 66) (k := 56) (kv := 74) (ci := 3) (fs := [.int (-1), .int (-1), .int (-1), .int (-1), .int 0, .int 0, .int 0]) (N := 8) (r := (RX3, TX3, 7)) X 3 6 dX0_init_66 (by decide) rfl rfl (by decide) rfl rfl (by decide) (by decide) (by decide) ?_
  refine g_inc (pc := 67) (kv := 1) X dX0_init_67 (by decide) rfl (by decide) ?_
  refine g_eq (L2 := [some (.ref (O.size + 55)), some (.int 7)]) rfl rfl rfl ?_
  refine g_goto (pc := 70) (tgt := 48) X dX0_init_70 (by decide) ?_
  refine g_iload_n (pc := 48) X dX0_init_48 rfl rfl ?_
  refine g_bipush (pc := 49) (v := 8) X dX0_init_49 (by decide) ?_
  refine g_icmp_ge (pc := 51) (tgt := 73) X dX0_init_51 (by decide) (fun hc => absurd hc (show ¬ (8 : Int32) ≤ 7 by decide)) (fun _ => ?_)
  refine g_aload_n (pc := 54) X dX0_init_54 rfl rfl ?_
  refine g_get (pc := 55) (k := 55) (j := 0) (ci := 0) (fs := [.ref (O.size + 56), .ref (O.size + 57), .ref (O.size + 58), .ref (O.size + 59), .int 0]) X dX0_init_55 (by decide) rfl rfl xu_0 (by decide) xw_244 rfl ?_
  refine g_iload_n (pc := 58) X dX0_init_58 rfl rfl ?_
  refine g_new (pc := 59) (ci := 3) (fs := [.int 0, .int 0, .int 0, .int 0, .int 0, .int 0, .int 0]) X tyX3 dX0_init_59 xw_237 xw_145 xw_38 rfl xu_3 tyX3_ok (fun j hj => match j, hj with | 0, _ => rfl | 1, _ => rfl | 2, _ => rfl | 3, _ => rfl | 4, _ => rfl | 5, _ => rfl | 6, _ => rfl | j + 7, h => absurd h (by omega)) (by decide) ?_
  refine g_dup (pc := 62) X dX0_init_62 rfl ?_
  refine g_callIN (pc := 63) (as := []) (rest := [.ref (O.size + 75), .int 7, .ref (O.size + 56)]) X xc_X0_33 (k_X3_75 l G O _ rfl) dX0_init_63 rfl rfl (by decide) (Nat.le_of_ble_eq_true rfl) (fun r w2 hp => ?_)
  obtain ⟨rfl, rfl⟩ := hp
  refine g_eq (st2 := [.ref (O.size + 75), .int 7, .ref (O.size + 56)]) rfl rfl rfl ?_
  refine g_aast (pc := 66) (k := 56) (kv := 75) (ci := 3) (fs := [.int (-1), .int (-1), .int (-1), .int (-1), .int 0, .int 0, .int 0]) (N := 8) (r := (RX3, TX3, 7)) X 3 7 dX0_init_66 (by decide) rfl rfl (by decide) rfl rfl (by decide) (by decide) (by decide) ?_
  refine g_inc (pc := 67) (kv := 1) X dX0_init_67 (by decide) rfl (by decide) ?_
  refine g_eq (L2 := [some (.ref (O.size + 55)), some (.int 8)]) rfl rfl rfl ?_
  refine g_goto (pc := 70) (tgt := 48) X dX0_init_70 (by decide) ?_
  refine g_iload_n (pc := 48) X dX0_init_48 rfl rfl ?_
  refine g_bipush (pc := 49) (v := 8) X dX0_init_49 (by decide) ?_
  refine g_icmp_ge (pc := 51) (tgt := 73) X dX0_init_51 (by decide) (fun _ => ?_) (fun hc => absurd (show (8 : Int32) ≤ 8 by decide) hc)
  refine g_aload_n (pc := 73) X dX0_init_73 rfl rfl ?_
  refine g_get (pc := 74) (k := 55) (j := 2) (ci := 0) (fs := [.ref (O.size + 56), .ref (O.size + 57), .ref (O.size + 58), .ref (O.size + 59), .int 0]) X dX0_init_74 (by decide) rfl rfl xu_0 (by decide) xw_248 rfl ?_
  refine g_iconst (pc := 77) (v := (-1)) X dX0_init_77 (by decide) ?_
  refine g_callS (pc := 78) (as := [.ref (O.size + 58), .int (-1)]) (rest := []) X xc_X0_34 (k_fill l G O _ rfl) dX0_init_78 rfl rfl (by decide) (Nat.le_of_ble_eq_true rfl) (fun r w2 hp => ?_)
  obtain ⟨rfl, rfl⟩ := hp
  refine g_eq (st2 := []) rfl rfl rfl ?_
  refine g_eqn (w2 := xk G O w 55) (fun j hj => ?_) ?_
  · by_cases hja : j < 55
    · unfold xk; rw [if_pos hja]
      have hne : ∀ k, 55 ≤ k → ¬ j = k := fun k hk he => by omega
      have hlt : ∀ k, 55 ≤ k → j < k := fun k hk => by omega
      simp only [xg_up, xg_mn, xk]
      repeat (first | rw [if_neg (hne _ (by decide))] | rw [if_pos (hlt _ (by decide))])
    · refine xall (n := 76) (a := 55) (P := fun j => _ = xk G O w 55 j) ?_ hja hj
      show ∀ q ∈ [55, 56, 57, 58, 59, 60, 61, 62, 63, 64, 65, 66, 67, 68, 69, 70, 71, 72, 73, 74, 75], _
      exact xcons rfl (xcons (xq_56 G O) (xcons rfl (xcons rfl (xcons (xq_59 G O) (xcons rfl (xcons rfl (xcons rfl (xcons rfl (xcons rfl (xcons rfl (xcons rfl (xcons rfl (xcons rfl (xcons rfl (xcons rfl (xcons rfl (xcons rfl (xcons rfl (xcons rfl (xcons rfl (xnil)))))))))))))))))))))
  exact g_vret (pc := 81) X hr hk dX0_init_81 ⟨rfl, rfl⟩
abbrev rmX8_init : Room := { frames := 4, cells := 75, slots := 3766, locals := 109 }
set_option maxRecDepth 100000 in
set_option maxHeartbeats 4000000 in
theorem k_X8_0 (l : Launch) (G : xg_G) (O : Heap) (w : Nat → va_E) (hw : w 0 = .inr (8, [.null, .null, .null, .null, .null, .null, .int 0, .int 0])) : xg_M True l yX8_init cX8_init 1 none rmX8_init G O 1 w [.ref (O.size + 0)] 76 75 3766 (fun r w2 => r = none ∧ w2 = xk G O w 0) := by
  refine xg_enter (by decide) 0 rfl rfl ?_
  intro p e s m args below meth c X hr hk hin
  refine g_eq (L2 := [some (.ref (O.size + 0))]) rfl rfl rfl ?_
  refine g_aload_n (pc := 0) X dX8_init_0 rfl rfl ?_
  refine g_objInit (pc := 1) X dX8_init_1 xw_51 xw_52 xw_53 (by decide) (Nat.le_of_ble_eq_true rfl) ?_
  refine g_aload_n (pc := 4) X dX8_init_4 rfl rfl ?_
  refine g_new (pc := 5) (ci := 6) (fs := [.null, .int 0]) X tyX6 dX8_init_5 xw_54 xw_55 xw_33 rfl xu_6 tyX6_ok (fun j hj => match j, hj with | 0, _ => rfl | 1, _ => rfl | j + 2, h => absurd h (by omega)) (by decide) ?_
  refine g_dup (pc := 8) X dX8_init_8 rfl ?_
  refine g_callIN (pc := 9) (as := []) (rest := [.ref (O.size + 1), .ref (O.size + 0)]) X xc_X8_9 (k_X6_1 l G O _ rfl) dX8_init_9 rfl rfl (by decide) (Nat.le_of_ble_eq_true rfl) (fun r w2 hp => ?_)
  obtain ⟨rfl, rfl⟩ := hp
  refine g_eq (st2 := [.ref (O.size + 1), .ref (O.size + 0)]) rfl rfl rfl ?_
  refine g_put (pc := 12) (k := 0) (j := 0) (ci := 8) (fs := [.null, .null, .null, .null, .null, .null, .int 0, .int 0]) X tyX8 dX8_init_12 (by decide) hw rfl xu_8 tyX8_ok nmX8 (by decide) (show 0 < 8 by decide) xw_265 (Or.inr ⟨rfl, hin, rfl⟩) rfl rfl rfl ?_
  refine g_aload_n (pc := 15) X dX8_init_15 rfl rfl ?_
  refine g_new (pc := 16) (ci := 5) (fs := [.null, .null, .null, .null, .null]) X tyX5 dX8_init_16 xw_69 xw_70 xw_34 rfl xu_5 tyX5_ok (fun j hj => match j, hj with | 0, _ => rfl | 1, _ => rfl | 2, _ => rfl | 3, _ => rfl | 4, _ => rfl | j + 5, h => absurd h (by omega)) (by decide) ?_
  refine g_dup (pc := 19) X dX8_init_19 rfl ?_
  refine g_callIN (pc := 20) (as := []) (rest := [.ref (O.size + 3), .ref (O.size + 0)]) X xc_X8_18 (k_X5_3 l G O _ rfl) dX8_init_20 rfl rfl (by decide) (Nat.le_of_ble_eq_true rfl) (fun r w2 hp => ?_)
  obtain ⟨rfl, rfl⟩ := hp
  refine g_eq (st2 := [.ref (O.size + 3), .ref (O.size + 0)]) rfl rfl rfl ?_
  refine g_put (pc := 23) (k := 0) (j := 1) (ci := 8) (fs := [.ref (O.size + 1), .null, .null, .null, .null, .null, .int 0, .int 0]) X tyX8 dX8_init_23 (by decide) rfl rfl xu_8 tyX8_ok nmX8 (by decide) (show 1 < 8 by decide) xw_266 (Or.inr ⟨rfl, hin, rfl⟩) rfl rfl rfl ?_
  refine g_aload_n (pc := 26) X dX8_init_26 rfl rfl ?_
  refine g_aload_n (pc := 27) X dX8_init_27 rfl rfl ?_
  refine g_get (pc := 28) (k := 0) (j := 1) (ci := 8) (fs := [.ref (O.size + 1), .ref (O.size + 3), .null, .null, .null, .null, .int 0, .int 0]) X dX8_init_28 (by decide) rfl rfl xu_8 (by decide) xw_266 rfl ?_
  refine g_get (pc := 31) (k := 3) (j := 0) (ci := 5) (fs := [.ref (O.size + 4), .ref (O.size + 6), .ref (O.size + 24), .ref (O.size + 25), .ref (O.size + 42)]) X dX8_init_31 (by decide) rfl rfl xu_5 (by decide) xw_192 rfl ?_
  refine g_put (pc := 34) (k := 0) (j := 2) (ci := 8) (fs := [.ref (O.size + 1), .ref (O.size + 3), .null, .null, .null, .null, .int 0, .int 0]) X tyX8 dX8_init_34 (by decide) rfl rfl xu_8 tyX8_ok nmX8 (by decide) (show 2 < 8 by decide) xw_267 (Or.inr ⟨rfl, hin, rfl⟩) rfl rfl rfl ?_
  refine g_aload_n (pc := 37) X dX8_init_37 rfl rfl ?_
  refine g_aload_n (pc := 38) X dX8_init_38 rfl rfl ?_
  refine g_get (pc := 39) (k := 0) (j := 1) (ci := 8) (fs := [.ref (O.size + 1), .ref (O.size + 3), .ref (O.size + 4), .null, .null, .null, .int 0, .int 0]) X dX8_init_39 (by decide) rfl rfl xu_8 (by decide) xw_266 rfl ?_
  refine g_get (pc := 42) (k := 3) (j := 1) (ci := 5) (fs := [.ref (O.size + 4), .ref (O.size + 6), .ref (O.size + 24), .ref (O.size + 25), .ref (O.size + 42)]) X dX8_init_42 (by decide) rfl rfl xu_5 (by decide) xw_194 rfl ?_
  refine g_put (pc := 45) (k := 0) (j := 3) (ci := 8) (fs := [.ref (O.size + 1), .ref (O.size + 3), .ref (O.size + 4), .null, .null, .null, .int 0, .int 0]) X tyX8 dX8_init_45 (by decide) rfl rfl xu_8 tyX8_ok nmX8 (by decide) (show 3 < 8 by decide) xw_268 (Or.inr ⟨rfl, hin, rfl⟩) rfl rfl rfl ?_
  refine g_aload_n (pc := 48) X dX8_init_48 rfl rfl ?_
  refine g_new (pc := 49) (ci := 4) (fs := [.null, .null, .null, .int 0]) X tyX4 dX8_init_49 xw_211 xw_212 xw_39 rfl xu_4 tyX4_ok (fun j hj => match j, hj with | 0, _ => rfl | 1, _ => rfl | 2, _ => rfl | 3, _ => rfl | j + 4, h => absurd h (by omega)) (by decide) ?_
  refine g_dup (pc := 52) X dX8_init_52 rfl ?_
  refine g_callIN (pc := 53) (as := []) (rest := [.ref (O.size + 43), .ref (O.size + 0)]) X xc_X8_37 (k_X4_43 l G O _ rfl) dX8_init_53 rfl rfl (by decide) (Nat.le_of_ble_eq_true rfl) (fun r w2 hp => ?_)
  obtain ⟨rfl, rfl⟩ := hp
  refine g_eq (st2 := [.ref (O.size + 43), .ref (O.size + 0)]) rfl rfl rfl ?_
  refine g_put (pc := 56) (k := 0) (j := 4) (ci := 8) (fs := [.ref (O.size + 1), .ref (O.size + 3), .ref (O.size + 4), .ref (O.size + 6), .null, .null, .int 0, .int 0]) X tyX8 dX8_init_56 (by decide) rfl rfl xu_8 tyX8_ok nmX8 (by decide) (show 4 < 8 by decide) xw_269 (Or.inr ⟨rfl, hin, rfl⟩) rfl rfl rfl ?_
  refine g_aload_n (pc := 59) X dX8_init_59 rfl rfl ?_
  refine g_new (pc := 60) (ci := 0) (fs := [.null, .null, .null, .null, .int 0]) X tyX0 dX8_init_60 xw_231 xw_232 xw_40 rfl xu_0 tyX0_ok (fun j hj => match j, hj with | 0, _ => rfl | 1, _ => rfl | 2, _ => rfl | 3, _ => rfl | 4, _ => rfl | j + 5, h => absurd h (by omega)) (by decide) ?_
  refine g_dup (pc := 63) X dX8_init_63 rfl ?_
  refine g_callI (pc := 64) (as := []) (rest := [.ref (O.size + 55), .ref (O.size + 0)]) X xc_X8_44 (k_X0_55 l G O _ rfl) dX8_init_64 rfl rfl (by decide) (Nat.le_of_ble_eq_true rfl) (fun r w2 hp => ?_)
  obtain ⟨rfl, rfl⟩ := hp
  refine g_eq (st2 := [.ref (O.size + 55), .ref (O.size + 0)]) rfl rfl rfl ?_
  refine g_put (pc := 67) (k := 0) (j := 5) (ci := 8) (fs := [.ref (O.size + 1), .ref (O.size + 3), .ref (O.size + 4), .ref (O.size + 6), .ref (O.size + 43), .null, .int 0, .int 0]) X tyX8 dX8_init_67 (by decide) rfl rfl xu_8 tyX8_ok nmX8 (by decide) (show 5 < 8 by decide) xw_270 (Or.inr ⟨rfl, hin, rfl⟩) rfl rfl rfl ?_
  refine g_aload_n (pc := 70) X dX8_init_70 rfl rfl ?_
  refine g_iconst (pc := 71) (v := 0) X dX8_init_71 (by decide) ?_
  refine g_put (pc := 72) (k := 0) (j := 6) (ci := 8) (fs := [.ref (O.size + 1), .ref (O.size + 3), .ref (O.size + 4), .ref (O.size + 6), .ref (O.size + 43), .ref (O.size + 55), .int 0, .int 0]) X tyX8 dX8_init_72 (by decide) rfl rfl xu_8 tyX8_ok nmX8 (by decide) (show 6 < 8 by decide) xw_271 (Or.inl rfl) rfl rfl rfl ?_
  refine g_aload_n (pc := 75) X dX8_init_75 rfl rfl ?_
  refine g_iconst (pc := 76) (v := 3) X dX8_init_76 (by decide) ?_
  refine g_put (pc := 77) (k := 0) (j := 7) (ci := 8) (fs := [.ref (O.size + 1), .ref (O.size + 3), .ref (O.size + 4), .ref (O.size + 6), .ref (O.size + 43), .ref (O.size + 55), .int 0, .int 0]) X tyX8 dX8_init_77 (by decide) rfl rfl xu_8 tyX8_ok nmX8 (by decide) (show 7 < 8 by decide) xw_272 (Or.inl rfl) rfl rfl rfl ?_
  refine g_eqn (w2 := xk G O w 0) (fun j hj => ?_) ?_
  · by_cases hja : j < 0
    · unfold xk; rw [if_pos hja]
      have hne : ∀ k, 0 ≤ k → ¬ j = k := fun k hk he => by omega
      have hlt : ∀ k, 0 ≤ k → j < k := fun k hk => by omega
      simp only [xg_up, xg_mn, xk]
      repeat (first | rw [if_neg (hne _ (by decide))] | rw [if_pos (hlt _ (by decide))])
    · refine xall (n := 76) (a := 0) (P := fun j => _ = xk G O w 0 j) ?_ hja hj
      show ∀ q ∈ [0, 1, 2, 3, 4, 5, 6, 7, 8, 9, 10, 11, 12, 13, 14, 15, 16, 17, 18, 19, 20, 21, 22, 23, 24, 25, 26, 27, 28, 29, 30, 31, 32, 33, 34, 35, 36, 37, 38, 39, 40, 41, 42, 43, 44, 45, 46, 47, 48, 49, 50, 51, 52, 53, 54, 55, 56, 57, 58, 59, 60, 61, 62, 63, 64, 65, 66, 67, 68, 69, 70, 71, 72, 73, 74, 75], _
      exact xcons rfl (xcons rfl (xcons rfl (xcons rfl (xcons rfl (xcons rfl (xcons rfl (xcons rfl (xcons rfl (xcons rfl (xcons rfl (xcons rfl (xcons rfl (xcons rfl (xcons rfl (xcons rfl (xcons rfl (xcons rfl (xcons rfl (xcons rfl (xcons rfl (xcons rfl (xcons rfl (xcons rfl (xcons rfl (xcons rfl (xcons rfl (xcons rfl (xcons rfl (xcons rfl (xcons rfl (xcons rfl (xcons rfl (xcons rfl (xcons rfl (xcons rfl (xcons rfl (xcons rfl (xcons rfl (xcons rfl (xcons rfl (xcons rfl (xcons rfl (xcons rfl (xcons rfl (xcons rfl (xcons rfl (xcons rfl (xcons rfl (xcons rfl (xcons rfl (xcons rfl (xcons rfl (xcons rfl (xcons rfl (xcons rfl (xcons rfl (xcons rfl (xcons rfl (xcons rfl (xcons rfl (xcons rfl (xcons rfl (xcons rfl (xcons rfl (xcons rfl (xcons rfl (xcons rfl (xcons rfl (xcons rfl (xcons rfl (xcons rfl (xcons rfl (xcons rfl (xcons rfl (xcons rfl (xnil))))))))))))))))))))))))))))))))))))))))))))))))))))))))))))))))))))))))))))
  exact g_vret (pc := 80) X hr hk dX8_init_80 ⟨rfl, rfl⟩
abbrev rmX9_init : Room := { frames := 1, cells := 17, slots := 1504, locals := 48 }
set_option maxRecDepth 100000 in
set_option maxHeartbeats 4000000 in
theorem k_X9_76 (l : Launch) (G : xg_G) (O : Heap) (w : Nat → va_E) (hw : w 76 = .inr (9, [.int 0, .null, .int 0, .null, .int 0, .int 0, .int 0, .int 0, .null, .null, .null, .null, .int 0, .int 0, .int 0, .int 0, .int 0, .int 0, .null, .null, .int 0, .int 0, .null, .null, .null, .null, .null, .int 0, .null, .null, .null, .null])) : xg_M True l yX9_init cX9_init 1 none rmX9_init G O 77 w [.ref (O.size + 76)] 94 17 1504 (fun r w2 => r = none ∧ w2 = xk G O w 76) := by
  refine xg_enter (by decide) 0 rfl rfl ?_
  intro p e s m args below meth c X hr hk hin
  refine g_eq (L2 := [some (.ref (O.size + 76))]) rfl rfl rfl ?_
  refine g_aload_n (pc := 0) X dX9_init_0 rfl rfl ?_
  refine g_objInit (pc := 1) X dX9_init_1 xw_590 xw_52 xw_53 (by decide) (Nat.le_of_ble_eq_true rfl) ?_
  refine g_aload_n (pc := 4) X dX9_init_4 rfl rfl ?_
  refine g_sipush (pc := 5) (v := 400) X dX9_init_5 (by decide) ?_
  refine g_newi (pc := 8) X 400 dX9_init_8 xw_68 (by decide) (by decide) (by decide) ?_
  refine g_put (pc := 10) (k := 76) (j := 1) (ci := 9) (fs := [.int 0, .null, .int 0, .null, .int 0, .int 0, .int 0, .int 0, .null, .null, .null, .null, .int 0, .int 0, .int 0, .int 0, .int 0, .int 0, .null, .null, .int 0, .int 0, .null, .null, .null, .null, .null, .int 0, .null, .null, .null, .null]) X tyX9 dX9_init_10 (by decide) hw rfl xu_9 tyX9_ok nmX9 (by decide) (show 1 < 32 by decide) xw_592 (Or.inr ⟨rfl, hin, rfl⟩) rfl rfl rfl ?_
  refine g_aload_n (pc := 13) X dX9_init_13 rfl rfl ?_
  refine g_sipush (pc := 14) (v := 320) X dX9_init_14 (by decide) ?_
  refine g_newi (pc := 17) X 320 dX9_init_17 xw_68 (by decide) (by decide) (by decide) ?_
  refine g_put (pc := 19) (k := 76) (j := 3) (ci := 9) (fs := [.int 0, .ref (O.size + 77), .int 0, .null, .int 0, .int 0, .int 0, .int 0, .null, .null, .null, .null, .int 0, .int 0, .int 0, .int 0, .int 0, .int 0, .null, .null, .int 0, .int 0, .null, .null, .null, .null, .null, .int 0, .null, .null, .null, .null]) X tyX9 dX9_init_19 (by decide) rfl rfl xu_9 tyX9_ok nmX9 (by decide) (show 3 < 32 by decide) xw_594 (Or.inr ⟨rfl, hin, rfl⟩) rfl rfl rfl ?_
  refine g_aload_n (pc := 22) X dX9_init_22 rfl rfl ?_
  refine g_iconst (pc := 23) (v := (-1)) X dX9_init_23 (by decide) ?_
  refine g_put (pc := 24) (k := 76) (j := 6) (ci := 9) (fs := [.int 0, .ref (O.size + 77), .int 0, .ref (O.size + 78), .int 0, .int 0, .int 0, .int 0, .null, .null, .null, .null, .int 0, .int 0, .int 0, .int 0, .int 0, .int 0, .null, .null, .int 0, .int 0, .null, .null, .null, .null, .null, .int 0, .null, .null, .null, .null]) X tyX9 dX9_init_24 (by decide) rfl rfl xu_9 tyX9_ok nmX9 (by decide) (show 6 < 32 by decide) xw_597 (Or.inl rfl) rfl rfl rfl ?_
  refine g_aload_n (pc := 27) X dX9_init_27 rfl rfl ?_
  refine g_bipush (pc := 28) (v := 8) X dX9_init_28 (by decide) ?_
  refine g_newi (pc := 30) X 8 dX9_init_30 xw_68 (by decide) (by decide) (by decide) ?_
  refine g_put (pc := 32) (k := 76) (j := 8) (ci := 9) (fs := [.int 0, .ref (O.size + 77), .int 0, .ref (O.size + 78), .int 0, .int 0, .int (-1), .int 0, .null, .null, .null, .null, .int 0, .int 0, .int 0, .int 0, .int 0, .int 0, .null, .null, .int 0, .int 0, .null, .null, .null, .null, .null, .int 0, .null, .null, .null, .null]) X tyX9 dX9_init_32 (by decide) rfl rfl xu_9 tyX9_ok nmX9 (by decide) (show 8 < 32 by decide) xw_599 (Or.inr ⟨rfl, hin, rfl⟩) rfl rfl rfl ?_
  refine g_aload_n (pc := 35) X dX9_init_35 rfl rfl ?_
  refine g_bipush (pc := 36) (v := 8) X dX9_init_36 (by decide) ?_
  refine g_newi (pc := 38) X 8 dX9_init_38 xw_68 (by decide) (by decide) (by decide) ?_
  refine g_put (pc := 40) (k := 76) (j := 9) (ci := 9) (fs := [.int 0, .ref (O.size + 77), .int 0, .ref (O.size + 78), .int 0, .int 0, .int (-1), .int 0, .ref (O.size + 79), .null, .null, .null, .int 0, .int 0, .int 0, .int 0, .int 0, .int 0, .null, .null, .int 0, .int 0, .null, .null, .null, .null, .null, .int 0, .null, .null, .null, .null]) X tyX9 dX9_init_40 (by decide) rfl rfl xu_9 tyX9_ok nmX9 (by decide) (show 9 < 32 by decide) xw_600 (Or.inr ⟨rfl, hin, rfl⟩) rfl rfl rfl ?_
  refine g_aload_n (pc := 43) X dX9_init_43 rfl rfl ?_
  refine g_bipush (pc := 44) (v := 8) X dX9_init_44 (by decide) ?_
  refine g_newi (pc := 46) X 8 dX9_init_46 xw_68 (by decide) (by decide) (by decide) ?_
  refine g_put (pc := 48) (k := 76) (j := 10) (ci := 9) (fs := [.int 0, .ref (O.size + 77), .int 0, .ref (O.size + 78), .int 0, .int 0, .int (-1), .int 0, .ref (O.size + 79), .ref (O.size + 80), .null, .null, .int 0, .int 0, .int 0, .int 0, .int 0, .int 0, .null, .null, .int 0, .int 0, .null, .null, .null, .null, .null, .int 0, .null, .null, .null, .null]) X tyX9 dX9_init_48 (by decide) rfl rfl xu_9 tyX9_ok nmX9 (by decide) (show 10 < 32 by decide) xw_601 (Or.inr ⟨rfl, hin, rfl⟩) rfl rfl rfl ?_
  refine g_aload_n (pc := 51) X dX9_init_51 rfl rfl ?_
  refine g_sipush (pc := 52) (v := 128) X dX9_init_52 (by decide) ?_
  refine g_newi (pc := 55) X 128 dX9_init_55 xw_68 (by decide) (by decide) (by decide) ?_
  refine g_put (pc := 57) (k := 76) (j := 11) (ci := 9) (fs := [.int 0, .ref (O.size + 77), .int 0, .ref (O.size + 78), .int 0, .int 0, .int (-1), .int 0, .ref (O.size + 79), .ref (O.size + 80), .ref (O.size + 81), .null, .int 0, .int 0, .int 0, .int 0, .int 0, .int 0, .null, .null, .int 0, .int 0, .null, .null, .null, .null, .null, .int 0, .null, .null, .null, .null]) X tyX9 dX9_init_57 (by decide) rfl rfl xu_9 tyX9_ok nmX9 (by decide) (show 11 < 32 by decide) xw_602 (Or.inr ⟨rfl, hin, rfl⟩) rfl rfl rfl ?_
  refine g_aload_n (pc := 60) X dX9_init_60 rfl rfl ?_
  refine g_sipush (pc := 61) (v := 256) X dX9_init_61 (by decide) ?_
  refine g_newi (pc := 64) X 256 dX9_init_64 xw_68 (by decide) (by decide) (by decide) ?_
  refine g_put (pc := 66) (k := 76) (j := 18) (ci := 9) (fs := [.int 0, .ref (O.size + 77), .int 0, .ref (O.size + 78), .int 0, .int 0, .int (-1), .int 0, .ref (O.size + 79), .ref (O.size + 80), .ref (O.size + 81), .ref (O.size + 82), .int 0, .int 0, .int 0, .int 0, .int 0, .int 0, .null, .null, .int 0, .int 0, .null, .null, .null, .null, .null, .int 0, .null, .null, .null, .null]) X tyX9 dX9_init_66 (by decide) rfl rfl xu_9 tyX9_ok nmX9 (by decide) (show 18 < 32 by decide) xw_609 (Or.inr ⟨rfl, hin, rfl⟩) rfl rfl rfl ?_
  refine g_aload_n (pc := 69) X dX9_init_69 rfl rfl ?_
  refine g_bipush (pc := 70) (v := 64) X dX9_init_70 (by decide) ?_
  refine g_newi (pc := 72) X 64 dX9_init_72 xw_68 (by decide) (by decide) (by decide) ?_
  refine g_put (pc := 74) (k := 76) (j := 19) (ci := 9) (fs := [.int 0, .ref (O.size + 77), .int 0, .ref (O.size + 78), .int 0, .int 0, .int (-1), .int 0, .ref (O.size + 79), .ref (O.size + 80), .ref (O.size + 81), .ref (O.size + 82), .int 0, .int 0, .int 0, .int 0, .int 0, .int 0, .ref (O.size + 83), .null, .int 0, .int 0, .null, .null, .null, .null, .null, .int 0, .null, .null, .null, .null]) X tyX9 dX9_init_74 (by decide) rfl rfl xu_9 tyX9_ok nmX9 (by decide) (show 19 < 32 by decide) xw_610 (Or.inr ⟨rfl, hin, rfl⟩) rfl rfl rfl ?_
  refine g_aload_n (pc := 77) X dX9_init_77 rfl rfl ?_
  refine g_bipush (pc := 78) (v := 8) X dX9_init_78 (by decide) ?_
  refine g_newi (pc := 80) X 8 dX9_init_80 xw_68 (by decide) (by decide) (by decide) ?_
  refine g_put (pc := 82) (k := 76) (j := 22) (ci := 9) (fs := [.int 0, .ref (O.size + 77), .int 0, .ref (O.size + 78), .int 0, .int 0, .int (-1), .int 0, .ref (O.size + 79), .ref (O.size + 80), .ref (O.size + 81), .ref (O.size + 82), .int 0, .int 0, .int 0, .int 0, .int 0, .int 0, .ref (O.size + 83), .ref (O.size + 84), .int 0, .int 0, .null, .null, .null, .null, .null, .int 0, .null, .null, .null, .null]) X tyX9 dX9_init_82 (by decide) rfl rfl xu_9 tyX9_ok nmX9 (by decide) (show 22 < 32 by decide) xw_613 (Or.inr ⟨rfl, hin, rfl⟩) rfl rfl rfl ?_
  refine g_aload_n (pc := 85) X dX9_init_85 rfl rfl ?_
  refine g_bipush (pc := 86) (v := 8) X dX9_init_86 (by decide) ?_
  refine g_newi (pc := 88) X 8 dX9_init_88 xw_68 (by decide) (by decide) (by decide) ?_
  refine g_put (pc := 90) (k := 76) (j := 23) (ci := 9) (fs := [.int 0, .ref (O.size + 77), .int 0, .ref (O.size + 78), .int 0, .int 0, .int (-1), .int 0, .ref (O.size + 79), .ref (O.size + 80), .ref (O.size + 81), .ref (O.size + 82), .int 0, .int 0, .int 0, .int 0, .int 0, .int 0, .ref (O.size + 83), .ref (O.size + 84), .int 0, .int 0, .ref (O.size + 85), .null, .null, .null, .null, .int 0, .null, .null, .null, .null]) X tyX9 dX9_init_90 (by decide) rfl rfl xu_9 tyX9_ok nmX9 (by decide) (show 23 < 32 by decide) xw_614 (Or.inr ⟨rfl, hin, rfl⟩) rfl rfl rfl ?_
  refine g_aload_n (pc := 93) X dX9_init_93 rfl rfl ?_
  refine g_bipush (pc := 94) (v := 8) X dX9_init_94 (by decide) ?_
  refine g_newi (pc := 96) X 8 dX9_init_96 xw_68 (by decide) (by decide) (by decide) ?_
  refine g_put (pc := 98) (k := 76) (j := 24) (ci := 9) (fs := [.int 0, .ref (O.size + 77), .int 0, .ref (O.size + 78), .int 0, .int 0, .int (-1), .int 0, .ref (O.size + 79), .ref (O.size + 80), .ref (O.size + 81), .ref (O.size + 82), .int 0, .int 0, .int 0, .int 0, .int 0, .int 0, .ref (O.size + 83), .ref (O.size + 84), .int 0, .int 0, .ref (O.size + 85), .ref (O.size + 86), .null, .null, .null, .int 0, .null, .null, .null, .null]) X tyX9 dX9_init_98 (by decide) rfl rfl xu_9 tyX9_ok nmX9 (by decide) (show 24 < 32 by decide) xw_615 (Or.inr ⟨rfl, hin, rfl⟩) rfl rfl rfl ?_
  refine g_aload_n (pc := 101) X dX9_init_101 rfl rfl ?_
  refine g_bipush (pc := 102) (v := 8) X dX9_init_102 (by decide) ?_
  refine g_newi (pc := 104) X 8 dX9_init_104 xw_68 (by decide) (by decide) (by decide) ?_
  refine g_put (pc := 106) (k := 76) (j := 25) (ci := 9) (fs := [.int 0, .ref (O.size + 77), .int 0, .ref (O.size + 78), .int 0, .int 0, .int (-1), .int 0, .ref (O.size + 79), .ref (O.size + 80), .ref (O.size + 81), .ref (O.size + 82), .int 0, .int 0, .int 0, .int 0, .int 0, .int 0, .ref (O.size + 83), .ref (O.size + 84), .int 0, .int 0, .ref (O.size + 85), .ref (O.size + 86), .ref (O.size + 87), .null, .null, .int 0, .null, .null, .null, .null]) X tyX9 dX9_init_106 (by decide) rfl rfl xu_9 tyX9_ok nmX9 (by decide) (show 25 < 32 by decide) xw_616 (Or.inr ⟨rfl, hin, rfl⟩) rfl rfl rfl ?_
  refine g_aload_n (pc := 109) X dX9_init_109 rfl rfl ?_
  refine g_bipush (pc := 110) (v := 8) X dX9_init_110 (by decide) ?_
  refine g_newi (pc := 112) X 8 dX9_init_112 xw_68 (by decide) (by decide) (by decide) ?_
  refine g_put (pc := 114) (k := 76) (j := 26) (ci := 9) (fs := [.int 0, .ref (O.size + 77), .int 0, .ref (O.size + 78), .int 0, .int 0, .int (-1), .int 0, .ref (O.size + 79), .ref (O.size + 80), .ref (O.size + 81), .ref (O.size + 82), .int 0, .int 0, .int 0, .int 0, .int 0, .int 0, .ref (O.size + 83), .ref (O.size + 84), .int 0, .int 0, .ref (O.size + 85), .ref (O.size + 86), .ref (O.size + 87), .ref (O.size + 88), .null, .int 0, .null, .null, .null, .null]) X tyX9 dX9_init_114 (by decide) rfl rfl xu_9 tyX9_ok nmX9 (by decide) (show 26 < 32 by decide) xw_617 (Or.inr ⟨rfl, hin, rfl⟩) rfl rfl rfl ?_
  refine g_aload_n (pc := 117) X dX9_init_117 rfl rfl ?_
  refine g_sipush (pc := 118) (v := 128) X dX9_init_118 (by decide) ?_
  refine g_newi (pc := 121) X 128 dX9_init_121 xw_68 (by decide) (by decide) (by decide) ?_
  refine g_put (pc := 123) (k := 76) (j := 28) (ci := 9) (fs := [.int 0, .ref (O.size + 77), .int 0, .ref (O.size + 78), .int 0, .int 0, .int (-1), .int 0, .ref (O.size + 79), .ref (O.size + 80), .ref (O.size + 81), .ref (O.size + 82), .int 0, .int 0, .int 0, .int 0, .int 0, .int 0, .ref (O.size + 83), .ref (O.size + 84), .int 0, .int 0, .ref (O.size + 85), .ref (O.size + 86), .ref (O.size + 87), .ref (O.size + 88), .ref (O.size + 89), .int 0, .null, .null, .null, .null]) X tyX9 dX9_init_123 (by decide) rfl rfl xu_9 tyX9_ok nmX9 (by decide) (show 28 < 32 by decide) xw_619 (Or.inr ⟨rfl, hin, rfl⟩) rfl rfl rfl ?_
  refine g_aload_n (pc := 126) X dX9_init_126 rfl rfl ?_
  refine g_sipush (pc := 127) (v := 128) X dX9_init_127 (by decide) ?_
  refine g_newi (pc := 130) X 128 dX9_init_130 xw_68 (by decide) (by decide) (by decide) ?_
  refine g_put (pc := 132) (k := 76) (j := 29) (ci := 9) (fs := [.int 0, .ref (O.size + 77), .int 0, .ref (O.size + 78), .int 0, .int 0, .int (-1), .int 0, .ref (O.size + 79), .ref (O.size + 80), .ref (O.size + 81), .ref (O.size + 82), .int 0, .int 0, .int 0, .int 0, .int 0, .int 0, .ref (O.size + 83), .ref (O.size + 84), .int 0, .int 0, .ref (O.size + 85), .ref (O.size + 86), .ref (O.size + 87), .ref (O.size + 88), .ref (O.size + 89), .int 0, .ref (O.size + 90), .null, .null, .null]) X tyX9 dX9_init_132 (by decide) rfl rfl xu_9 tyX9_ok nmX9 (by decide) (show 29 < 32 by decide) xw_620 (Or.inr ⟨rfl, hin, rfl⟩) rfl rfl rfl ?_
  refine g_aload_n (pc := 135) X dX9_init_135 rfl rfl ?_
  refine g_bipush (pc := 136) (v := 8) X dX9_init_136 (by decide) ?_
  refine g_newz (pc := 138) X 8 dX9_init_138 xw_688 (by decide) (by decide) (by decide) ?_
  refine g_put (pc := 140) (k := 76) (j := 30) (ci := 9) (fs := [.int 0, .ref (O.size + 77), .int 0, .ref (O.size + 78), .int 0, .int 0, .int (-1), .int 0, .ref (O.size + 79), .ref (O.size + 80), .ref (O.size + 81), .ref (O.size + 82), .int 0, .int 0, .int 0, .int 0, .int 0, .int 0, .ref (O.size + 83), .ref (O.size + 84), .int 0, .int 0, .ref (O.size + 85), .ref (O.size + 86), .ref (O.size + 87), .ref (O.size + 88), .ref (O.size + 89), .int 0, .ref (O.size + 90), .ref (O.size + 91), .null, .null]) X tyX9 dX9_init_140 (by decide) rfl rfl xu_9 tyX9_ok nmX9 (by decide) (show 30 < 32 by decide) xw_621 (Or.inr ⟨rfl, hin, rfl⟩) rfl rfl rfl ?_
  refine g_aload_n (pc := 143) X dX9_init_143 rfl rfl ?_
  refine g_bipush (pc := 144) (v := 8) X dX9_init_144 (by decide) ?_
  refine g_newi (pc := 146) X 8 dX9_init_146 xw_68 (by decide) (by decide) (by decide) ?_
  refine g_put (pc := 148) (k := 76) (j := 31) (ci := 9) (fs := [.int 0, .ref (O.size + 77), .int 0, .ref (O.size + 78), .int 0, .int 0, .int (-1), .int 0, .ref (O.size + 79), .ref (O.size + 80), .ref (O.size + 81), .ref (O.size + 82), .int 0, .int 0, .int 0, .int 0, .int 0, .int 0, .ref (O.size + 83), .ref (O.size + 84), .int 0, .int 0, .ref (O.size + 85), .ref (O.size + 86), .ref (O.size + 87), .ref (O.size + 88), .ref (O.size + 89), .int 0, .ref (O.size + 90), .ref (O.size + 91), .ref (O.size + 92), .null]) X tyX9 dX9_init_148 (by decide) rfl rfl xu_9 tyX9_ok nmX9 (by decide) (show 31 < 32 by decide) xw_622 (Or.inr ⟨rfl, hin, rfl⟩) rfl rfl rfl ?_
  refine g_aload_n (pc := 151) X dX9_init_151 rfl rfl ?_
  refine g_iconst (pc := 152) (v := 3) X dX9_init_152 (by decide) ?_
  refine g_put (pc := 153) (k := 76) (j := 17) (ci := 9) (fs := [.int 0, .ref (O.size + 77), .int 0, .ref (O.size + 78), .int 0, .int 0, .int (-1), .int 0, .ref (O.size + 79), .ref (O.size + 80), .ref (O.size + 81), .ref (O.size + 82), .int 0, .int 0, .int 0, .int 0, .int 0, .int 0, .ref (O.size + 83), .ref (O.size + 84), .int 0, .int 0, .ref (O.size + 85), .ref (O.size + 86), .ref (O.size + 87), .ref (O.size + 88), .ref (O.size + 89), .int 0, .ref (O.size + 90), .ref (O.size + 91), .ref (O.size + 92), .ref (O.size + 93)]) X tyX9 dX9_init_153 (by decide) rfl rfl xu_9 tyX9_ok nmX9 (by decide) (show 17 < 32 by decide) xw_608 (Or.inl rfl) rfl rfl rfl ?_
  refine g_eqn (w2 := xk G O w 76) (fun j hj => ?_) ?_
  · by_cases hja : j < 76
    · unfold xk; rw [if_pos hja]
      have hne : ∀ k, 76 ≤ k → ¬ j = k := fun k hk he => by omega
      have hlt : ∀ k, 76 ≤ k → j < k := fun k hk => by omega
      simp only [xg_up, xg_mn, xk]
      repeat (first | rw [if_neg (hne _ (by decide))] | rw [if_pos (hlt _ (by decide))])
    · refine xall (n := 94) (a := 76) (P := fun j => _ = xk G O w 76 j) ?_ hja hj
      show ∀ q ∈ [76, 77, 78, 79, 80, 81, 82, 83, 84, 85, 86, 87, 88, 89, 90, 91, 92, 93], _
      exact xcons rfl (xcons rfl (xcons rfl (xcons rfl (xcons rfl (xcons rfl (xcons rfl (xcons rfl (xcons rfl (xcons rfl (xcons rfl (xcons rfl (xcons rfl (xcons rfl (xcons rfl (xcons rfl (xcons rfl (xcons rfl (xnil))))))))))))))))))
  exact g_vret (pc := 156) X hr hk dX9_init_156 ⟨rfl, rfl⟩
