/-! worlds with a tail: the saved states' cells as one piece -/
theorem wput_left {T : va_W} {J : List Nat} {T' : va_W} : ∀ (isP : List Nat) (w' pre : va_W), isP.length = w'.length → (∀ i ∈ isP, i < pre.length) → wput (pre ++ T) (isP ++ J) (w' ++ T') = wput (wput pre isP w' ++ T) J T'
  | [], [], _, _, _ => rfl
  | i :: is, e :: w, pre, hl, hi => by
    show wput ((pre ++ T).set i e) (is ++ J) (w ++ T') = wput (wput (pre.set i e) is w ++ T) J T'
    rw [List.set_append_left _ _ (hi i List.mem_cons_self)]
    exact wput_left is w (pre.set i e) (Nat.succ.inj hl) (fun j hj => by rw [List.length_set]; exact hi j (List.mem_cons_of_mem _ hj))
  | [], _ :: _, _, hl, _ => absurd hl (by simp)
  | _ :: _, [], _, hl, _ => absurd hl (by simp)
theorem wput_right : ∀ (T T' A : va_W), T'.length = T.length → wput (A ++ T) (List.range' A.length T.length) T' = A ++ T'
  | [], [], _, _ => rfl
  | t :: ts, t' :: ts', A, hl => by
    show wput ((A ++ t :: ts).set A.length t') (List.range' (A.length + 1) ts.length) ts' = A ++ t' :: ts'
    have e1 : (A ++ t :: ts).set A.length t' = (A ++ [t']) ++ ts := by
      rw [List.set_append_right _ _ (Nat.le_refl _), Nat.sub_self]
      simp
    rw [e1]
    have h := wput_right ts ts' (A ++ [t']) (Nat.succ.inj hl)
    rw [List.length_append] at h
    show wput (A ++ [t'] ++ ts) (List.range' (A.length + [t'].length) ts.length) ts' = _
    rw [h]
    simp
  | [], _ :: _, _, hl => absurd hl (by simp)
  | _ :: _, [], _, hl => absurd hl (by simp)
theorem wput_length : ∀ (is : List Nat) (w ws : va_W), (wput ws is w).length = ws.length
  | [], [], _ => rfl
  | [], _ :: _, _ => rfl
  | _ :: _, [], _ => rfl
  | i :: is, e :: w, ws => by
    show (wput (ws.set i e) is w).length = _
    rw [wput_length is w (ws.set i e), List.length_set]
theorem tail_put {pre T w' T' pre' : va_W} {isP : List Nat} {n : Nat} (hn : pre.length = n) (hT0 : T.length = 36) (hT : T'.length = 36) (hlen : isP.length = w'.length) (hl : ∀ i ∈ isP, i < n) (hp : wput pre isP w' = pre') : wput (pre ++ T) (isP ++ List.range' n 36) (w' ++ T') = pre' ++ T' := by
  subst hn
  rw [wput_left isP w' pre hlen hl, hp]
  have h := wput_right T T' pre' (hT.trans hT0.symm)
  rw [← hp, wput_length, hT0, hp] at h
  exact h
theorem range_get : ∀ (T A : va_W), (List.range' A.length T.length).map (fun i => (A ++ T)[i]?) = T.map some
  | [], _ => rfl
  | t :: ts, A => by
    show (A ++ t :: ts)[A.length]? :: (List.range' (A.length + 1) ts.length).map (fun i => (A ++ t :: ts)[i]?) = some t :: ts.map some
    have h := range_get ts (A ++ [t])
    rw [List.length_append] at h
    have e1 : (A ++ [t]) ++ ts = A ++ t :: ts := by simp
    rw [e1] at h
    rw [show (List.range' (A.length + 1) ts.length).map (fun i => (A ++ t :: ts)[i]?) = ts.map some from h]
    rw [List.getElem?_append_right (Nat.le_refl _), Nat.sub_self]
    rfl
theorem tail_get {pre T w : va_W} {isP : List Nat} {n : Nat} (hn : pre.length = n) (hT0 : T.length = 36) (h : isP.map (fun i => pre[i]?) = w.map some) : (isP ++ List.range' n 36).map (fun i => (pre ++ T)[i]?) = (w ++ T).map some := by
  subst hn
  rw [List.map_append, List.map_append, ← hT0, range_get T pre]
  congr 1
  have hin : ∀ i ∈ isP, (pre ++ T)[i]? = pre[i]? := fun i hi => by
    have h1 : pre[i]? ∈ isP.map (fun i => pre[i]?) := List.mem_map.mpr ⟨i, hi, rfl⟩
    rw [h] at h1
    obtain ⟨z, -, hz⟩ := List.mem_map.mp h1
    have hlt := (List.getElem?_eq_some_iff.mp hz.symm).1
    exact List.getElem?_append_left hlt
  rw [← h]
  exact List.map_congr_left hin
theorem svw_len {G : u_G} {a : Nat → Nat → Nat} {xs : Nat → Nat → Nat} {ys ps : Nat → Nat → Int32} : (svw G a xs ys ps).length = 36 := rfl
theorem lpos_go' {p : Nat → Int32} {f n k F N : Nat} (h : lpos p f n k = (F, N)) (hN : ¬ N = 0) : lpos p f n (k + 1) = (bh F (bN p F N), N - tk (bN p F N)) := by
  have e := lpos_go (p := p) (f := f) (n := n) (k := k) (by rw [h]; exact hN)
  rw [h] at e
  exact e
theorem mln_go' {p : Nat → Int32} {f n k F N : Nat} {h : Int64} (e : lpos p f n k = (F, N)) (hN : ¬ N = 0) : mln p f n h (k + 1) = mi (mln p f n h k) (nI (bN p F N)) := by
  have e2 := mln_go (p := p) (f := f) (n := n) (k := k) (h := h) (by rw [e]; exact hN)
  rw [e] at e2
  exact e2
theorem lpos_in' {p : Nat → Int32} (hp : PR p) {f n k F N : Nat} (hfn : f + n ≤ 12) (h : lpos p f n k = (F, N)) : F + N ≤ f + n ∧ N ≤ n - k := by
  have e := lpos_in hp hfn k
  rw [h] at e
  exact e
theorem mor_zero (o : Nat) (h : Int64) : mor o h 0 = h := rfl
theorem mor_succ (o : Nat) (h : Int64) (i : Nat) : mor o h (i + 1) = mi (mor o h i) (nI (odf o i)) := rfl
