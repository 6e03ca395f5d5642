/-! STORES into locals -/
theorem lkill_get {L : xL} {k j t : Nat} {n : Int} (h : (lkill L k)[j]? = some (t, n)) (ht : t < 3) : L[j]? = some (t, n) ∧ ¬ (j = k ∧ t = 1) := by
  unfold lkill at h
  split at h
  · rename_i y heq
    by_cases hjk : j = k
    · subst hjk
      have hlt : j < L.length := (List.getElem?_eq_some_iff.mp heq).1
      rw [List.getElem?_set_self hlt] at h
      cases h
      omega
    · rw [List.getElem?_set_ne (by omega)] at h
      exact ⟨h, fun q => hjk q.1⟩
  · rename_i hno
    refine ⟨h, fun q => ?_⟩
    obtain ⟨rfl, rfl⟩ := q
    exact hno _ h
theorem lkill_len (L : xL) (k : Nat) : (lkill L k).length = L.length := by
  unfold lkill
  split <;> simp
theorem LR_st1 {r : Nat → Nat} {L : xL} {ls : Array Slot} {i t : Nat} {n : Int} {v : Value} (h : LR r L ls) (hi : i < L.length) (ht : t ≠ 1) (hv : rel r t n v) : ∃ ls', storeLocals ls i v = some ls' ∧ LR r (lset L i t n) ls' := by
  have h3 := rel_lt hv
  have hc : v.category = 1 := by
    rw [rel_cat hv]
    unfold cat
    rw [if_neg ht, if_neg (by omega)]
  obtain ⟨ls', e1, g⟩ := lv_store1 (l := []) (i := i) (v := v) ⟨h.1, h.2.1, by simp⟩ hi hc
  refine ⟨ls', e1, ?_⟩
  unfold lset
  rw [if_neg ht]
  refine ⟨by rw [List.length_set, lkill_len]; exact g.1, g.2.1, fun j t' n' hj ht' => ?_⟩
  by_cases hji : j = i
  · subst hji
    rw [List.getElem?_set_self (by rw [lkill_len]; exact hi)] at hj
    cases hj
    exact ⟨v, hv, g.2.2 (j, v) (by simp)⟩
  · rw [List.getElem?_set_ne (by omega)] at hj
    obtain ⟨hL, hno⟩ := lkill_get hj ht'
    obtain ⟨w, hw, hl⟩ := h.2.2 j t' n' hL ht'
    obtain ⟨ls2, e2, g2⟩ := lv_store1 (l := [(j, w)]) (i := i) (v := v) ⟨h.1, h.2.1, by simpa using hl⟩ hi hc
    cases e1.symm.trans e2
    refine ⟨w, hw, g2.2.2 (j, w) ?_⟩
    have hcw : ¬ (j + 1 = i ∧ w.category = 2) := by
      intro q
      rw [rel_cat hw] at q
      unfold cat at q
      have : t' = 1 := by
        have := q.2
        split at this
        · assumption
        · split at this <;> omega
      exact hno ⟨by omega, this⟩
    simp only [List.mem_cons, List.mem_filter]
    right
    refine ⟨by simp, ?_⟩
    simp only [Bool.and_eq_true, Bool.not_eq_true', beq_eq_false_iff_ne, Bool.and_eq_false_iff]
    refine ⟨hji, ?_⟩
    by_cases q : j + 1 = i
    · right
      intro z
      exact hcw ⟨q, z⟩
    · left
      exact q
theorem LR_st2 {r : Nat → Nat} {L : xL} {ls : Array Slot} {i : Nat} {n : Int} {v : Value} (h : LR r L ls) (hi : i + 1 < L.length) (hv : rel r 1 n v) : ∃ ls', storeLocals ls i v = some ls' ∧ LR r (lset L i 1 n) ls' := by
  have hc : v.category = 2 := by
    rw [rel_cat hv]
    rfl
  obtain ⟨ls', e1, g⟩ := lv_store2 (l := []) (i := i) (v := v) ⟨h.1, h.2.1, by simp⟩ hi hc
  refine ⟨ls', e1, ?_⟩
  unfold lset
  rw [if_pos rfl]
  refine ⟨by rw [List.length_set, List.length_set, lkill_len]; exact g.1, g.2.1, fun j t' n' hj ht' => ?_⟩
  by_cases hj1 : j = i + 1
  · subst hj1
    rw [List.getElem?_set_self (by rw [List.length_set, lkill_len]; exact hi)] at hj
    cases hj
    omega
  rw [List.getElem?_set_ne (by omega)] at hj
  by_cases hji : j = i
  · subst hji
    rw [List.getElem?_set_self (by rw [lkill_len]; omega)] at hj
    cases hj
    exact ⟨v, hv, g.2.2 (j, v) (by simp)⟩
  · rw [List.getElem?_set_ne (by omega)] at hj
    obtain ⟨hL, hno⟩ := lkill_get hj ht'
    obtain ⟨w, hw, hl⟩ := h.2.2 j t' n' hL ht'
    obtain ⟨ls2, e2, g2⟩ := lv_store2 (l := [(j, w)]) (i := i) (v := v) ⟨h.1, h.2.1, by simpa using hl⟩ hi hc
    cases e1.symm.trans e2
    refine ⟨w, hw, g2.2.2 (j, w) ?_⟩
    have hcw : ¬ (j + 1 = i ∧ w.category = 2) := by
      intro q
      rw [rel_cat hw] at q
      unfold cat at q
      have : t' = 1 := by
        have := q.2
        split at this
        · assumption
        · split at this <;> omega
      exact hno ⟨by omega, this⟩
    simp only [List.mem_cons, List.mem_filter]
    right
    refine ⟨by simp, ?_⟩
    simp only [Bool.and_eq_true, Bool.not_eq_true', beq_eq_false_iff_ne, Bool.and_eq_false_iff]
    refine ⟨hji, hj1, ?_⟩
    by_cases q : j + 1 = i
    · right
      intro z
      exact hcw ⟨q, z⟩
    · left
      exact q
section Rows3
variable {p : Program} {l : Launch} {e : Env} {R : Room} {s : State} {m : MethodId} {args : Array Value} {below : List Frame} {meth : Method} {c : Code} {Q : State → Prop}
variable {G : xG} {st : xStt} {H0 : Heap} {hE : xH} {cd : xC} {cc : ByteArray} {pc pc' : Nat} {x : xS} {sa : xL}
variable {H : Heap} {locs : List Loc} {cells slots : Nat} {ls ls' : Array Slot} {rest : List Value}
theorem W_ist (hexec : p.tables.exec = Jvm.exec) (hb : c.code = cc) {i : Nat} {y : Int32} (hdg : decode cc pc = .ok (.istore i, 2)) (e' : storeLocals ls i (.int y) = some ls') (k : W p l e R s m args below meth c H locs cells slots Q (F0 m (pc + 2) ls' rest)) : W p l e R s m args below meth c H locs cells slots Q (F0 m pc ls (.int y :: rest)) := by
  intro T hT X
  obtain ⟨t, a, b⟩ := k T hT X
  refine ⟨t, ?_, b⟩
  jvm_step X.here [X.here.top, ↓top_set X.here.top, hexec, hb, hdg, e']
  exact a
theorem W_ist_n (hexec : p.tables.exec = Jvm.exec) (hb : c.code = cc) {i : Fin 4} {y : Int32} (hdg : decode cc pc = .ok (.istore_n i, 1)) (e' : storeLocals ls i.val (.int y) = some ls') (k : W p l e R s m args below meth c H locs cells slots Q (F0 m (pc + 1) ls' rest)) : W p l e R s m args below meth c H locs cells slots Q (F0 m pc ls (.int y :: rest)) := by
  intro T hT X
  obtain ⟨t, a, b⟩ := k T hT X
  refine ⟨t, ?_, b⟩
  jvm_step X.here [X.here.top, ↓top_set X.here.top, hexec, hb, hdg, e']
  exact a
theorem W_lst (hexec : p.tables.exec = Jvm.exec) (hb : c.code = cc) {i : Nat} {y : Int64} (hdg : decode cc pc = .ok (.lstore i, 2)) (e' : storeLocals ls i (.long y) = some ls') (k : W p l e R s m args below meth c H locs cells slots Q (F0 m (pc + 2) ls' rest)) : W p l e R s m args below meth c H locs cells slots Q (F0 m pc ls (.long y :: rest)) := by
  intro T hT X
  obtain ⟨t, a, b⟩ := k T hT X
  refine ⟨t, ?_, b⟩
  jvm_step X.here [X.here.top, ↓top_set X.here.top, hexec, hb, hdg, e']
  exact a
theorem W_lst_n (hexec : p.tables.exec = Jvm.exec) (hb : c.code = cc) {i : Fin 4} {y : Int64} (hdg : decode cc pc = .ok (.lstore_n i, 1)) (e' : storeLocals ls i.val (.long y) = some ls') (k : W p l e R s m args below meth c H locs cells slots Q (F0 m (pc + 1) ls' rest)) : W p l e R s m args below meth c H locs cells slots Q (F0 m pc ls (.long y :: rest)) := by
  intro T hT X
  obtain ⟨t, a, b⟩ := k T hT X
  refine ⟨t, ?_, b⟩
  jvm_step X.here [X.here.top, ↓top_set X.here.top, hexec, hb, hdg, e']
  exact a
theorem W_ast (hexec : p.tables.exec = Jvm.exec) (hb : c.code = cc) {i : Nat} {v : Value} (hv : v = .null ∨ ∃ a : Nat, v = .ref a) (hdg : decode cc pc = .ok (.astore i, 2)) (e' : storeLocals ls i v = some ls') (k : W p l e R s m args below meth c H locs cells slots Q (F0 m (pc + 2) ls' rest)) : W p l e R s m args below meth c H locs cells slots Q (F0 m pc ls (v :: rest)) := by
  rcases hv with rfl | ⟨a0, rfl⟩ <;>
  · intro T hT X
    obtain ⟨t, a, b⟩ := k T hT X
    refine ⟨t, ?_, b⟩
    jvm_step X.here [X.here.top, ↓top_set X.here.top, hexec, hb, hdg, e']
    exact ⟨rfl, a⟩
theorem W_ast_n (hexec : p.tables.exec = Jvm.exec) (hb : c.code = cc) {i : Fin 4} {v : Value} (hv : v = .null ∨ ∃ a : Nat, v = .ref a) (hdg : decode cc pc = .ok (.astore_n i, 1)) (e' : storeLocals ls i.val v = some ls') (k : W p l e R s m args below meth c H locs cells slots Q (F0 m (pc + 1) ls' rest)) : W p l e R s m args below meth c H locs cells slots Q (F0 m pc ls (v :: rest)) := by
  rcases hv with rfl | ⟨a0, rfl⟩ <;>
  · intro T hT X
    obtain ⟨t, a, b⟩ := k T hT X
    refine ⟨t, ?_, b⟩
    jvm_step X.here [X.here.top, ↓top_set X.here.top, hexec, hb, hdg, e']
    exact ⟨rfl, a⟩
theorem W_iinc (hexec : p.tables.exec = Jvm.exec) (hb : c.code = cc) {i : Nat} {n : Int} {y : Int32} (hdg : decode cc pc = .ok (.iinc i n, 3)) (hg : ls[i]? = some (.val (.int y))) (e' : storeLocals ls i (.int (y + Int32.ofInt n)) = some ls') (k : W p l e R s m args below meth c H locs cells slots Q (F0 m (pc + 3) ls' rest)) : W p l e R s m args below meth c H locs cells slots Q (F0 m pc ls rest) := by
  intro T hT X
  obtain ⟨t, a, b⟩ := k T hT X
  refine ⟨t, ?_, b⟩
  jvm_step X.here [X.here.top, ↓top_set X.here.top, hexec, hb, hdg, hg, e']
  exact a
theorem rel2 {r : Nat → Nat} {n : Int} {v : Value} (h : rel r 2 n v) : v = .null ∨ ∃ a : Nat, v = .ref a := by
  rcases h with ⟨-, h⟩ | ⟨-, h⟩ | ⟨k, -, h⟩
  · exact Or.inl h
  · exact h
  · exact Or.inr ⟨_, h⟩
theorem at_St (hx : p.tables.exec = Jvm.exec) (hb : c.code = cc) (hcd : CdOK cd cc) {t j : Nat} {n : Int} (hj : j + t % 2 < x.1.length) (h : ckSt cd pc t j = some pc') (hk : At p l e R s m args below meth c Q G st H0 hE cd pc' (lset x.1 j t n, x.2) sa) : At p l e R s m args below meth c Q G st H0 hE cd pc x ((t, n) :: sa) := by
  unfold ckSt at h
  split at h
  · rename_i k0 heq
    split at h
    · rename_i hv
      cases h
      obtain ⟨rfl, hv⟩ := hv
      subst hv
      refine At.row hx hb hcd heq (fun _ => by intro q; cases q) hk fun H ls locs vs h1 h2 h3 h4 k => ?_
      obtain ⟨v, w, rfl, hr, h5⟩ := SR_cons h4
      dsimp only at hr
      obtain ⟨ls', e1, g⟩ := LR_st1 (n := n) h2 (by omega) (by decide) hr
      obtain ⟨y, rfl, -⟩ := id hr
      exact W_ist_n hx hb (hcd _ _ _ heq) e1 (k _ _ _ _ h1 g h3 h5)
    · cases h
  · rename_i k0 heq
    split at h
    · rename_i hv
      cases h
      obtain ⟨rfl, hv⟩ := hv
      subst hv
      refine At.row hx hb hcd heq (fun _ => by intro q; cases q) hk fun H ls locs vs h1 h2 h3 h4 k => ?_
      obtain ⟨v, w, rfl, hr, h5⟩ := SR_cons h4
      dsimp only at hr
      obtain ⟨ls', e1, g⟩ := LR_st1 (n := n) h2 (by omega) (by decide) hr
      obtain ⟨y, rfl, -⟩ := id hr
      exact W_ist hx hb (hcd _ _ _ heq) e1 (k _ _ _ _ h1 g h3 h5)
    · cases h
  · rename_i k0 heq
    split at h
    · rename_i hv
      cases h
      obtain ⟨rfl, hv⟩ := hv
      subst hv
      refine At.row hx hb hcd heq (fun _ => by intro q; cases q) hk fun H ls locs vs h1 h2 h3 h4 k => ?_
      obtain ⟨v, w, rfl, hr, h5⟩ := SR_cons h4
      dsimp only at hr
      obtain ⟨ls', e1, g⟩ := LR_st2 (n := n) h2 (by omega) hr
      obtain ⟨y, rfl, -⟩ := id hr
      exact W_lst_n hx hb (hcd _ _ _ heq) e1 (k _ _ _ _ h1 g h3 h5)
    · cases h
  · rename_i k0 heq
    split at h
    · rename_i hv
      cases h
      obtain ⟨rfl, hv⟩ := hv
      subst hv
      refine At.row hx hb hcd heq (fun _ => by intro q; cases q) hk fun H ls locs vs h1 h2 h3 h4 k => ?_
      obtain ⟨v, w, rfl, hr, h5⟩ := SR_cons h4
      dsimp only at hr
      obtain ⟨ls', e1, g⟩ := LR_st2 (n := n) h2 (by omega) hr
      obtain ⟨y, rfl, -⟩ := id hr
      exact W_lst hx hb (hcd _ _ _ heq) e1 (k _ _ _ _ h1 g h3 h5)
    · cases h
  · rename_i k0 heq
    split at h
    · rename_i hv
      cases h
      obtain ⟨rfl, hv⟩ := hv
      subst hv
      refine At.row hx hb hcd heq (fun _ => by intro q; cases q) hk fun H ls locs vs h1 h2 h3 h4 k => ?_
      obtain ⟨v, w, rfl, hr, h5⟩ := SR_cons h4
      dsimp only at hr
      obtain ⟨ls', e1, g⟩ := LR_st1 (n := n) h2 (by omega) (by decide) hr
      exact W_ast_n hx hb (rel2 hr) (hcd _ _ _ heq) e1 (k _ _ _ _ h1 g h3 h5)
    · cases h
  · rename_i k0 heq
    split at h
    · rename_i hv
      cases h
      obtain ⟨rfl, hv⟩ := hv
      subst hv
      refine At.row hx hb hcd heq (fun _ => by intro q; cases q) hk fun H ls locs vs h1 h2 h3 h4 k => ?_
      obtain ⟨v, w, rfl, hr, h5⟩ := SR_cons h4
      dsimp only at hr
      obtain ⟨ls', e1, g⟩ := LR_st1 (n := n) h2 (by omega) (by decide) hr
      exact W_ast hx hb (rel2 hr) (hcd _ _ _ heq) e1 (k _ _ _ _ h1 g h3 h5)
    · cases h
  · cases h
theorem at_Inc (hx : p.tables.exec = Jvm.exec) (hb : c.code = cc) (hcd : CdOK cd cc) {j : Nat} {n d : Int} (hL : x.1[j]? = some (0, n)) (h : cd pc = some (.iinc j d, 3)) (hk : At p l e R s m args below meth c Q G st H0 hE cd (pc + 3) (lset x.1 j 0 (w32 (n + d)), x.2) sa) (hd : -32768 ≤ d ∧ d ≤ 32767) : At p l e R s m args below meth c Q G st H0 hE cd pc x sa := by
  refine At.row hx hb hcd h (fun _ => by intro q; cases q) hk fun H ls locs vs h1 h2 h3 h4 k => ?_
  obtain ⟨v, hr, hl⟩ := h2.2.2 _ _ _ hL (by decide)
  obtain ⟨y, rfl, hy⟩ := id hr
  have hlt : j < x.1.length := (List.getElem?_eq_some_iff.mp hL).1
  obtain ⟨ls', e1, g⟩ := LR_st1 (r := ro G) (t := 0) (n := w32 (n + d)) (v := .int (y + Int32.ofInt d)) h2 hlt (by decide) ⟨_, rfl, by
    rw [Int32.toInt_add, Int32.toInt_ofInt_of_le (by omega) (by omega), hy]
    rfl⟩
  exact W_iinc hx hb (hcd _ _ _ h) hl e1 (k _ _ _ _ h1 g h3 h4)
end Rows3
