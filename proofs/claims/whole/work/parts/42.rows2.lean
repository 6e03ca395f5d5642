/-! ROWS of one instruction each -/
theorem i32o (x : Int32) : Int32.ofInt x.toInt = x := Int32.ofInt_toInt x
section Rows2
variable {p : Program} {l : Launch} {e : Env} {R : Room} {s : State} {m : MethodId} {args : Array Value} {below : List Frame} {meth : Method} {c : Code} {Q : State → Prop}
variable {G : xG} {st : xStt} {H0 : Heap} {hE : xH} {cd : xC} {cc : ByteArray} {pl : xPl} {own pc pc' : Nat} {nm : String} {x : xS} {sa : xL}
def PoolI (nm : String) (own : Nat) (pl : xPl) (args : Array Value) (s : State) : Prop := ∀ k i, pl own k = some (0, i) → ∃ v : Int32, v.toInt = i ∧ (Jvm.Cond.constant nm k v).before args s = true
def PoolJ (nm : String) (own : Nat) (pl : xPl) (args : Array Value) (s : State) : Prop := ∀ k i, pl own k = some (1, i) → ∃ v : Int64, v.toInt = i ∧ (Jvm.Cond.constantLong nm k v).before args s = true
theorem at_I (hx : p.tables.exec = Jvm.exec) (hb : c.code = cc) (hcd : CdOK cd cc) (hown : s.vm.findClass nm = some m.cls) (hp : PoolI nm own pl args s) {i : Int} (h : ckI cd pl own pc i = some pc') (hk : At p l e R s m args below meth c Q G st H0 hE cd pc' x ((0, i) :: sa)) : At p l e R s m args below meth c Q G st H0 hE cd pc x sa := by
  unfold ckI at h
  split at h
  · rename_i n heq
    split at h
    · rename_i hv
      cases h
      refine At.row hx hb hcd heq (fun _ => by intro q; cases q) hk fun H ls locs vs h1 h2 h3 h4 k => ?_
      exact lv_iconst hx hb (hcd _ _ _ heq) rfl (k _ _ _ _ h1 h2 h3 ⟨⟨_, rfl, hv.symm⟩, h4⟩)
    · cases h
  · rename_i n heq
    split at h
    · rename_i hv
      cases h
      refine At.row hx hb hcd heq (fun _ => by intro q; cases q) hk fun H ls locs vs h1 h2 h3 h4 k => ?_
      exact lv_bipush hx hb (hcd _ _ _ heq) rfl (k _ _ _ _ h1 h2 h3 ⟨⟨_, rfl, hv.symm⟩, h4⟩)
    · cases h
  · rename_i n heq
    split at h
    · rename_i hv
      cases h
      refine At.row hx hb hcd heq (fun _ => by intro q; cases q) hk fun H ls locs vs h1 h2 h3 h4 k => ?_
      exact lv_sipush hx hb (hcd _ _ _ heq) rfl (k _ _ _ _ h1 h2 h3 ⟨⟨_, rfl, hv.symm⟩, h4⟩)
    · cases h
  · rename_i n heq
    split at h
    · rename_i hv
      cases h
      obtain ⟨v, e1, e2⟩ := hp _ _ hv
      refine At.row hx hb hcd heq (fun _ => by intro q; cases q) hk fun H ls locs vs h1 h2 h3 h4 k => ?_
      exact lv_ldc hx hb hown e2 (hcd _ _ _ heq) (k _ _ _ _ h1 h2 h3 ⟨⟨_, rfl, e1.symm⟩, h4⟩)
    · cases h
  · rename_i n heq
    split at h
    · rename_i hv
      cases h
      obtain ⟨v, e1, e2⟩ := hp _ _ hv
      refine At.row hx hb hcd heq (fun _ => by intro q; cases q) hk fun H ls locs vs h1 h2 h3 h4 k => ?_
      exact lv_ldcw hx hb hown e2 (hcd _ _ _ heq) (k _ _ _ _ h1 h2 h3 ⟨⟨_, rfl, e1.symm⟩, h4⟩)
    · cases h
  · cases h
theorem at_Ld (hx : p.tables.exec = Jvm.exec) (hb : c.code = cc) (hcd : CdOK cd cc) {t j : Nat} {n : Int} (hL : x.1[j]? = some (t, n)) (h : ckLd cd pc t j = some pc') (hk : At p l e R s m args below meth c Q G st H0 hE cd pc' x ((t, n) :: sa)) : At p l e R s m args below meth c Q G st H0 hE cd pc x sa := by
  unfold ckLd at h
  split at h
  case h_7 => cases h
  all_goals
    rename_i k0 heq
    split at h
    case isFalse => cases h
    case isTrue hv =>
      cases h
      obtain ⟨rfl, hv⟩ := hv
      refine At.row hx hb hcd heq (fun _ => by intro q; cases q) hk fun H ls locs vs h1 h2 h3 h4 k => ?_
      obtain ⟨v, hr, hl⟩ := h2.2.2 _ _ _ hL (by decide)
      first
        | (obtain ⟨y, rfl, -⟩ := id hr; exact lv_iload_n hx hb (hcd _ _ _ heq) hv hl (k _ _ _ _ h1 h2 h3 ⟨hr, h4⟩))
        | (subst hv; obtain ⟨y, rfl, -⟩ := id hr; exact lv_iload hx hb (hcd _ _ _ heq) hl (k _ _ _ _ h1 h2 h3 ⟨hr, h4⟩))
        | (obtain ⟨y, rfl, -⟩ := id hr; exact lv_lload_n hx hb (hcd _ _ _ heq) hv hl (k _ _ _ _ h1 h2 h3 ⟨hr, h4⟩))
        | (subst hv; obtain ⟨y, rfl, -⟩ := id hr; exact lv_lload hx hb (hcd _ _ _ heq) hl (k _ _ _ _ h1 h2 h3 ⟨hr, h4⟩))
        | (rcases id hr with ⟨-, rfl⟩ | ⟨-, rfl | ⟨a, rfl⟩⟩ | ⟨a, -, rfl⟩ <;>
           first
             | exact lv_aload_nN hx hb (hcd _ _ _ heq) hv hl (k _ _ _ _ h1 h2 h3 ⟨hr, h4⟩)
             | exact lv_aload_n hx hb (hcd _ _ _ heq) hv hl (k _ _ _ _ h1 h2 h3 ⟨hr, h4⟩))
        | (subst hv; rcases id hr with ⟨-, rfl⟩ | ⟨-, rfl | ⟨a, rfl⟩⟩ | ⟨a, -, rfl⟩ <;>
           first
             | exact lv_aloadN hx hb (hcd _ _ _ heq) hl (k _ _ _ _ h1 h2 h3 ⟨hr, h4⟩)
             | exact lv_aload hx hb (hcd _ _ _ heq) hl (k _ _ _ _ h1 h2 h3 ⟨hr, h4⟩))
end Rows2
