/-! THE MODEL'S SECOND WALK: what expressions tell -/
def emG (m : Mem) (o a l u : Int) (z : Bool) : Mem := if m 158 15 = 0 then emF m o a l u z else m
/-- with the handler that holds -/
def emH (m : Mem) (o a u : Int) : Mem := emG m o a (m 158 48) u false
def vlT (m : Mem) (n : Int) : Int := m 163 n.toNat
def plT (m : Mem) (n : Int) : Int := m 162 n.toNat
abbrev isK (m : Mem) (c k : Int) : Prop := 0 ≤ topK m c ∧ m 166 (topK m c).toNat = k
def inX (m : Mem) (c : Int) : Int := m 167 (topK m c).toNat
/-- plain, array, call: the number, and the memory behind -/
def plV (m : Mem) (n : Int) : Int := if m 158 15 = 0 then (if 0 ≤ lcK m (vlT m n) then lcK m (vlT m n) else if isK m (vlT m n) 1 then 1000 + inX m (vlT m n) else 0) else 0
def plM (m : Mem) (n : Int) : Mem := if m 158 15 = 0 then (if 0 ≤ lcK m (vlT m n) then m else if isK m (vlT m n) 1 then m else bkF m (plT m n)) else m
def arV (m : Mem) (n : Int) : Int := if m 158 15 = 0 then (if isK m (vlT m n) 2 ∧ lcK m (vlT m n) < 0 then inX m (vlT m n) else 0) else 0
def arM (m : Mem) (n : Int) : Mem := if m 158 15 = 0 then (if isK m (vlT m n) 2 ∧ lcK m (vlT m n) < 0 then m else bkF m (plT m n)) else m
def clV (m : Mem) (n : Int) : Int := if m 158 15 = 0 then (if isK m (vlT m n) 4 ∧ lcK m (vlT m n) < 0 then inX m (vlT m n) else 0) else 0
def clM (m : Mem) (n : Int) : Mem := if m 158 15 = 0 then (if isK m (vlT m n) 4 ∧ lcK m (vlT m n) < 0 then m else bkF m (plT m n)) else m
def thM (m : Mem) (n p many : Int) : Mem := if m 158 15 = 0 ∧ ¬ many = m 170 p.toNat then put m 158 16 (if m 158 16 < 0 ∨ plT m n < m 158 16 then plT m n else m 158 16) else m
def eM : xT → Mem → Mem
  | .tag k (.nest i (.append a b)) => fun m => match k with
    | 1 => eM a m
    | 2 => emG (eM b (eM a m)) 14 i (-1) (-1) false
    | 3 => eM b (eM a m)
    | 4 => eM b (emH (eM a m) i 0 (-1))
    | 6 => eM b (eM a m)
    | 7 => eM b (emH (eM a m) i 0 (-1))
    | 9 => emH (eM a m) 13 0 0
    | 10 => eM a m
    | 11 => emG m 1 (vlT m i) (-1) 1 false
    | 12 => emH m 19 0 1
    | 13 => emG (plM m i) (if 1000 ≤ plV m i then 4 else 2) (plV m i % 1000) (-1) 1 false
    | 14 => emH (eM a (arM m i)) 6 (arV m i) 0
    | 15 => emH (thM (eM a (clM m i)) i (clV m i) (nA a)) 17 (clV m i) (w32 (1 - (thM (eM a (clM m i)) i (clV m i) (nA a)) 170 (clV m i).toNat))
    | 17 => eM b (eM a m)
    | 18 => eM b (eM a m)
    | _ => m
  | _ => fun m => m
section EmB
variable {m : Mem}
theorem emG_b (h : m 158 15 = 1) {o a l u : Int} {z : Bool} : emG m o a l u z = m := if_neg (by omega)
theorem emH_b (h : m 158 15 = 1) {o a u : Int} : emH m o a u = m := if_neg (by omega)
theorem plM_b (h : m 158 15 = 1) {n : Int} : plM m n = m := if_neg (by omega)
theorem arM_b (h : m 158 15 = 1) {n : Int} : arM m n = m := if_neg (by omega)
theorem clM_b (h : m 158 15 = 1) {n : Int} : clM m n = m := if_neg (by omega)
theorem thM_b (h : m 158 15 = 1) {n p k : Int} : thM m n p k = m := if_neg (fun z => by omega)
end EmB
theorem eM_b : ∀ (t : xT) (m : Mem), m 158 15 = 1 → eM t m = m
  | .tag k (.nest i (.append a b)), m, h => by
    have ha := eM_b a m h
    have hb := eM_b b m h
    unfold eM
    split <;> simp only [ha, hb, emG_b h, emH_b h, plM_b h, arM_b h, clM_b h, thM_b h]
  | .nil, _, _ => rfl
  | .line, _, _ => rfl
  | .align _, _, _ => rfl
  | .text _, _, _ => rfl
  | .append _ _, _, _ => rfl
  | .group _ _, _, _ => rfl
  | .nest _ _, _, _ => rfl
  | .tag _ .nil, _, _ => rfl
  | .tag _ .line, _, _ => rfl
  | .tag _ (.align _), _, _ => rfl
  | .tag _ (.text _), _, _ => rfl
  | .tag _ (.append _ _), _, _ => rfl
  | .tag _ (.group _ _), _, _ => rfl
  | .tag _ (.tag _ _), _, _ => rfl
  | .tag _ (.nest _ .nil), _, _ => rfl
  | .tag _ (.nest _ .line), _, _ => rfl
  | .tag _ (.nest _ (.align _)), _, _ => rfl
  | .tag _ (.nest _ (.text _)), _, _ => rfl
  | .tag _ (.nest _ (.nest _ _)), _, _ => rfl
  | .tag _ (.nest _ (.group _ _)), _, _ => rfl
  | .tag _ (.nest _ (.tag _ _)), _, _ => rfl
