/-! A machine of our own over worlds whose cells are numbered: it is run by the kernel; part 03 shows that what it runs to, the Java machine runs to. -/
abbrev ix_V : Type := Nat ⊕ (Nat ⊕ (Nat ⊕ (Nat × Nat)))
abbrev ix_A : Type := Lean.RArray ix_V
abbrev ix_C : Type := Nat × (Nat × ix_A)
abbrev ix_T : Type := Lean.RArray ix_C
abbrev ix_B : Type := List (Nat × Nat)
abbrev ix_L : Type := List (Option ix_V)
/-- box, locals, stack, number of cells, cells, cells made, slots made -/
abbrev ix_S : Type := ix_B × (ix_L × (List ix_V × (Nat × (ix_T × (Nat × Nat)))))
abbrev ix_R : Type := Option (List (Nat × ix_S))
abbrev ix_vI (n : Nat) : ix_V := .inl n
abbrev ix_vL (n : Nat) : ix_V := .inr (.inl n)
abbrev ix_vR (n : Nat) : ix_V := .inr (.inr (.inl n))
abbrev ix_vS (x c : Nat) : ix_V := .inr (.inr (.inr (x, c)))
abbrev ix_any : ix_V := ix_vS 0 0
noncomputable def ix_g {α : Type} (t : Lean.RArray α) : Nat → α :=
  Lean.RArray.rec (motive := fun _ => Nat → α) (fun a _ => a) (fun _ _ _ l r n => cond (Nat.beq (Nat.mod n 2) 0) (l (Nat.div n 2)) (r (Nat.div n 2))) t
noncomputable def ix_u {α : Type} (f : Nat) : Lean.RArray α → Nat → α → Lean.RArray α :=
  Nat.rec (motive := fun _ => Lean.RArray α → Nat → α → Lean.RArray α) (fun _ _ v => .leaf v)
    (fun _ ih t n v => Lean.RArray.casesOn (motive := fun _ => Lean.RArray α) t
      (fun a => cond (Nat.beq (Nat.mod n 2) 0) (.branch 0 (ih (.leaf a) (Nat.div n 2) v) (.leaf a)) (.branch 0 (.leaf a) (ih (.leaf a) (Nat.div n 2) v)))
      (fun _ l r => cond (Nat.beq (Nat.mod n 2) 0) (.branch 0 (ih l (Nat.div n 2) v) r) (.branch 0 l (ih r (Nat.div n 2) v)))) f
/-- how deep the tree of a row of so many is -/
noncomputable def ix_dep (len : Nat) : Nat := cond (Nat.ble len 64) 6 14
noncomputable def ix_m32 : Nat := 4294967296
noncomputable def ix_m64 : Nat := 18446744073709551616
noncomputable def ix_h32 : Nat := 2147483648
/-- an int, moved so that the least is 0 -/
noncomputable def ix_bias (n : Nat) : Nat := Nat.mod (Nat.add n ix_h32) ix_m32
noncomputable def ix_add (a b : Nat) : Nat := Nat.mod (Nat.add a b) ix_m32
noncomputable def ix_sub (a b : Nat) : Nat := Nat.mod (Nat.sub (Nat.add a ix_m32) b) ix_m32
noncomputable def ix_mul (a b : Nat) : Nat := Nat.mod (Nat.mul a b) ix_m32
noncomputable def ix_box (B : ix_B) (x : Nat) : Nat × Nat := B.getD x (0, 4294967295)
/-- a symbol of one value is that value -/
noncomputable def ix_nrm (B : ix_B) (v : ix_V) : ix_V := match v with
  | .inr (.inr (.inr (x, c))) => cond (Nat.beq x 0) v (match ix_box B x with | (lo, hi) => cond (Nat.beq lo hi) (ix_vI (ix_add (ix_bias lo) c)) v)
  | w => w
noncomputable def ix_isInt (v : ix_V) : Bool := match v with
  | .inl _ => true
  | .inr (.inr (.inr _)) => true
  | _ => false
noncomputable def ix_cat2 (v : ix_V) : Bool := match v with
  | .inr (.inl _) => true
  | _ => false
/-- a box for each value of x from lo on, so many -/
noncomputable def ix_each (B : ix_B) (x : Nat) : Nat → Nat → List ix_B
  | _, 0 => []
  | lo, k + 1 => B.set x (lo, lo) :: ix_each B x (lo + 1) k
/-- the same once more for each value of a symbol, if they are few -/
noncomputable def ix_split (pc : Nat) (S : ix_S) (x : Nat) : ix_R := match ix_box S.1 x with
  | (lo, hi) => cond (Nat.ble (Nat.sub hi lo) 130 && (Nat.ble lo hi && (Nat.blt 0 x && Nat.blt x S.1.length))) (some ((ix_each S.1 x lo (Nat.succ (Nat.sub hi lo))).map (fun b => (pc, (b, S.2))))) none
noncomputable def ix_no : ix_S → ix_R := fun _ => none
noncomputable def ix_push (nx : Nat) (v : ix_V) : ix_S → ix_R
  | (B, ls, st, w) => some [(nx, (B, ls, v :: st, w))]
noncomputable def ix_isLong (v : ix_V) : Bool := match v with
  | .inr (.inl _) => true
  | _ => false
noncomputable def ix_isRef (v : ix_V) : Bool := match v with
  | .inr (.inr (.inl _)) => true
  | _ => false
noncomputable def ix_isBit (v : ix_V) : Bool := match v with
  | .inl n => Nat.blt n 2
  | _ => false
noncomputable def ix_load (ok : ix_V → Bool) (i nx : Nat) : ix_S → ix_R
  | (B, ls, st, w) => match ls[i]? with
    | some (some v) => cond (ok v) (some [(nx, (B, ls, v :: st, w))]) none
    | _ => none
noncomputable def ix_clr (ls : ix_L) (i : Nat) : ix_L := match i with
  | 0 => ls
  | j + 1 => match ls[j]? with
    | some (some v) => cond (ix_cat2 v) (ls.set j none) ls
    | _ => ls
noncomputable def ix_store (ok : ix_V → Bool) (i nx : Nat) : ix_S → ix_R
  | (B, ls, v :: st, w) => cond (ok v && Nat.blt i ls.length) (some [(nx, (B, (ix_clr ls i).set i (some v), st, w))]) none
  | _ => none
noncomputable def ix_lstore (i nx : Nat) : ix_S → ix_R
  | (B, ls, v :: st, w) => cond (ix_isLong v && Nat.blt (i + 1) ls.length) (some [(nx, (B, ((ix_clr ls i).set i (some v)).set (i + 1) none, st, w))]) none
  | _ => none
noncomputable def ix_plus (a b : ix_V) : Option ix_V := match a, b with
  | .inl m, .inl n => some (ix_vI (ix_add m n))
  | .inr (.inr (.inr (x, c))), .inl n => some (ix_vS x (ix_add c n))
  | .inl n, .inr (.inr (.inr (x, c))) => some (ix_vS x (ix_add c n))
  | .inr (.inr (.inr _)), .inr (.inr (.inr _)) => some ix_any
  | _, _ => none
noncomputable def ix_minus (a b : ix_V) : Option ix_V := match a, b with
  | .inl m, .inl n => some (ix_vI (ix_sub m n))
  | .inr (.inr (.inr (x, c))), .inl n => some (ix_vS x (ix_sub c n))
  | .inl _, .inr (.inr (.inr _)) => some ix_any
  | .inr (.inr (.inr _)), .inr (.inr (.inr _)) => some ix_any
  | _, _ => none
noncomputable def ix_iinc (i k nx : Nat) : ix_S → ix_R
  | (B, ls, st, w) => match ls[i]? with
    | some (some v) => (match ix_plus v (ix_vI k) with
      | some r => some [(nx, (B, (ix_clr ls i).set i (some r), st, w))]
      | none => none)
    | _ => none
noncomputable def ix_iadd (nx : Nat) : ix_S → ix_R
  | (B, ls, b :: a :: st, w) => (match ix_plus a b with
    | some r => some [(nx, (B, ls, r :: st, w))]
    | none => none)
  | _ => none
noncomputable def ix_isub (nx : Nat) : ix_S → ix_R
  | (B, ls, b :: a :: st, w) => (match ix_minus a b with
    | some r => some [(nx, (B, ls, r :: st, w))]
    | none => none)
  | _ => none
/-- an operation on two ints that always gives one: split what is split into few, else anything -/
noncomputable def ix_ibin (op : Nat → Nat → Nat) (pc nx : Nat) : ix_S → ix_R
  | (B, ls, b :: a :: st, w) => match ix_nrm B a, ix_nrm B b with
    | .inl m, .inl n => some [(nx, (B, ls, ix_vI (op m n) :: st, w))]
    | .inr (.inr (.inr (x, _))), .inl _ => (match ix_split pc (B, ls, b :: a :: st, w) x with
      | some r => some r
      | none => some [(nx, (B, ls, ix_any :: st, w))])
    | .inl _, .inr (.inr (.inr (x, _))) => (match ix_split pc (B, ls, b :: a :: st, w) x with
      | some r => some r
      | none => some [(nx, (B, ls, ix_any :: st, w))])
    | .inr (.inr (.inr _)), .inr (.inr (.inr _)) => some [(nx, (B, ls, ix_any :: st, w))]
    | _, _ => none
  | _ => none
/-- division and rest: the divisor is known, and not 0 -/
noncomputable def ix_idiv (op : Nat → Nat → Nat) (pc nx : Nat) : ix_S → ix_R
  | (B, ls, b :: a :: st, w) => match ix_nrm B a, ix_nrm B b with
    | .inl m, .inl n => cond (Nat.beq n 0) none (some [(nx, (B, ls, ix_vI (op m n) :: st, w))])
    | .inr (.inr (.inr (x, _))), .inl n => cond (Nat.beq n 0) none (match ix_split pc (B, ls, b :: a :: st, w) x with
      | some r => some r
      | none => some [(nx, (B, ls, ix_any :: st, w))])
    | _, _ => none
  | _ => none
noncomputable def ix_iun (op : Nat → Nat) (nx : Nat) : ix_S → ix_R
  | (B, ls, a :: st, w) => match ix_nrm B a with
    | .inl m => some [(nx, (B, ls, ix_vI (op m) :: st, w))]
    | .inr (.inr (.inr _)) => some [(nx, (B, ls, ix_any :: st, w))]
    | _ => none
  | _ => none
noncomputable def ix_lbin (op : Nat → Nat → Nat) (nx : Nat) : ix_S → ix_R
  | (B, ls, .inr (.inl n) :: .inr (.inl m) :: st, w) => some [(nx, (B, ls, ix_vL (op m n) :: st, w))]
  | _ => none
noncomputable def ix_ldiv (op : Nat → Nat → Nat) (nx : Nat) : ix_S → ix_R
  | (B, ls, .inr (.inl n) :: .inr (.inl m) :: st, w) => cond (Nat.beq n 0) none (some [(nx, (B, ls, ix_vL (op m n) :: st, w))])
  | _ => none
noncomputable def ix_lsh (op : Nat → Nat → Nat) (nx : Nat) : ix_S → ix_R
  | (B, ls, k :: .inr (.inl m) :: st, w) => match ix_nrm B k with
    | .inl n => some [(nx, (B, ls, ix_vL (op m n) :: st, w))]
    | _ => none
  | _ => none
noncomputable def ix_lun (op : Nat → Nat) (nx : Nat) : ix_S → ix_R
  | (B, ls, .inr (.inl m) :: st, w) => some [(nx, (B, ls, ix_vL (op m) :: st, w))]
  | _ => none
noncomputable def ix_l2i (nx : Nat) : ix_S → ix_R
  | (B, ls, .inr (.inl m) :: st, w) => some [(nx, (B, ls, ix_vI (Int64.ofNat m).toInt32.toBitVec.toNat :: st, w))]
  | _ => none
noncomputable def ix_i2l (nx : Nat) : ix_S → ix_R
  | (B, ls, a :: st, w) => match ix_nrm B a with
    | .inl m => some [(nx, (B, ls, ix_vL (Int32.ofNat m).toInt64.toBitVec.toNat :: st, w))]
    | _ => none
  | _ => none
noncomputable def ix_lcmp (nx : Nat) : ix_S → ix_R
  | (B, ls, .inr (.inl n) :: .inr (.inl m) :: st, w) => some [(nx, (B, ls, ix_vI (lg_cmp (Int64.ofNat m) (Int64.ofNat n)).toBitVec.toNat :: st, w))]
  | _ => none
noncomputable def ix_dup (nx : Nat) : ix_S → ix_R
  | (B, ls, a :: st, w) => cond (ix_cat2 a) none (some [(nx, (B, ls, a :: a :: st, w))])
  | _ => none
noncomputable def ix_dup_x1 (nx : Nat) : ix_S → ix_R
  | (B, ls, a :: b :: st, w) => cond (ix_cat2 a || ix_cat2 b) none (some [(nx, (B, ls, a :: b :: a :: st, w))])
  | _ => none
noncomputable def ix_dup2 (nx : Nat) : ix_S → ix_R
  | (B, ls, a :: b :: st, w) => cond (ix_cat2 a || ix_cat2 b) none (some [(nx, (B, ls, a :: b :: a :: b :: st, w))])
  | _ => none
noncomputable def ix_pop (nx : Nat) : ix_S → ix_R
  | (B, ls, a :: st, w) => cond (ix_cat2 a) none (some [(nx, (B, ls, st, w))])
  | _ => none
noncomputable def ix_goto (nx : Nat) : ix_S → ix_R := fun S => some [(nx, S)]
/-- is an int below another, of a symbol above and below: which boxes say yes, which say no -/
noncomputable def ix_ltB (B : ix_B) (x k : Nat) : List ix_B × List ix_B := match ix_box B x with
  | (lo, hi) => cond (Nat.blt hi k) ([B], []) (cond (Nat.ble k lo) ([], [B]) ([B.set x (lo, Nat.pred k)], [B.set x (k, hi)]))
noncomputable def ix_eqB (B : ix_B) (x k : Nat) : List ix_B × List ix_B := match ix_box B x with
  | (lo, hi) => cond (Nat.blt hi k || Nat.blt k lo) ([], [B]) (cond (Nat.beq lo hi) ([B], []) ([B.set x (k, k)], (cond (Nat.beq lo k) [] [B.set x (lo, Nat.pred k)]) ++ (cond (Nat.beq hi k) [] [B.set x (Nat.succ k, hi)])))
/-- a < b -/
noncomputable def ix_lt (B : ix_B) (a b : ix_V) : Option (List ix_B × List ix_B) := match a, b with
  | .inl m, .inl n => some (cond (Nat.blt (ix_bias m) (ix_bias n)) ([B], []) ([], [B]))
  | .inr (.inr (.inr (x, c))), .inl n => cond (Nat.beq c 0 && (Nat.blt 0 x && Nat.blt x B.length)) (some (ix_ltB B x (ix_bias n))) (some ([B], [B]))
  | .inl n, .inr (.inr (.inr (x, c))) => cond (Nat.beq c 0 && (Nat.blt 0 x && Nat.blt x B.length)) (match ix_ltB B x (Nat.succ (ix_bias n)) with | (y, z) => some (z, y)) (some ([B], [B]))
  | .inr (.inr (.inr _)), .inr (.inr (.inr _)) => some ([B], [B])
  | _, _ => none
noncomputable def ix_eq (B : ix_B) (a b : ix_V) : Option (List ix_B × List ix_B) := match a, b with
  | .inl m, .inl n => some (cond (Nat.beq m n) ([B], []) ([], [B]))
  | .inr (.inr (.inr (x, c))), .inl n => cond (Nat.blt 0 x && Nat.blt x B.length) (some (ix_eqB B x (ix_bias (ix_sub n c)))) (some ([B], [B]))
  | .inl n, .inr (.inr (.inr (x, c))) => cond (Nat.blt 0 x && Nat.blt x B.length) (some (ix_eqB B x (ix_bias (ix_sub n c)))) (some ([B], [B]))
  | .inr (.inr (.inr (x, c))), .inr (.inr (.inr (y, d))) => cond (Nat.beq x y && (Nat.beq c d && Nat.blt 0 x)) (some ([B], [])) (some ([B], [B]))
  | _, _ => none
noncomputable def ix_to (nx : Nat) (S : ix_L × (List ix_V × (Nat × (ix_T × (Nat × Nat))))) (bs : List ix_B) : List (Nat × ix_S) := bs.map (fun b => (nx, (b, S)))
/-- a jump on a condition's two lists -/
noncomputable def ix_br (r : Option (List ix_B × List ix_B)) (yes no : Nat) (S : ix_L × (List ix_V × (Nat × (ix_T × (Nat × Nat))))) : ix_R := match r with
  | some (y, z) => some (ix_to yes S y ++ ix_to no S z)
  | none => none
noncomputable def ix_icmp (lt neg swap : Bool) (tgt nx : Nat) : ix_S → ix_R
  | (B, ls, b :: a :: st, w) => ix_br (cond lt (cond swap (ix_lt B (ix_nrm B b) (ix_nrm B a)) (ix_lt B (ix_nrm B a) (ix_nrm B b))) (ix_eq B (ix_nrm B a) (ix_nrm B b))) (cond neg nx tgt) (cond neg tgt nx) (ls, st, w)
  | _ => none
noncomputable def ix_if (lt neg swap : Bool) (tgt nx : Nat) : ix_S → ix_R
  | (B, ls, a :: st, w) => ix_br (cond lt (cond swap (ix_lt B (ix_vI 0) (ix_nrm B a)) (ix_lt B (ix_nrm B a) (ix_vI 0))) (ix_eq B (ix_nrm B a) (ix_vI 0))) (cond neg nx tgt) (cond neg tgt nx) (ls, st, w)
  | _ => none
noncomputable def ix_ifnull (yes no : Nat) : ix_S → ix_R
  | (B, ls, .inr (.inr (.inl r)) :: st, w) => some [(cond (Nat.beq r 0) yes no, (B, ls, st, w))]
  | _ => none
/-- switches: the value is known, or its symbol is split -/
noncomputable def ix_sw (cs : List (Nat × Nat)) (dflt pc : Nat) : ix_S → ix_R
  | (B, ls, a :: st, w) => match ix_nrm B a with
    | .inl m => some [((cs.find? (fun q => Nat.beq q.1 m)).elim dflt (fun q => q.2), (B, ls, st, w))]
    | .inr (.inr (.inr (x, c))) => cond (Nat.blt 0 x && Nat.blt x B.length) (match cs.find? (fun q => match ix_box B x with | (lo, hi) => Nat.ble lo (ix_bias (ix_sub q.1 c)) && Nat.ble (ix_bias (ix_sub q.1 c)) hi) with
      | none => some [(dflt, (B, ls, st, w))]
      | some q => ix_br (ix_eq B a (ix_vI q.1)) pc pc (ls, a :: st, w)) none
    | _ => none
  | _ => none
noncomputable def ix_getf (ci k nx : Nat) : ix_S → ix_R
  | (B, ls, .inr (.inr (.inl r)) :: st, n, t, w) => match r with
    | 0 => none
    | i + 1 => cond (Nat.blt i n) (match ix_g t i with
      | (kd, len, f) => cond (Nat.beq kd ci && Nat.blt k len) (some [(nx, (B, ls, ix_g f k :: st, n, t, w))]) none) none
  | _ => none
noncomputable def ix_putf (ci k nx : Nat) (ok : ix_V → Bool) : ix_S → ix_R
  | (B, ls, v :: .inr (.inr (.inl r)) :: st, n, t, w) => match r with
    | 0 => none
    | i + 1 => cond (Nat.blt i n && ok v) (match ix_g t i with
      | (kd, len, f) => cond (Nat.beq kd ci && Nat.blt k len) (some [(nx, (B, ls, st, n, ix_u 14 t i (kd, len, ix_u 6 f k v), w))]) none) none
  | _ => none
/- a row's element; kinds 0 int, 1 byte, 2 boolean, 3 long, 4 and on references -/
/-- a reference into a row of references: none, or a cell of the row's own class -/
noncomputable def ix_aok (kd q n : Nat) (t : ix_T) : Bool := match q with
  | 0 => true
  | i2 + 1 => Nat.blt i2 n && Nat.beq (ix_g t i2).1 (cond (Nat.beq kd 4) 109 101)
noncomputable def ix_aast (pc nx : Nat) : ix_S → ix_R
  | (B, ls, .inr (.inr (.inl q)) :: j :: .inr (.inr (.inl r)) :: st, n, t, w) => match r with
    | 0 => none
    | i + 1 => cond (Nat.blt i n) (match ix_g t i with
      | (kd, len, f) => cond ((Nat.beq kd 4 || Nat.beq kd 5) && ix_aok kd q n t) (match ix_nrm B j with
        | .inl m => cond (Nat.blt m len) (some [(nx, (B, ls, st, n, ix_u 14 t i (kd, len, ix_u (ix_dep len) f m (.inr (.inr (.inl q)))), w))]) none
        | .inr (.inr (.inr (x, _))) => ix_split pc (B, ls, .inr (.inr (.inl q)) :: j :: .inr (.inr (.inl r)) :: st, n, t, w) x
        | _ => none) none) none
  | _ => none
abbrev ix_O : Type := Nat → Option (Nat × ix_A)
/-- an element of a row that lies outside: the script, the constants' rows -/
noncomputable def ix_iald (O : ix_O) (pc nx : Nat) : ix_S → ix_R
  | (B, ls, j :: .inr (.inr (.inl r)) :: st, n, t, w) => match r with
    | 0 => none
    | i + 1 => (match cond (Nat.blt i n) (match ix_g t i with | (kd, q) => cond (Nat.beq kd 0) (some q) none) (cond (Nat.blt i 1000000) none (O i)) with
      | some (len, f) => (match ix_nrm B j with
        | .inl m => cond (Nat.blt m len) (some [(nx, (B, ls, ix_g f m :: st, n, t, w))]) none
        | .inr (.inr (.inr (x, _))) => ix_split pc (B, ls, j :: .inr (.inr (.inl r)) :: st, n, t, w) x
        | _ => none)
      | none => none)
  | _ => none
noncomputable def ix_ald (k0 k1 pc nx : Nat) : ix_S → ix_R
  | (B, ls, j :: .inr (.inr (.inl r)) :: st, n, t, w) => match r with
    | 0 => none
    | i + 1 => cond (Nat.blt i n) (match ix_g t i with
      | (kd, len, f) => cond (Nat.ble k0 kd && Nat.ble kd k1) (match ix_nrm B j with
        | .inl m => cond (Nat.blt m len) (some [(nx, (B, ls, ix_g f m :: st, n, t, w))]) none
        | .inr (.inr (.inr (x, _))) => ix_split pc (B, ls, j :: .inr (.inr (.inl r)) :: st, n, t, w) x
        | _ => none) none) none
  | _ => none
noncomputable def ix_ast (k0 k1 pc nx : Nat) (nar : Nat → ix_V → ix_V) (ok : ix_V → Bool) : ix_S → ix_R
  | (B, ls, v :: j :: .inr (.inr (.inl r)) :: st, n, t, w) => match r with
    | 0 => none
    | i + 1 => cond (Nat.blt i n && ok v) (match ix_g t i with
      | (kd, len, f) => cond (Nat.ble k0 kd && Nat.ble kd k1) (match ix_nrm B j with
        | .inl m => cond (Nat.blt m len) (some [(nx, (B, ls, st, n, ix_u 14 t i (kd, len, ix_u (ix_dep len) f m (nar kd v)), w))]) none
        | .inr (.inr (.inr (x, _))) => ix_split pc (B, ls, v :: j :: .inr (.inr (.inl r)) :: st, n, t, w) x
        | _ => none) none) none
  | _ => none
noncomputable def ix_alen (O : ix_O) (nx : Nat) : ix_S → ix_R
  | (B, ls, .inr (.inr (.inl r)) :: st, n, t, w) => match r with
    | 0 => none
    | i + 1 => (match cond (Nat.blt i n) (match ix_g t i with | (kd, q) => cond (Nat.blt kd 98) (some q) none) (cond (Nat.blt i 1000000) none (O i)) with
      | some (len, _) => some [(nx, (B, ls, ix_vI len :: st, n, t, w))]
      | none => none)
  | _ => none
/-- a new object; a new row -/
noncomputable def ix_new (kd len : Nat) (fs : ix_A) (capC capS nx : Nat) : ix_S → ix_R
  | (B, ls, st, n, t, ce, sl) => cond (Nat.blt n 16384 && (Nat.ble (Nat.succ ce) capC && Nat.ble (Nat.add sl len) capS)) (some [(nx, (B, ls, ix_vR (Nat.succ n) :: st, Nat.succ n, ix_u 14 t n (kd, len, fs), Nat.succ ce, Nat.add sl len))]) none
noncomputable def ix_newa (kd : Nat) (z : ix_V) (capC capS nx : Nat) : ix_S → ix_R
  | (B, ls, a :: st, n, t, ce, sl) => match ix_nrm B a with
    | .inl m => cond (Nat.ble m 16384 && (Nat.blt n 16384 && (Nat.ble (Nat.succ ce) capC && Nat.ble (Nat.add sl m) capS))) (some [(nx, (B, ls, ix_vR (Nat.succ n) :: st, Nat.succ n, ix_u 14 t n (kd, m, .leaf z), Nat.succ ce, Nat.add sl m))]) none
    | _ => none
  | _ => none
/-- a return: the place 99999 -/
noncomputable def ix_ret (ok : ix_V → Bool) : ix_S → ix_R
  | (B, _, [v], w) => cond (ok v) (some [(99999, (B, [], [v], w))]) none
  | _ => none
noncomputable def ix_retv : ix_S → ix_R
  | (B, _, [], w) => some [(99999, (B, [], [], w))]
  | _ => none
abbrev ix_Call : Type := Nat → List ix_V → ix_B → Nat → ix_T → Option (List ix_S)
/-- so many arguments from the stack, the last first -/
noncomputable def ix_take : Nat → List ix_V → List ix_V → Option (List ix_V × List ix_V)
  | 0, acc, st => some (acc, st)
  | _ + 1, _, [] => none
  | k + 1, acc, v :: st => ix_take k (v :: acc) st
noncomputable def ix_cats (st : List ix_V) : Nat := st.foldl (fun a v => cond (ix_cat2 v) (a + 2) (a + 1)) 0
/-- is the first argument an object of a class -/
noncomputable def ix_rcv (kd : Nat) (as : List ix_V) (n : Nat) (t : ix_T) : Bool := match as with
  | .inr (.inr (.inl r)) :: _ => (match r with
    | 0 => false
    | i + 1 => Nat.blt i n && Nat.beq (ix_g t i).1 kd)
  | _ => false
noncomputable def ix_any3 (_ : List ix_V) (_ : Nat) (_ : ix_T) : Bool := true
noncomputable def ix_call (chk : List ix_V → Nat → ix_T → Bool) (call : ix_Call) (na y mc ms capC capS nx : Nat) : ix_S → ix_R
  | (B, ls, st, n, t, ce, sl) => match ix_take na [] st with
    | some (as, rest) => cond (chk as n t && (Nat.ble (ix_cats rest) 8 && (Nat.ble (Nat.add ce mc) capC && Nat.ble (Nat.add sl ms) capS))) (match call y as B n t with
      | some outs => some (outs.map (fun o => (nx, (o.1, ls, o.2.2.1 ++ rest, o.2.2.2.1, o.2.2.2.2.1, Nat.add ce mc, Nat.add sl ms))))
      | none => none) none
    | none => none
/-- the script's first int, cut to six bits, is a symbol of its own -/
noncomputable def ix_cut (x y nx : Nat) : ix_S → ix_R
  | (B, ls, .inl 63 :: .inr (.inr (.inr (z, 0))) :: st, w) => cond (Nat.beq z x) (some [(nx, (B, ls, ix_vS y 0 :: st, w))]) none
  | _ => none
/-- Object's constructor -/
noncomputable def ix_obj (nx : Nat) : ix_S → ix_R
  | (B, ls, .inr (.inr (.inl r)) :: st, w) => cond (Nat.ble (ix_cats st) 8 && Nat.blt 0 r) (some [(nx, (B, ls, st, w))]) none
  | _ => none
abbrev ix_P : Type := Nat → ix_S → ix_R
noncomputable def ix_app (a b : Option (List ix_S)) : Option (List ix_S) := match a with
  | none => none
  | some x => match b with
    | none => none
    | some y => some (x ++ y)
noncomputable def ix_loop (P : ix_P) (fuel : Nat) : Nat → ix_S → Option (List ix_S) :=
  Nat.rec (motive := fun _ => Nat → ix_S → Option (List ix_S)) (fun _ _ => none)
    (fun _ ih pc S => cond (Nat.beq pc 99999) (some [S]) (match P pc S with
      | none => none
      | some outs => (match outs with
        | [] => some []
        | (pc1, S1) :: r => (match r with
          | [] => ih pc1 S1
          | _ => outs.foldr (fun o acc => ix_app (ih o.1 o.2) acc) (some []))))) fuel
noncomputable def ix_args : List ix_V → ix_L
  | [] => []
  | v :: vs => cond (ix_cat2 v) (some v :: none :: ix_args vs) (some v :: ix_args vs)
noncomputable def ix_pad (l : ix_L) : Nat → ix_L
  | 0 => l
  | k + 1 => ix_pad (l ++ [none]) k
/-- a table of methods: its code (over the calls), its locals -/
abbrev ix_M : Type := Nat → Option ((ix_Call → ix_P) × Nat)
noncomputable def ix_exec (M : ix_M) (S0 : Nat → ix_Call) (fuel d : Nat) : ix_Call :=
  Nat.rec (motive := fun _ => ix_Call) (fun _ _ _ _ _ => none)
    (fun dd ih y as B n t => match S0 dd y as B n t with
      | some outs => some outs
      | none => match M y with
        | none => none
        | some (P, nL) => cond (Nat.ble (ix_args as).length nL) (ix_loop (P ih) fuel 0 (B, ix_pad (ix_args as) (Nat.sub nL (ix_args as).length), [], n, t, 0, 0)) none) d
def ix_jmax (x y : Int32) : Int32 := if x < y then y else x
def ix_jmin (x y : Int32) : Int32 := if y < x then y else x
/-- Java's own operations, on numbers -/
noncomputable def ix_s1 (f : Int32 → Int32) (a : Nat) : Nat := (f (Int32.ofNat a)).toBitVec.toNat
noncomputable def ix_s2 (f : Int32 → Int32 → Int32) (a b : Nat) : Nat := (f (Int32.ofNat a) (Int32.ofNat b)).toBitVec.toNat
noncomputable def ix_l1 (f : Int64 → Int64) (a : Nat) : Nat := (f (Int64.ofNat a)).toBitVec.toNat
noncomputable def ix_l2 (f : Int64 → Int64 → Int64) (a b : Nat) : Nat := (f (Int64.ofNat a) (Int64.ofNat b)).toBitVec.toNat
noncomputable def ix_lk (f : Int64 → Int32 → Int64) (a b : Nat) : Nat := (f (Int64.ofNat a) (Int32.ofNat b)).toBitVec.toNat
def ix_jshl (x y : Int32) : Int32 := x <<< (y &&& 31)
def ix_jshr (x y : Int32) : Int32 := x >>> (y &&& 31)
def ix_jushr (x y : Int32) : Int32 := (x.toUInt32 >>> (y.toUInt32 &&& Int32.toUInt32 31)).toInt32
def ix_ji2b (x : Int32) : Int32 := x.toInt8.toInt32
def ix_ji2c (x : Int32) : Int32 := (x.toUInt32 % 65536).toInt32
def ix_jlshl (x : Int64) (y : Int32) : Int64 := x <<< (y.toInt64 &&& 63)
def ix_jlushr (x : Int64) (y : Int32) : Int64 := (x.toUInt64 >>> (y.toInt64.toUInt64 &&& Int64.toUInt64 63)).toInt64
noncomputable def ix_div (a b : Nat) : Nat := cond (Nat.blt a ix_h32 && Nat.blt b ix_h32) (Nat.div a b) (ix_s2 (fun x y => x / y) a b)
noncomputable def ix_rem (a b : Nat) : Nat := cond (Nat.blt a ix_h32 && Nat.blt b ix_h32) (Nat.mod a b) (ix_s2 (fun x y => x - x / y * y) a b)
noncomputable def ix_nar (kd : Nat) (v : ix_V) : ix_V := match v with
  | .inl n => cond (Nat.beq kd 1) (ix_vI (vp_nar .byte (Int32.ofNat n)).toBitVec.toNat) (cond (Nat.beq kd 2) (ix_vI (vp_nar .boolean (Int32.ofNat n)).toBitVec.toNat) v)
  | w => cond (Nat.beq kd 1 || Nat.beq kd 2) ix_any w
/-- the greater, the lesser of two -/
noncomputable def ix_m2 (f : Int32 → Int32 → Int32) (nx : Nat) : ix_S → ix_R
  | (B, ls, b :: a :: st, w) => cond (Nat.ble (ix_cats st) 8 && (ix_isInt a && ix_isInt b)) (match ix_nrm B a, ix_nrm B b with
    | .inl m, .inl n => some [(nx, (B, ls, ix_vI (ix_s2 f m n) :: st, w))]
    | _, _ => some [(nx, (B, ls, ix_any :: st, w))]) none
  | _ => none
/-! weaker worlds: of a cell of kind 98 nothing is said; of 'any' int only that it is one -/
noncomputable def ix_wv (a b : ix_V) : Bool := match a, b with
  | .inl m, .inl n => Nat.beq m n
  | .inl _, .inr (.inr (.inr (x, c))) => Nat.beq x 0 && Nat.beq c 0
  | .inr (.inl m), .inr (.inl n) => Nat.beq m n
  | .inr (.inr (.inl m)), .inr (.inr (.inl n)) => Nat.beq m n
  | .inr (.inr (.inr (x, c))), .inr (.inr (.inr (y, d))) => (Nat.beq y 0 && Nat.beq d 0) || (Nat.beq x y && Nat.beq c d)
  | _, _ => false
/-- all leaves -/
noncomputable def ix_wl {α : Type} (p : α → Bool) (t : Lean.RArray α) : Bool :=
  Lean.RArray.rec (motive := fun _ => Bool) (fun b => p b) (fun _ _ _ l r => l && r) t
noncomputable def ix_wt {α : Type} (p : α → α → Bool) (s : Lean.RArray α) : Lean.RArray α → Bool :=
  Lean.RArray.rec (motive := fun _ => Lean.RArray α → Bool) (fun a t => ix_wl (p a) t)
    (fun _ _ _ l r t => Lean.RArray.casesOn (motive := fun _ => Bool) t (fun b => l (.leaf b) && r (.leaf b)) (fun _ l' r' => l l' && r r')) s
noncomputable def ix_wc (c c0 : ix_C) : Bool := Nat.beq c.1 c0.1 && (Nat.beq c.2.1 c0.2.1 && ix_wt ix_wv c.2.2 c0.2.2)
noncomputable def ix_ws (as bs : List ix_V) : Bool := match as, bs with
  | [], [] => true
  | a :: as, b :: bs => ix_wv a b && ix_ws as bs
  | _, _ => false
/-- a run that was made once: its least depth, method, arguments, number of cells, the cells that it needs, its ends (stack, the same cells then) -/
abbrev ix_Sm : Type := Nat × (Nat × (List ix_V × (Nat × (List (Nat × ix_C) × List (List ix_V × List (Nat × ix_C))))))
noncomputable def ix_puts (t : ix_T) (l : List (Nat × ix_C)) : ix_T := l.foldr (fun q t => ix_u 14 t q.1 q.2) t
noncomputable def ix_sums (l : List ix_Sm) (dd : Nat) : ix_Call := fun y as B n t => match l with
  | [] => none
  | (d0, y0, as0, n0, req, outs) :: r => cond (Nat.beq y y0 && (Nat.blt d0 (dd + 2) && (Nat.beq n n0 && (ix_ws (as.map (ix_nrm B)) as0 && req.all (fun q => ix_wc (ix_g t q.1) q.2))))) (some (outs.map (fun o => (B, [], o.1, n, ix_puts t o.2, 0, 0)))) (ix_sums r dd y as B n t)
/-- cells of which nothing is said -/
noncomputable def ix_dark : Nat → ix_T
  | 0 => .leaf (98, 0, .leaf (ix_vI 0))
  | k + 1 => ix_u 14 (ix_dark k) k (98, k, .leaf (ix_vI 0))
/-- does such a run end as is said: no new cells, the dark ones as they were -/
noncomputable def ix_ends (n : Nat) (outs : List ix_S) (ends : List (List ix_V × List (Nat × ix_C))) : Bool := outs.all (fun o => ends.any (fun e => Nat.beq o.2.2.2.1 n && (ix_ws o.2.2.1 e.1 && (List.range n).all (fun i => match e.2.find? (fun q => Nat.beq q.1 i) with
    | some q => ix_wc (ix_g o.2.2.2.2.1 i) q.2
    | none => Nat.beq (ix_g o.2.2.2.2.1 i).1 98 && Nat.beq (ix_g o.2.2.2.2.1 i).2.1 i))))
noncomputable def ix_made (call : ix_Call) (q : ix_Sm) : Bool := match q with
  | (_, y0, as0, n0, req, outs) => (match call y0 as0 [] n0 (ix_puts (ix_dark n0) req) with
    | some r => ix_ends n0 r outs
    | none => false) && (Nat.ble n0 16384 && (req.all (fun q => Nat.blt q.1 n0 && !(Nat.beq q.2.1 98)) && outs.all (fun o => o.2.all (fun q => Nat.blt q.1 n0 && !(Nat.beq q.2.1 98)))))
