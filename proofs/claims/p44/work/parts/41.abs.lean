/-! how far an int is from 0 -/
def ix_jabs (x : Int32) : Int32 := if 0 ≤ x then x else 0 - x
noncomputable def ix_ab (nx : Nat) : ix_S → ix_R
  | (B, ls, a :: st, w) => cond (Nat.ble (ix_cats st) 8) (ix_iun (ix_s1 ix_jabs) nx (B, ls, a :: st, w)) none
  | _ => none
theorem ix_ok_ab {k : ix_K} {E : ix_E} {own : String} {cc : ByteArray} {Ts : List Cond} {f : Int32 → Int32} (C : ix_ctx k E own cc Ts) {pc nx : Nat} (hp : pc < 99999) (hn : nx < 99999)
    (row : ∀ (x : Int32) H locs ce sl ls stk, ls.size = ix_eL E → (stk.map fun v => v.category).sum ≤ 8 → ce ≤ k.1.2.2.2.1.cells → sl ≤ k.1.2.2.2.1.slots → ix_W k H locs ce sl (F0 (ix_km k) nx ls (.int (f x) :: stk)) → ix_W k H locs ce sl (F0 (ix_km k) pc ls (.int x :: stk))) : ix_ok k E pc (fun S => match S with
      | (B, ls, a :: st, w) => cond (Nat.ble (ix_cats st) 8) (ix_iun (ix_s1 f) nx (B, ls, a :: st, w)) none
      | _ => none) := by
  have r1 : ix_eC E ≤ k.1.2.2.2.1.cells := C.2.2.2.2.2.2.2.1
  have r2 : ix_eS E ≤ k.1.2.2.2.1.slots := C.2.2.2.2.2.2.2.2
  intro S outs hf hg
  obtain ⟨B, L, st, nn, t, ce, sl⟩ := S
  rcases st with _ | ⟨a, st⟩
  · cases hf
  · dsimp only at hf
    cases hb : Nat.ble (ix_cats st) 8 with
    | false => rw [hb] at hf; cases hf
    | true =>
      rw [hb] at hf
      dsimp only [cond_true] at hf
      unfold ix_iun at hf
      dsimp only at hf
      refine ix_go_i hp fun ad ws H locs ls stk hr hS => ?_
      obtain ⟨h1, h2, h3, h4, h5, h6, h7⟩ := hr
      obtain ⟨va, vs, rfl, q2, q3⟩ := ix_rs_1 h3
      have n2 := ix_nrm_ok (ad := ad) h1 q2
      have hls : ls.size = ix_eL E := by obtain ⟨_, lv, q, _⟩ := h2; exact q.1
      have hca : (vs.map fun v => v.category).sum ≤ 8 := by rw [ix_cats_ok q3]; exact ix_ble.mp hb
      rcases ea : ix_nrm B a with m | m | m | m
      · have ha : ix_isInt a = true := ix_nrm_int (B := B) (by rw [ea]; rfl)
        rw [ea] at n2 hf
        obtain ⟨za, rfl⟩ := ix_int_of ha q2
        obtain ⟨m1, rfl⟩ := ix_rv_int n2
        cases hf
        exact row _ H locs ce sl ls vs hls hca (Nat.le_trans h6 r1) (Nat.le_trans h7 r2) (ix_go_e hn (hg _ List.mem_cons_self) ad ws H locs ls _ ⟨h1, h2, ⟨⟨(f (Int32.ofNat m)).toBitVec.isLt, by show _ = Value.int (Int32.ofNat (f (Int32.ofNat m)).toBitVec.toNat); rw [ix_bk]⟩, q3⟩, h4, h5, h6, h7⟩ hS)
      · rw [ea] at hf; cases hf
      · rw [ea] at hf; cases hf
      · have ha : ix_isInt a = true := ix_nrm_int (B := B) (by rw [ea]; rfl)
        rw [ea] at hf
        obtain ⟨za, rfl⟩ := ix_int_of ha q2
        cases hf
        exact row _ H locs ce sl ls vs hls hca (Nat.le_trans h6 r1) (Nat.le_trans h7 r2) (ix_go_e hn (hg _ List.mem_cons_self) ad ws H locs ls _ ⟨h1, h2, ⟨ix_any_ok _, q3⟩, h4, h5, h6, h7⟩ hS)
theorem ix_ab_eq (nx : Nat) : ix_ab nx = (fun S => match S with
      | (B, ls, a :: st, w) => cond (Nat.ble (ix_cats st) 8) (ix_iun (ix_s1 ix_jabs) nx (B, ls, a :: st, w)) none
      | _ => none) := by
  funext ⟨B, ls, st, w⟩
  cases st <;> rfl
theorem io_mabs {k : ix_K} {E : ix_E} {own : String} {cc : ByteArray} {Ts : List Cond} {O : ix_O} {sl : ix_Sl} {J : ix_J} {d : Nat} {call : ix_Call} (V : ix_env k E own cc Ts O sl J d call) {idx pc nx : Nat} (h : ix_at cc pc (.invokestatic idx) 3 nx) (w1 : Cond.methodLink own idx Lib.Math.abs.name ∈ Ts) (w2 : Cond.static Lib.Math.abs.name ∈ Ts) (w3 : Cond.initialized "java/lang/Math" ∈ Ts) (w4 : Cond.code Lib.Math.abs.name Lib.Math.abs.code 1 (some .int) ∈ Ts) : ix_ok k E pc (ix_ab nx) := by
  obtain ⟨C, hgl, hco, hfr, hlo, hG⟩ := V
  have hp := h.lt
  obtain ⟨hd, rfl, hn⟩ := h
  have hts : ∀ w ∈ Ts, w.before (ix_ka k) (ix_ks k) = true := C.2.2.2.2.1
  rw [ix_ab_eq]
  exact ix_ok_ab C hp hn (fun x H locs ce sl ls stk hls hcat hc hs kk => va_mabs C.1 C.2.1 (C.2.2.1.trans hls.symm) C.2.2.2.1 (hts _ w1) (hts _ w2) (hts _ w3) (hts _ w4) (by omega) (by omega) hc hs hd kk)
