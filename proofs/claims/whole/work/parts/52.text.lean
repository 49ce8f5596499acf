/-! ===== texts ===== -/
def tx (X : mX) (F : mF) (M : mM) (h v : Nat) (l : List Int32) : Prop := ((Nat.blt h mB = true ∧ X.2.2.1 h = (0, 0) ∧ X.2.2.2.1 h 0 = some v ∧ F h 1 = 0) ∨ (Nat.blt h mB = false ∧ Nat.blt h 1000011 = true ∧ h + 100 = v)) ∧ mkd X v = (3, l.length) ∧ (∀ k, k < l.length → mgM X M v (nI k) = l.getD k 0) ∧ l.length ≤ 1000
theorem STR.tx {X : mX} {F : mF} {M : mM} {h : Nat} {l : List Int32} (H : STR X F M h l) (hl : l.length ≤ 1000) : ∃ v, tx X F M h v l := by
  rcases H with ⟨rfl, rfl⟩ | ⟨v, h1, h2, h3, h4, h5, h6, h7, h8, h9⟩
  · exact ⟨1000100, Or.inr ⟨rfl, rfl, rfl⟩, rfl, (fun k hk => absurd hk (Nat.not_lt_zero _)), Nat.zero_le _⟩
  · refine ⟨v, Or.inl ⟨h2, h3, h4, h8⟩, mkd_o h6 h7, fun k hk => ?_, hl⟩
    rw [← h9 k hk]
    unfold mgM
    rw [h6]
    rfl
theorem tx.kd {X : mX} {F : mF} {M : mM} {h v : Nat} {l : List Int32} (H : tx X F M h v l) : mkd X h = (0, 0) := by
  rcases H.1 with q | q
  · exact mkd_o q.1 q.2.1
  · unfold mkd mroK
    rw [q.1, q.2.1]
    rfl
section TT
variable {d : Nat} {T : mT} {pc p : Nat} {ls : mLs} {st : List Value} {Q : Option Value → mW → Prop} {q : Nat × Nat × Nat × Nat} {X : mX} {F : mF} {M : mM} {L : mL} {i l : Nat} {h v : Nat} {t : List Int32}
theorem r_tv (H : tx X F M h v t) (he : mlk2 T pc = some (.getfield i, l, 0, 0, 2)) (hp : pc + 3 = p) (hz : Wp d T p ls (.ref v :: st) (X, F, M, L) Q) : Wp d T pc ls (.ref h :: st) (X, F, M, L) Q := by
  rcases H.1 with q | q
  · exact r_getR he q.1 q.2.1 q.2.2.1 hp hz
  · exact r_getV he q.1 q.2.1 q.2.2 hp hz
theorem r_tc (H : tx X F M h v t) (he : mlk2 T pc = some (.getfield i, l, 0, 1, 4)) (hp : pc + 3 = p) (hz : Wp d T p ls (.int 0 :: st) (X, F, M, L) Q) : Wp d T pc ls (.ref h :: st) (X, F, M, L) Q := by
  rcases H.1 with q | q
  · refine r_getI4 he q.1 q.2.1 hp ?_
    rw [q.2.2.2]
    exact hz
  · exact r_getC he q.1 q.2.1 hp hz
theorem r_tb {j : Int32} {n : Nat} (hk : mkd X v = (3, n)) (hin : vp_in j n) (he : mlk2 T pc = some (.baload, q)) (hp : pc + 1 = p) (hz : Wp d T p ls (.int (mgM X M v j) :: st) (X, F, M, L) Q) : Wp d T pc ls (.int j :: .ref v :: st) (X, F, M, L) Q := by
  subst hp
  exact Wp_1 he (fun K rt z => by
    refine ⟨?_, ?_, z⟩
    · show (mkd X v).1 = 3 ∨ ((mkd X v).1 = 2 ∧ Nat.blt v mB = true)
      rw [hk]; exact Or.inl rfl
    · show vp_in j (mkd X v).2
      rw [hk]; exact hin) hz
end TT
set_option maxRecDepth 100000 in
theorem s_J0_coder {d : Nat} {X : mX} {F : mF} {M : mM} {L : mL} {h v : Nat} {t : List Int32} {Q : Option Value → mW → Prop} (H : tx X F M h v t) (hQ : Q (some (.int 0)) (X, F, M, L)) : Cw (d + 1) 227 [.ref h] (X, F, M, L) Q := by
  refine Cw_in rfl rfl ?_
  refine r_getsI (v := 1) (p := 3) rfl rfl rfl ?_
  refine r_if_eq (p := 6) rfl rfl (fun c => absurd c (by decide)) (fun _ => ?_)
  refine r_aload_n (p := 7) rfl rfl rfl ?_
  refine r_tc H (p := 10) rfl rfl ?_
  refine r_goto rfl ?_
  exact r_ireturn rfl (show mokR 2 0 from rfl) hQ
set_option maxRecDepth 100000 in
theorem s_J0_isLatin1 {d : Nat} {X : mX} {F : mF} {M : mM} {L : mL} {h v : Nat} {t : List Int32} {Q : Option Value → mW → Prop} (H : tx X F M h v t) (hQ : Q (some (.int 1)) (X, F, M, L)) : Cw (d + 1) 228 [.ref h] (X, F, M, L) Q := by
  refine Cw_in rfl rfl ?_
  refine r_getsI (v := 1) (p := 3) rfl rfl rfl ?_
  refine r_if_eq (p := 6) rfl rfl (fun c => absurd c (by decide)) (fun _ => ?_)
  refine r_aload_n (p := 7) rfl rfl rfl ?_
  refine r_tc H (p := 10) rfl rfl ?_
  refine r_if_ne (p := 13) rfl rfl (fun c => absurd c (by decide)) (fun _ => ?_)
  refine r_iconst (v := 1) (p := 14) rfl rfl rfl ?_
  refine r_goto rfl ?_
  exact r_ireturn rfl mok_1 hQ
theorem shr0 (x : Int32) : x >>> ((0 : Int32) &&& 31) = x := by
  rw [show (0 : Int32) &&& 31 = 0 from rfl]
  exact Int32.shiftRight_zero
theorem shl0 (x : Int32) : x <<< ((0 : Int32) &&& 31) = x := by
  rw [show (0 : Int32) &&& 31 = 0 from rfl]
  exact Int32.shiftLeft_zero
set_option maxRecDepth 100000 in
theorem s_J0_length {d : Nat} {X : mX} {F : mF} {M : mM} {L : mL} {h v : Nat} {t : List Int32} {Q : Option Value → mW → Prop} (H : tx X F M h v t) (hQ : Q (some (.int (nI t.length))) (X, F, M, L)) : Cw (d + 2) 229 [.ref h] (X, F, M, L) Q := by
  refine Cw_in rfl rfl ?_
  refine r_aload_n (p := 1) rfl rfl rfl ?_
  refine r_tv H (p := 4) rfl rfl ?_
  refine r_alen_b (v := nI t.length) (p := 5) rfl H.2.1 rfl rfl ?_
  refine r_aload_n (p := 6) rfl rfl rfl ?_
  refine r_cV (p := 9) rfl rfl H.kd (Nat.le_of_ble_eq_true rfl) rfl (s_J0_coder H ?_)
  refine r_ishr (p := 10) rfl rfl ?_
  rw [shr0]
  exact r_ireturn rfl trivial hQ
set_option maxRecDepth 100000 in
theorem s_J3_checkIndex {d : Nat} {w : mW} {x y : Int32} {z : Value} {Q : Option Value → mW → Prop} (h0 : ¬ x < 0) (h1 : x < y) (hz : mins [.int x, .int y, z] = [some (.int x), some (.int y), some z]) (hQ : Q (some (.int x)) w) : Cw (d + 1) 223 [.int x, .int y, z] w Q := by
  refine Cw_in (ls := [some (.int x), some (.int y), some z]) rfl (by rw [hz]; rfl) ?_
  refine r_iload_n (p := 1) rfl rfl rfl ?_
  refine r_if_lt (p := 4) rfl rfl (fun c1 => ?_) (fun c1 => ?_)
  · exact absurd c1 h0
  · refine r_iload_n (p := 5) rfl rfl rfl ?_
    refine r_iload_n (p := 6) rfl rfl rfl ?_
    refine r_icmp_lt (p := 9) rfl rfl (fun c2 => ?_) (fun c2 => ?_)
    · refine r_iload_n (p := 17) rfl rfl rfl ?_
      exact r_ireturn rfl trivial hQ
    · exact absurd h1 c2
set_option maxRecDepth 100000 in
theorem s_J0_checkIndex {d : Nat} {w : mW} {x y : Int32} {Q : Option Value → mW → Prop} (h0 : ¬ x < 0) (h1 : x < y) (hz : mins [.int x, .int y, w.1.2.2.2.2.2.2] = [some (.int x), some (.int y), some w.1.2.2.2.2.2.2]) (hQ : Q none w) : Cw (d + 2) 224 [.int x, .int y] w Q := by
  refine Cw_in rfl rfl ?_
  refine r_iload_n (p := 1) rfl rfl rfl ?_
  refine r_iload_n (p := 2) rfl rfl rfl ?_
  refine r_getsF (p := 5) rfl rfl ?_
  refine r_cS1 (p := 8) rfl rfl (Nat.le_of_ble_eq_true rfl) rfl (s_J3_checkIndex h0 h1 hz ?_)
  refine r_pop (p := 9) rfl rfl rfl ?_
  exact r_return rfl hQ
/-- the static that checkIndex is given: a reference or null -/
def eOk (X : mX) : Prop := (∃ a, X.2.2.2.2.2.2 = .ref a) ∨ X.2.2.2.2.2.2 = .null
theorem eOk.m {X : mX} (h : eOk X) {x y : Int32} : mins [.int x, .int y, X.2.2.2.2.2.2] = [some (.int x), some (.int y), some X.2.2.2.2.2.2] := by
  rcases h with ⟨a, e⟩ | e <;> rw [e] <;> rfl
theorem chr_ok {x : Int32} (h : ¬ x < 0 ∧ ¬ 127 < x) : ((x &&& 255).toUInt32 % 65536).toInt32 = x ∧ mokR 3 x := by
  obtain ⟨n, hn, e⟩ := nI_of2 (M := 127) (n := 127) (x := x) rfl h.1 (Int32.not_lt.mp h.2)
  rw [e]
  have t1 : ∀ n : Fin 128, ((nI n.1 &&& 255).toUInt32 % 65536).toInt32 = nI n.1 := by decide
  have t2 : ∀ n : Fin 128, narrow .char (.int (nI n.1)) = .int (nI n.1) := by decide
  exact ⟨t1 ⟨n, by omega⟩, t2 ⟨n, by omega⟩⟩
set_option maxRecDepth 100000 in
theorem s_J1_charAt {d : Nat} {X : mX} {F : mF} {M : mM} {L : mL} {h v : Nat} {t : List Int32} {Q : Option Value → mW → Prop} (H : tx X F M h v t) {j : Nat} (hj : j < t.length) (hE : eOk X) (hc : ¬ t.getD j 0 < 0 ∧ ¬ 127 < t.getD j 0) (hQ : Q (some (.int (t.getD j 0))) (X, F, M, L)) : Cw (d + 3) 225 [.ref v, .int (nI j)] (X, F, M, L) Q := by
  have h10 := H.2.2.2
  refine Cw_in rfl rfl ?_
  refine r_iload_n (p := 1) rfl rfl rfl ?_
  refine r_aload_n (p := 2) rfl rfl rfl ?_
  refine r_alen_b (v := nI t.length) (p := 3) rfl H.2.1 rfl rfl ?_
  refine r_cS1 (p := 6) rfl rfl (Nat.le_of_ble_eq_true rfl) rfl (s_J0_checkIndex (nI_pos (by omega)) ((nI_ltI (by omega) (by omega)).mpr hj) hE.m ?_)
  refine r_aload_n (p := 7) rfl rfl rfl ?_
  refine r_iload_n (p := 8) rfl rfl rfl ?_
  refine r_tb H.2.1 (vp_in_nI hj (by omega)) (p := 9) rfl rfl ?_
  rw [H.2.2.1 j hj]
  refine r_sipush (v := 255) (p := 12) rfl rfl rfl ?_
  refine r_iand (p := 13) rfl rfl ?_
  refine r_i2c (p := 14) rfl rfl ?_
  rw [(chr_ok hc).1]
  exact r_ireturn rfl (chr_ok hc).2 hQ
set_option maxRecDepth 100000 in
theorem s_J0_charAt {d : Nat} {X : mX} {F : mF} {M : mM} {L : mL} {h v : Nat} {t : List Int32} {Q : Option Value → mW → Prop} (H : tx X F M h v t) {j : Nat} (hj : j < t.length) (hE : eOk X) (hc : ¬ t.getD j 0 < 0 ∧ ¬ 127 < t.getD j 0) (hQ : Q (some (.int (t.getD j 0))) (X, F, M, L)) : Cw (d + 4) 230 [.ref h, .int (nI j)] (X, F, M, L) Q := by
  refine Cw_in rfl rfl ?_
  refine r_aload_n (p := 1) rfl rfl rfl ?_
  refine r_cV (p := 4) rfl rfl H.kd (Nat.le_of_ble_eq_true rfl) rfl (s_J0_isLatin1 H ?_)
  refine r_if_eq (p := 7) rfl rfl (fun c => absurd c (by decide)) (fun _ => ?_)
  refine r_aload_n (p := 8) rfl rfl rfl ?_
  refine r_tv H (p := 11) rfl rfl ?_
  refine r_iload_n (p := 12) rfl rfl rfl ?_
  refine r_cS1 (p := 15) rfl rfl (Nat.le_of_ble_eq_true rfl) rfl (s_J1_charAt H hj hE hc ?_)
  exact r_ireturn rfl (chr_ok hc).2 hQ
