/-! ===== the law ===== -/
section LW
variable {d : Nat} {T : mT} {pc p : Nat} {ls : mLs} {st : List Value} {Q : Option Value → mW → Prop} {q : Nat × Nat × Nat × Nat} {Y : mY} {F : mF} {M : mM} {L : mL} {E : mN}
theorem r_scr {i : Int32} (hE : Y.2.2.2.2.2 = E) (hin : vp_in i E.1) (he : mlk2 T pc = some (.iaload, q)) (hp : pc + 1 = p) (hz : Wp d T p ls (.int (mroM E 1000300 i) :: st) (mXY Y, F, M, L) Q) : Wp d T pc ls (.int i :: .ref 1000300 :: st) (mXY Y, F, M, L) Q := by
  subst hE
  exact r_iald_ro he rfl (n := Y.2.2.2.2.2.1) rfl hin hp hz
theorem r_sln (hE : Y.2.2.2.2.2 = E) (he : mlk2 T pc = some (.arraylength, q)) (hp : pc + 1 = p) (hz : Wp d T p ls (.int (nI E.1) :: st) (mXY Y, F, M, L) Q) : Wp d T pc ls (.ref 1000300 :: st) (mXY Y, F, M, L) Q := by
  subst hE
  exact r_alen_i he (n := Y.2.2.2.2.2.1) rfl rfl hp hz
end LW
theorem and31 (x : Int32) : ∃ m, m < 32 ∧ x &&& 31 = nI m := by
  have h : (x &&& 31).toBitVec.toNat < 32 := by
    show (x.toBitVec &&& 31#32).toNat < 32
    rw [BitVec.toNat_and]
    exact Nat.lt_of_le_of_lt Nat.and_le_right (by decide)
  refine ⟨(x &&& 31).toBitVec.toNat, h, ?_⟩
  refine Int32.toBitVec_inj.mp ?_
  refine BitVec.eq_of_toNat_eq ?_
  generalize (x &&& 31).toBitVec.toNat = m at h ⊢
  show m = (BitVec.ofInt 32 (m : Int)).toNat
  rw [BitVec.ofInt_natCast, BitVec.toNat_ofNat]
  exact (Nat.mod_eq_of_lt (by omega)).symm
theorem law_gt {n j : Nat} (hn : n ≤ 2048) (hj : j ≤ 2048) : nI n - 4 < nI j ↔ n < j + 4 := by
  have e : (nI n - 4).toInt = (n : Int) - 4 := by
    rw [Int32.toInt_sub, nI_toInt (by omega)]
    show Int.bmod ((n : Int) - 4) (2 ^ 32) = _
    exact Int.bmod_eq_of_le (by omega) (by omega)
  rw [Int32.lt_iff_toInt_lt, e, nI_toInt (by omega)]
  omega
def LI (E : mN) (j : Nat) (Y : mY) (F : mF) (M : mM) (b : mBs) : Prop := BC b Y F M ∧ BR b F M ∧ BI (25 * j) b ∧ Y.2.2.2.2.2 = E ∧ 53 ≤ Y.1 ∧ Y.1 ≤ 53 + 1000 * j ∧ Y.2.1 ≤ 4337 + 10000 * j ∧ ((∃ a, E.2.2 = .ref a) ∨ E.2.2 = .null)
theorem LI.y {E : mN} {j : Nat} {Y : mY} {F : mF} {M : mM} {b : mBs} (h : LI E j Y F M b) (hj : j ≤ 512) : yOk Y := ⟨h.2.2.2.2.1, by have := h.2.2.2.2.2.1; omega, by rw [h.2.2.2.1]; exact h.2.2.2.2.2.2.2⟩
set_option maxRecDepth 100000 in
theorem LI.nx {E : mN} {j : Nat} {Y Y' : mY} {F F' : mF} {M M' : mM} {b b' : mBs} (h : LI E j Y F M b) (hC : BC b' Y' F' M') (hR : BR b' F' M') (hB : BI (25 * j + 25) b') (g : gr Y Y') : LI E (j + 1) Y' F' M' b' := by
  obtain ⟨h1, h2, h3, h4, h5, h6, h7, h8⟩ := h
  obtain ⟨g1, g2, g3, g4⟩ := g
  exact ⟨hC, hR, hB.up (by omega), g4.trans h4, Nat.le_trans h5 g1, by omega, by omega, h8⟩
theorem sv {E : mN} {j c : Nat} (h : 4 * j + c < E.1) (hE : E.1 ≤ 2048) : vp_in (nI (4 * j) + nI c) E.1 := by rw [nI_add]; exact vp_in_nI h (by omega)
theorem lcmp_rf {x : Int64} : lg_cmp x x = 0 := by
  unfold lg_cmp
  simp
set_option maxRecDepth 100000 in
theorem law_reset {E : mN} {j : Nat} {Y : mY} {F : mF} {M : mM} {L : mL} {b : mBs} {Q : Option Value → mW → Prop} (H : LI E j Y F M b) (hE : E.1 ≤ 2048) (hj : 4 * j + 4 ≤ E.1) (hQ : ∀ Y' F' M' L' b', LI E (j + 1) Y' F' M' b' → Wp 11 tL_law 823 [some (.ref 1000300), some (.ref 0), some (.ref 34), some (.int (nI (4 * j)))] [] (mXY Y', F', M', L') Q) : Wp 11 tL_law 176 [some (.ref 1000300), some (.ref 0), some (.ref 34), some (.int (nI (4 * j)))] [] (mXY Y, F, M, L) Q := by
  have hy := H.y (by omega)
  have hE1 := H.2.2.2.1
  have hb := H.2.2.1
  have hI := hb.1
  have hA := hb.2.1
  refine r_aload_n (p := 177) rfl rfl rfl ?_
  refine r_aload_n (p := 178) rfl rfl rfl ?_
  refine r_iload_n (p := 179) rfl rfl rfl ?_
  refine r_iconst (v := 1) (p := 180) rfl rfl rfl ?_
  refine r_iadd (p := 181) rfl rfl ?_
  refine r_scr hE1 (sv (c := 1) (by omega) (by omega)) (p := 182) rfl rfl ?_
  refine r_aload_n (p := 183) rfl rfl rfl ?_
  refine r_iload_n (p := 184) rfl rfl rfl ?_
  refine r_iconst (v := 2) (p := 185) rfl rfl rfl ?_
  refine r_iadd (p := 186) rfl rfl ?_
  refine r_scr hE1 (sv (c := 2) (by omega) (by omega)) (p := 187) rfl rfl ?_
  refine r_aload_n (p := 188) rfl rfl rfl ?_
  refine r_iload_n (p := 189) rfl rfl rfl ?_
  refine r_iconst (v := 3) (p := 190) rfl rfl rfl ?_
  refine r_iadd (p := 191) rfl rfl ?_
  refine r_scr hE1 (sv (c := 3) (by omega) (by omega)) (p := 192) rfl rfl ?_
  refine r_cV (p := 195) rfl rfl rfl (Nat.le_of_ble_eq_true rfl) rfl ((cs_reset hI).up (D' := 11) (by omega) 0 Y F M L _ hy H.1 (fun Y1 F1 M1 L1 B1 f1 g1 => ?_))
  have hE2 := g1.2.2.2.trans hE1
  refine r_aload_n (p := 196) rfl rfl rfl ?_
  refine r_aload_n (p := 197) rfl rfl rfl ?_
  refine r_iload_n (p := 198) rfl rfl rfl ?_
  refine r_iconst (v := 1) (p := 199) rfl rfl rfl ?_
  refine r_iadd (p := 200) rfl rfl ?_
  refine r_scr hE2 (sv (c := 1) (by omega) (by omega)) (p := 201) rfl rfl ?_
  refine r_aload_n (p := 202) rfl rfl rfl ?_
  refine r_iload_n (p := 203) rfl rfl rfl ?_
  refine r_iconst (v := 2) (p := 204) rfl rfl rfl ?_
  refine r_iadd (p := 205) rfl rfl ?_
  refine r_scr hE2 (sv (c := 2) (by omega) (by omega)) (p := 206) rfl rfl ?_
  refine r_aload_n (p := 207) rfl rfl rfl ?_
  refine r_iload_n (p := 208) rfl rfl rfl ?_
  refine r_iconst (v := 3) (p := 209) rfl rfl rfl ?_
  refine r_iadd (p := 210) rfl rfl ?_
  refine r_scr hE2 (sv (c := 3) (by omega) (by omega)) (p := 211) rfl rfl ?_
  refine r_cV (p := 214) rfl rfl rfl (Nat.le_of_ble_eq_true rfl) rfl ((rs_reset hI).up (D' := 11) (by omega) 0 Y1 F1 M1 L1 _ (H.2.1.fr f1) (fun F2 M2 L2 R2 f2 => ?_))
  refine r_icmp_eq (p := 217) rfl rfl (fun c1 => ?_) (fun c1 => ?_)
  · exact hQ _ _ _ _ _ (H.nx (B1.fr f2) R2 ((bi_reset hb).up (by omega)) g1)
  · refine r_iconst (v := 0) (p := 218) rfl rfl rfl ?_
    exact absurd rfl c1
set_option maxRecDepth 100000 in
theorem law_allocate {E : mN} {j : Nat} {Y : mY} {F : mF} {M : mM} {L : mL} {b : mBs} {Q : Option Value → mW → Prop} (H : LI E j Y F M b) (hE : E.1 ≤ 2048) (hj : 4 * j + 4 ≤ E.1) (hQ : ∀ Y' F' M' L' b', LI E (j + 1) Y' F' M' b' → Wp 11 tL_law 823 [some (.ref 1000300), some (.ref 0), some (.ref 34), some (.int (nI (4 * j)))] [] (mXY Y', F', M', L') Q) : Wp 11 tL_law 219 [some (.ref 1000300), some (.ref 0), some (.ref 34), some (.int (nI (4 * j)))] [] (mXY Y, F, M, L) Q := by
  have hy := H.y (by omega)
  have hE1 := H.2.2.2.1
  have hb := H.2.2.1
  have hI := hb.1
  have hA := hb.2.1
  refine r_aload_n (p := 220) rfl rfl rfl ?_
  refine r_aload_n (p := 221) rfl rfl rfl ?_
  refine r_iload_n (p := 222) rfl rfl rfl ?_
  refine r_iconst (v := 1) (p := 223) rfl rfl rfl ?_
  refine r_iadd (p := 224) rfl rfl ?_
  refine r_scr hE1 (sv (c := 1) (by omega) (by omega)) (p := 225) rfl rfl ?_
  refine r_cV (p := 228) rfl rfl rfl (Nat.le_of_ble_eq_true rfl) rfl ((cs_allocate hI).up (D' := 11) (by omega) 0 Y F M L _ hy H.1 (fun Y1 F1 M1 L1 B1 f1 g1 => ?_))
  have hE2 := g1.2.2.2.trans hE1
  refine r_aload_n (p := 229) rfl rfl rfl ?_
  refine r_aload_n (p := 230) rfl rfl rfl ?_
  refine r_iload_n (p := 231) rfl rfl rfl ?_
  refine r_iconst (v := 1) (p := 232) rfl rfl rfl ?_
  refine r_iadd (p := 233) rfl rfl ?_
  refine r_scr hE2 (sv (c := 1) (by omega) (by omega)) (p := 234) rfl rfl ?_
  refine r_cV (p := 237) rfl rfl rfl (Nat.le_of_ble_eq_true rfl) rfl ((rs_allocate hI).up (D' := 11) (by omega) 0 Y1 F1 M1 L1 _ (H.2.1.fr f1) (fun F2 M2 L2 R2 f2 => ?_))
  refine r_icmp_eq (p := 240) rfl rfl (fun c1 => ?_) (fun c1 => ?_)
  · exact hQ _ _ _ _ _ (H.nx (B1.fr f2) R2 ((bi_allocate hb).up (by omega)) g1)
  · refine r_iconst (v := 0) (p := 241) rfl rfl rfl ?_
    exact absurd rfl c1
set_option maxRecDepth 100000 in
theorem law_write {E : mN} {j : Nat} {Y : mY} {F : mF} {M : mM} {L : mL} {b : mBs} {Q : Option Value → mW → Prop} (H : LI E j Y F M b) (hE : E.1 ≤ 2048) (hj : 4 * j + 4 ≤ E.1) (hQ : ∀ Y' F' M' L' b', LI E (j + 1) Y' F' M' b' → Wp 11 tL_law 823 [some (.ref 1000300), some (.ref 0), some (.ref 34), some (.int (nI (4 * j)))] [] (mXY Y', F', M', L') Q) : Wp 11 tL_law 242 [some (.ref 1000300), some (.ref 0), some (.ref 34), some (.int (nI (4 * j)))] [] (mXY Y, F, M, L) Q := by
  have hy := H.y (by omega)
  have hE1 := H.2.2.2.1
  have hb := H.2.2.1
  have hI := hb.1
  have hA := hb.2.1
  refine r_aload_n (p := 243) rfl rfl rfl ?_
  refine r_aload_n (p := 244) rfl rfl rfl ?_
  refine r_iload_n (p := 245) rfl rfl rfl ?_
  refine r_iconst (v := 1) (p := 246) rfl rfl rfl ?_
  refine r_iadd (p := 247) rfl rfl ?_
  refine r_scr hE1 (sv (c := 1) (by omega) (by omega)) (p := 248) rfl rfl ?_
  refine r_aload_n (p := 249) rfl rfl rfl ?_
  refine r_iload_n (p := 250) rfl rfl rfl ?_
  refine r_iconst (v := 2) (p := 251) rfl rfl rfl ?_
  refine r_iadd (p := 252) rfl rfl ?_
  refine r_scr hE1 (sv (c := 2) (by omega) (by omega)) (p := 253) rfl rfl ?_
  refine r_aload_n (p := 254) rfl rfl rfl ?_
  refine r_iload_n (p := 255) rfl rfl rfl ?_
  refine r_iconst (v := 3) (p := 256) rfl rfl rfl ?_
  refine r_iadd (p := 257) rfl rfl ?_
  refine r_scr hE1 (sv (c := 3) (by omega) (by omega)) (p := 258) rfl rfl ?_
  refine r_cV (p := 261) rfl rfl rfl (Nat.le_of_ble_eq_true rfl) rfl ((cs_write hI).up (D' := 11) (by omega) 0 Y F M L _ hy H.1 (fun Y1 F1 M1 L1 B1 f1 g1 => ?_))
  have hE2 := g1.2.2.2.trans hE1
  refine r_aload_n (p := 262) rfl rfl rfl ?_
  refine r_aload_n (p := 263) rfl rfl rfl ?_
  refine r_iload_n (p := 264) rfl rfl rfl ?_
  refine r_iconst (v := 1) (p := 265) rfl rfl rfl ?_
  refine r_iadd (p := 266) rfl rfl ?_
  refine r_scr hE2 (sv (c := 1) (by omega) (by omega)) (p := 267) rfl rfl ?_
  refine r_aload_n (p := 268) rfl rfl rfl ?_
  refine r_iload_n (p := 269) rfl rfl rfl ?_
  refine r_iconst (v := 2) (p := 270) rfl rfl rfl ?_
  refine r_iadd (p := 271) rfl rfl ?_
  refine r_scr hE2 (sv (c := 2) (by omega) (by omega)) (p := 272) rfl rfl ?_
  refine r_aload_n (p := 273) rfl rfl rfl ?_
  refine r_iload_n (p := 274) rfl rfl rfl ?_
  refine r_iconst (v := 3) (p := 275) rfl rfl rfl ?_
  refine r_iadd (p := 276) rfl rfl ?_
  refine r_scr hE2 (sv (c := 3) (by omega) (by omega)) (p := 277) rfl rfl ?_
  refine r_cV (p := 280) rfl rfl rfl (Nat.le_of_ble_eq_true rfl) rfl ((rs_write hI).up (D' := 11) (by omega) 0 Y1 F1 M1 L1 _ (H.2.1.fr f1) (fun F2 M2 L2 R2 f2 => ?_))
  refine r_icmp_eq (p := 283) rfl rfl (fun c1 => ?_) (fun c1 => ?_)
  · exact hQ _ _ _ _ _ (H.nx (B1.fr f2) R2 ((bi_write hb).up (by omega)) g1)
  · refine r_iconst (v := 0) (p := 284) rfl rfl rfl ?_
    exact absurd rfl c1
set_option maxRecDepth 100000 in
theorem law_setRoot {E : mN} {j : Nat} {Y : mY} {F : mF} {M : mM} {L : mL} {b : mBs} {Q : Option Value → mW → Prop} (H : LI E j Y F M b) (hE : E.1 ≤ 2048) (hj : 4 * j + 4 ≤ E.1) (hQ : ∀ Y' F' M' L' b', LI E (j + 1) Y' F' M' b' → Wp 11 tL_law 823 [some (.ref 1000300), some (.ref 0), some (.ref 34), some (.int (nI (4 * j)))] [] (mXY Y', F', M', L') Q) : Wp 11 tL_law 285 [some (.ref 1000300), some (.ref 0), some (.ref 34), some (.int (nI (4 * j)))] [] (mXY Y, F, M, L) Q := by
  have hy := H.y (by omega)
  have hE1 := H.2.2.2.1
  have hb := H.2.2.1
  have hI := hb.1
  have hA := hb.2.1
  refine r_aload_n (p := 286) rfl rfl rfl ?_
  refine r_aload_n (p := 287) rfl rfl rfl ?_
  refine r_iload_n (p := 288) rfl rfl rfl ?_
  refine r_iconst (v := 1) (p := 289) rfl rfl rfl ?_
  refine r_iadd (p := 290) rfl rfl ?_
  refine r_scr hE1 (sv (c := 1) (by omega) (by omega)) (p := 291) rfl rfl ?_
  refine r_aload_n (p := 292) rfl rfl rfl ?_
  refine r_iload_n (p := 293) rfl rfl rfl ?_
  refine r_iconst (v := 2) (p := 294) rfl rfl rfl ?_
  refine r_iadd (p := 295) rfl rfl ?_
  refine r_scr hE1 (sv (c := 2) (by omega) (by omega)) (p := 296) rfl rfl ?_
  refine r_cV (p := 299) rfl rfl rfl (Nat.le_of_ble_eq_true rfl) rfl ((cs_setRoot hI).up (D' := 11) (by omega) 0 Y F M L _ hy H.1 (fun Y1 F1 M1 L1 B1 f1 g1 => ?_))
  have hE2 := g1.2.2.2.trans hE1
  refine r_aload_n (p := 300) rfl rfl rfl ?_
  refine r_aload_n (p := 301) rfl rfl rfl ?_
  refine r_iload_n (p := 302) rfl rfl rfl ?_
  refine r_iconst (v := 1) (p := 303) rfl rfl rfl ?_
  refine r_iadd (p := 304) rfl rfl ?_
  refine r_scr hE2 (sv (c := 1) (by omega) (by omega)) (p := 305) rfl rfl ?_
  refine r_aload_n (p := 306) rfl rfl rfl ?_
  refine r_iload_n (p := 307) rfl rfl rfl ?_
  refine r_iconst (v := 2) (p := 308) rfl rfl rfl ?_
  refine r_iadd (p := 309) rfl rfl ?_
  refine r_scr hE2 (sv (c := 2) (by omega) (by omega)) (p := 310) rfl rfl ?_
  refine r_cV (p := 313) rfl rfl rfl (Nat.le_of_ble_eq_true rfl) rfl ((rs_setRoot hI).up (D' := 11) (by omega) 0 Y1 F1 M1 L1 _ (H.2.1.fr f1) (fun F2 M2 L2 R2 f2 => ?_))
  refine r_icmp_eq (p := 316) rfl rfl (fun c1 => ?_) (fun c1 => ?_)
  · exact hQ _ _ _ _ _ (H.nx (B1.fr f2) R2 ((bi_setRoot hb).up (by omega)) g1)
  · refine r_iconst (v := 0) (p := 317) rfl rfl rfl ?_
    exact absurd rfl c1
set_option maxRecDepth 100000 in
theorem law_minorCollection {E : mN} {j : Nat} {Y : mY} {F : mF} {M : mM} {L : mL} {b : mBs} {Q : Option Value → mW → Prop} (H : LI E j Y F M b) (hE : E.1 ≤ 2048) (hj : 4 * j + 4 ≤ E.1) (hQ : ∀ Y' F' M' L' b', LI E (j + 1) Y' F' M' b' → Wp 11 tL_law 823 [some (.ref 1000300), some (.ref 0), some (.ref 34), some (.int (nI (4 * j)))] [] (mXY Y', F', M', L') Q) : Wp 11 tL_law 318 [some (.ref 1000300), some (.ref 0), some (.ref 34), some (.int (nI (4 * j)))] [] (mXY Y, F, M, L) Q := by
  have hy := H.y (by omega)
  have hE1 := H.2.2.2.1
  have hb := H.2.2.1
  have hI := hb.1
  have hA := hb.2.1
  refine r_aload_n (p := 319) rfl rfl rfl ?_
  refine r_cV (p := 322) rfl rfl rfl (Nat.le_of_ble_eq_true rfl) rfl ((cs_minorCollection hI).up (D' := 11) (by omega) 0 Y F M L _ hy H.1 (fun Y1 F1 M1 L1 B1 f1 g1 => ?_))
  have hE2 := g1.2.2.2.trans hE1
  refine r_aload_n (p := 323) rfl rfl rfl ?_
  refine r_cV (p := 326) rfl rfl rfl (Nat.le_of_ble_eq_true rfl) rfl ((rs_minorCollection hI).up (D' := 11) (by omega) 0 Y1 F1 M1 L1 _ (H.2.1.fr f1) (fun F2 M2 L2 R2 f2 => ?_))
  refine r_icmp_eq (p := 329) rfl rfl (fun c1 => ?_) (fun c1 => ?_)
  · exact hQ _ _ _ _ _ (H.nx (B1.fr f2) R2 (bi_minorCollection hb) g1)
  · refine r_iconst (v := 0) (p := 330) rfl rfl rfl ?_
    exact absurd rfl c1
set_option maxRecDepth 100000 in
theorem law_startMajor {E : mN} {j : Nat} {Y : mY} {F : mF} {M : mM} {L : mL} {b : mBs} {Q : Option Value → mW → Prop} (H : LI E j Y F M b) (hE : E.1 ≤ 2048) (hj : 4 * j + 4 ≤ E.1) (hQ : ∀ Y' F' M' L' b', LI E (j + 1) Y' F' M' b' → Wp 11 tL_law 823 [some (.ref 1000300), some (.ref 0), some (.ref 34), some (.int (nI (4 * j)))] [] (mXY Y', F', M', L') Q) : Wp 11 tL_law 331 [some (.ref 1000300), some (.ref 0), some (.ref 34), some (.int (nI (4 * j)))] [] (mXY Y, F, M, L) Q := by
  have hy := H.y (by omega)
  have hE1 := H.2.2.2.1
  have hb := H.2.2.1
  have hI := hb.1
  have hA := hb.2.1
  refine r_aload_n (p := 332) rfl rfl rfl ?_
  refine r_cV (p := 335) rfl rfl rfl (Nat.le_of_ble_eq_true rfl) rfl ((cs_startMajor hI).up (D' := 11) (by omega) 0 Y F M L _ hy H.1 (fun Y1 F1 M1 L1 B1 f1 g1 => ?_))
  have hE2 := g1.2.2.2.trans hE1
  refine r_aload_n (p := 336) rfl rfl rfl ?_
  refine r_cV (p := 339) rfl rfl rfl (Nat.le_of_ble_eq_true rfl) rfl ((rs_startMajor hI).up (D' := 11) (by omega) 0 Y1 F1 M1 L1 _ (H.2.1.fr f1) (fun F2 M2 L2 R2 f2 => ?_))
  refine r_icmp_eq (p := 342) rfl rfl (fun c1 => ?_) (fun c1 => ?_)
  · exact hQ _ _ _ _ _ (H.nx (B1.fr f2) R2 ((bi_startMajor hb).up (by omega)) g1)
  · refine r_iconst (v := 0) (p := 343) rfl rfl rfl ?_
    exact absurd rfl c1
set_option maxRecDepth 100000 in
theorem law_stepMajor {E : mN} {j : Nat} {Y : mY} {F : mF} {M : mM} {L : mL} {b : mBs} {Q : Option Value → mW → Prop} (H : LI E j Y F M b) (hE : E.1 ≤ 2048) (hj : 4 * j + 4 ≤ E.1) (hQ : ∀ Y' F' M' L' b', LI E (j + 1) Y' F' M' b' → Wp 11 tL_law 823 [some (.ref 1000300), some (.ref 0), some (.ref 34), some (.int (nI (4 * j)))] [] (mXY Y', F', M', L') Q) : Wp 11 tL_law 344 [some (.ref 1000300), some (.ref 0), some (.ref 34), some (.int (nI (4 * j)))] [] (mXY Y, F, M, L) Q := by
  have hy := H.y (by omega)
  have hE1 := H.2.2.2.1
  have hb := H.2.2.1
  have hI := hb.1
  have hA := hb.2.1
  refine r_aload_n (p := 345) rfl rfl rfl ?_
  refine r_aload_n (p := 346) rfl rfl rfl ?_
  refine r_iload_n (p := 347) rfl rfl rfl ?_
  refine r_iconst (v := 1) (p := 348) rfl rfl rfl ?_
  refine r_iadd (p := 349) rfl rfl ?_
  refine r_scr hE1 (sv (c := 1) (by omega) (by omega)) (p := 350) rfl rfl ?_
  refine r_cV (p := 353) rfl rfl rfl (Nat.le_of_ble_eq_true rfl) rfl ((cs_stepMajor hI).up (D' := 11) (by omega) 0 Y F M L _ hy H.1 (fun Y1 F1 M1 L1 B1 f1 g1 => ?_))
  have hE2 := g1.2.2.2.trans hE1
  refine r_aload_n (p := 354) rfl rfl rfl ?_
  refine r_aload_n (p := 355) rfl rfl rfl ?_
  refine r_iload_n (p := 356) rfl rfl rfl ?_
  refine r_iconst (v := 1) (p := 357) rfl rfl rfl ?_
  refine r_iadd (p := 358) rfl rfl ?_
  refine r_scr hE2 (sv (c := 1) (by omega) (by omega)) (p := 359) rfl rfl ?_
  refine r_cV (p := 362) rfl rfl rfl (Nat.le_of_ble_eq_true rfl) rfl ((rs_stepMajor hI).up (D' := 11) (by omega) 0 Y1 F1 M1 L1 _ (H.2.1.fr f1) (fun F2 M2 L2 R2 f2 => ?_))
  refine r_icmp_eq (p := 365) rfl rfl (fun c1 => ?_) (fun c1 => ?_)
  · exact hQ _ _ _ _ _ (H.nx (B1.fr f2) R2 ((bi_stepMajor hb).up (by omega)) g1)
  · refine r_iconst (v := 0) (p := 366) rfl rfl rfl ?_
    exact absurd rfl c1
set_option maxRecDepth 100000 in
theorem law_exists {E : mN} {j : Nat} {Y : mY} {F : mF} {M : mM} {L : mL} {b : mBs} {Q : Option Value → mW → Prop} (H : LI E j Y F M b) (hE : E.1 ≤ 2048) (hj : 4 * j + 4 ≤ E.1) (hQ : ∀ Y' F' M' L' b', LI E (j + 1) Y' F' M' b' → Wp 11 tL_law 823 [some (.ref 1000300), some (.ref 0), some (.ref 34), some (.int (nI (4 * j)))] [] (mXY Y', F', M', L') Q) : Wp 11 tL_law 367 [some (.ref 1000300), some (.ref 0), some (.ref 34), some (.int (nI (4 * j)))] [] (mXY Y, F, M, L) Q := by
  have hy := H.y (by omega)
  have hE1 := H.2.2.2.1
  have hb := H.2.2.1
  have hI := hb.1
  have hA := hb.2.1
  refine r_aload_n (p := 368) rfl rfl rfl ?_
  refine r_aload_n (p := 369) rfl rfl rfl ?_
  refine r_iload_n (p := 370) rfl rfl rfl ?_
  refine r_iconst (v := 1) (p := 371) rfl rfl rfl ?_
  refine r_iadd (p := 372) rfl rfl ?_
  refine r_scr hE1 (sv (c := 1) (by omega) (by omega)) (p := 373) rfl rfl ?_
  refine r_cV (p := 376) rfl rfl rfl (Nat.le_of_ble_eq_true rfl) rfl ((cs_exists).up (D' := 11) (by omega) 0 Y F M L _ hy H.1 (fun Y1 F1 M1 L1 B1 f1 g1 => ?_))
  have hE2 := g1.2.2.2.trans hE1
  refine r_aload_n (p := 377) rfl rfl rfl ?_
  refine r_aload_n (p := 378) rfl rfl rfl ?_
  refine r_iload_n (p := 379) rfl rfl rfl ?_
  refine r_iconst (v := 1) (p := 380) rfl rfl rfl ?_
  refine r_iadd (p := 381) rfl rfl ?_
  refine r_scr hE2 (sv (c := 1) (by omega) (by omega)) (p := 382) rfl rfl ?_
  refine r_cV (p := 385) rfl rfl rfl (Nat.le_of_ble_eq_true rfl) rfl ((rs_exists hI).up (D' := 11) (by omega) 0 Y1 F1 M1 L1 _ (H.2.1.fr f1) (fun F2 M2 L2 R2 f2 => ?_))
  refine r_icmp_eq (p := 388) rfl rfl (fun c1 => ?_) (fun c1 => ?_)
  · exact hQ _ _ _ _ _ (H.nx (B1.fr f2) R2 ((bi_exists hb).up (by omega)) g1)
  · refine r_iconst (v := 0) (p := 389) rfl rfl rfl ?_
    exact absurd rfl c1
set_option maxRecDepth 100000 in
theorem law_isOld {E : mN} {j : Nat} {Y : mY} {F : mF} {M : mM} {L : mL} {b : mBs} {Q : Option Value → mW → Prop} (H : LI E j Y F M b) (hE : E.1 ≤ 2048) (hj : 4 * j + 4 ≤ E.1) (hQ : ∀ Y' F' M' L' b', LI E (j + 1) Y' F' M' b' → Wp 11 tL_law 823 [some (.ref 1000300), some (.ref 0), some (.ref 34), some (.int (nI (4 * j)))] [] (mXY Y', F', M', L') Q) : Wp 11 tL_law 390 [some (.ref 1000300), some (.ref 0), some (.ref 34), some (.int (nI (4 * j)))] [] (mXY Y, F, M, L) Q := by
  have hy := H.y (by omega)
  have hE1 := H.2.2.2.1
  have hb := H.2.2.1
  have hI := hb.1
  have hA := hb.2.1
  refine r_aload_n (p := 391) rfl rfl rfl ?_
  refine r_aload_n (p := 392) rfl rfl rfl ?_
  refine r_iload_n (p := 393) rfl rfl rfl ?_
  refine r_iconst (v := 1) (p := 394) rfl rfl rfl ?_
  refine r_iadd (p := 395) rfl rfl ?_
  refine r_scr hE1 (sv (c := 1) (by omega) (by omega)) (p := 396) rfl rfl ?_
  refine r_cV (p := 399) rfl rfl rfl (Nat.le_of_ble_eq_true rfl) rfl ((cs_isOld).up (D' := 11) (by omega) 0 Y F M L _ hy H.1 (fun Y1 F1 M1 L1 B1 f1 g1 => ?_))
  have hE2 := g1.2.2.2.trans hE1
  refine r_aload_n (p := 400) rfl rfl rfl ?_
  refine r_aload_n (p := 401) rfl rfl rfl ?_
  refine r_iload_n (p := 402) rfl rfl rfl ?_
  refine r_iconst (v := 1) (p := 403) rfl rfl rfl ?_
  refine r_iadd (p := 404) rfl rfl ?_
  refine r_scr hE2 (sv (c := 1) (by omega) (by omega)) (p := 405) rfl rfl ?_
  refine r_cV (p := 408) rfl rfl rfl (Nat.le_of_ble_eq_true rfl) rfl ((rs_isOld hI).up (D' := 11) (by omega) 0 Y1 F1 M1 L1 _ (H.2.1.fr f1) (fun F2 M2 L2 R2 f2 => ?_))
  refine r_icmp_eq (p := 411) rfl rfl (fun c1 => ?_) (fun c1 => ?_)
  · exact hQ _ _ _ _ _ (H.nx (B1.fr f2) R2 ((bi_isOld hb).up (by omega)) g1)
  · refine r_iconst (v := 0) (p := 412) rfl rfl rfl ?_
    exact absurd rfl c1
set_option maxRecDepth 100000 in
theorem law_age {E : mN} {j : Nat} {Y : mY} {F : mF} {M : mM} {L : mL} {b : mBs} {Q : Option Value → mW → Prop} (H : LI E j Y F M b) (hE : E.1 ≤ 2048) (hj : 4 * j + 4 ≤ E.1) (hQ : ∀ Y' F' M' L' b', LI E (j + 1) Y' F' M' b' → Wp 11 tL_law 823 [some (.ref 1000300), some (.ref 0), some (.ref 34), some (.int (nI (4 * j)))] [] (mXY Y', F', M', L') Q) : Wp 11 tL_law 413 [some (.ref 1000300), some (.ref 0), some (.ref 34), some (.int (nI (4 * j)))] [] (mXY Y, F, M, L) Q := by
  have hy := H.y (by omega)
  have hE1 := H.2.2.2.1
  have hb := H.2.2.1
  have hI := hb.1
  have hA := hb.2.1
  refine r_aload_n (p := 414) rfl rfl rfl ?_
  refine r_aload_n (p := 415) rfl rfl rfl ?_
  refine r_iload_n (p := 416) rfl rfl rfl ?_
  refine r_iconst (v := 1) (p := 417) rfl rfl rfl ?_
  refine r_iadd (p := 418) rfl rfl ?_
  refine r_scr hE1 (sv (c := 1) (by omega) (by omega)) (p := 419) rfl rfl ?_
  refine r_cV (p := 422) rfl rfl rfl (Nat.le_of_ble_eq_true rfl) rfl ((cs_age).up (D' := 11) (by omega) 0 Y F M L _ hy H.1 (fun Y1 F1 M1 L1 B1 f1 g1 => ?_))
  have hE2 := g1.2.2.2.trans hE1
  refine r_aload_n (p := 423) rfl rfl rfl ?_
  refine r_aload_n (p := 424) rfl rfl rfl ?_
  refine r_iload_n (p := 425) rfl rfl rfl ?_
  refine r_iconst (v := 1) (p := 426) rfl rfl rfl ?_
  refine r_iadd (p := 427) rfl rfl ?_
  refine r_scr hE2 (sv (c := 1) (by omega) (by omega)) (p := 428) rfl rfl ?_
  refine r_cV (p := 431) rfl rfl rfl (Nat.le_of_ble_eq_true rfl) rfl ((rs_age hI).up (D' := 11) (by omega) 0 Y1 F1 M1 L1 _ (H.2.1.fr f1) (fun F2 M2 L2 R2 f2 => ?_))
  refine r_icmp_eq (p := 434) rfl rfl (fun c1 => ?_) (fun c1 => ?_)
  · exact hQ _ _ _ _ _ (H.nx (B1.fr f2) R2 ((bi_age hb).up (by omega)) g1)
  · refine r_iconst (v := 0) (p := 435) rfl rfl rfl ?_
    exact absurd rfl c1
set_option maxRecDepth 100000 in
theorem law_reference {E : mN} {j : Nat} {Y : mY} {F : mF} {M : mM} {L : mL} {b : mBs} {Q : Option Value → mW → Prop} (H : LI E j Y F M b) (hE : E.1 ≤ 2048) (hj : 4 * j + 4 ≤ E.1) (hQ : ∀ Y' F' M' L' b', LI E (j + 1) Y' F' M' b' → Wp 11 tL_law 823 [some (.ref 1000300), some (.ref 0), some (.ref 34), some (.int (nI (4 * j)))] [] (mXY Y', F', M', L') Q) : Wp 11 tL_law 436 [some (.ref 1000300), some (.ref 0), some (.ref 34), some (.int (nI (4 * j)))] [] (mXY Y, F, M, L) Q := by
  have hy := H.y (by omega)
  have hE1 := H.2.2.2.1
  have hb := H.2.2.1
  have hI := hb.1
  have hA := hb.2.1
  refine r_aload_n (p := 437) rfl rfl rfl ?_
  refine r_aload_n (p := 438) rfl rfl rfl ?_
  refine r_iload_n (p := 439) rfl rfl rfl ?_
  refine r_iconst (v := 1) (p := 440) rfl rfl rfl ?_
  refine r_iadd (p := 441) rfl rfl ?_
  refine r_scr hE1 (sv (c := 1) (by omega) (by omega)) (p := 442) rfl rfl ?_
  refine r_aload_n (p := 443) rfl rfl rfl ?_
  refine r_iload_n (p := 444) rfl rfl rfl ?_
  refine r_iconst (v := 2) (p := 445) rfl rfl rfl ?_
  refine r_iadd (p := 446) rfl rfl ?_
  refine r_scr hE1 (sv (c := 2) (by omega) (by omega)) (p := 447) rfl rfl ?_
  refine r_cV (p := 450) rfl rfl rfl (Nat.le_of_ble_eq_true rfl) rfl ((cs_reference hI).up (D' := 11) (by omega) 0 Y F M L _ hy H.1 (fun Y1 F1 M1 L1 B1 f1 g1 => ?_))
  have hE2 := g1.2.2.2.trans hE1
  refine r_aload_n (p := 451) rfl rfl rfl ?_
  refine r_aload_n (p := 452) rfl rfl rfl ?_
  refine r_iload_n (p := 453) rfl rfl rfl ?_
  refine r_iconst (v := 1) (p := 454) rfl rfl rfl ?_
  refine r_iadd (p := 455) rfl rfl ?_
  refine r_scr hE2 (sv (c := 1) (by omega) (by omega)) (p := 456) rfl rfl ?_
  refine r_aload_n (p := 457) rfl rfl rfl ?_
  refine r_iload_n (p := 458) rfl rfl rfl ?_
  refine r_iconst (v := 2) (p := 459) rfl rfl rfl ?_
  refine r_iadd (p := 460) rfl rfl ?_
  refine r_scr hE2 (sv (c := 2) (by omega) (by omega)) (p := 461) rfl rfl ?_
  refine r_cV (p := 464) rfl rfl rfl (Nat.le_of_ble_eq_true rfl) rfl ((rs_reference hI).up (D' := 11) (by omega) 0 Y1 F1 M1 L1 _ (H.2.1.fr f1) (fun F2 M2 L2 R2 f2 => ?_))
  refine r_icmp_eq (p := 467) rfl rfl (fun c1 => ?_) (fun c1 => ?_)
  · exact hQ _ _ _ _ _ (H.nx (B1.fr f2) R2 ((bi_reference hb).up (by omega)) g1)
  · refine r_iconst (v := 0) (p := 468) rfl rfl rfl ?_
    exact absurd rfl c1
set_option maxRecDepth 100000 in
theorem law_root {E : mN} {j : Nat} {Y : mY} {F : mF} {M : mM} {L : mL} {b : mBs} {Q : Option Value → mW → Prop} (H : LI E j Y F M b) (hE : E.1 ≤ 2048) (hj : 4 * j + 4 ≤ E.1) (hQ : ∀ Y' F' M' L' b', LI E (j + 1) Y' F' M' b' → Wp 11 tL_law 823 [some (.ref 1000300), some (.ref 0), some (.ref 34), some (.int (nI (4 * j)))] [] (mXY Y', F', M', L') Q) : Wp 11 tL_law 469 [some (.ref 1000300), some (.ref 0), some (.ref 34), some (.int (nI (4 * j)))] [] (mXY Y, F, M, L) Q := by
  have hy := H.y (by omega)
  have hE1 := H.2.2.2.1
  have hb := H.2.2.1
  have hI := hb.1
  have hA := hb.2.1
  refine r_aload_n (p := 470) rfl rfl rfl ?_
  refine r_aload_n (p := 471) rfl rfl rfl ?_
  refine r_iload_n (p := 472) rfl rfl rfl ?_
  refine r_iconst (v := 1) (p := 473) rfl rfl rfl ?_
  refine r_iadd (p := 474) rfl rfl ?_
  refine r_scr hE1 (sv (c := 1) (by omega) (by omega)) (p := 475) rfl rfl ?_
  refine r_cV (p := 478) rfl rfl rfl (Nat.le_of_ble_eq_true rfl) rfl ((cs_root).up (D' := 11) (by omega) 0 Y F M L _ hy H.1 (fun Y1 F1 M1 L1 B1 f1 g1 => ?_))
  have hE2 := g1.2.2.2.trans hE1
  refine r_aload_n (p := 479) rfl rfl rfl ?_
  refine r_aload_n (p := 480) rfl rfl rfl ?_
  refine r_iload_n (p := 481) rfl rfl rfl ?_
  refine r_iconst (v := 1) (p := 482) rfl rfl rfl ?_
  refine r_iadd (p := 483) rfl rfl ?_
  refine r_scr hE2 (sv (c := 1) (by omega) (by omega)) (p := 484) rfl rfl ?_
  refine r_cV (p := 487) rfl rfl rfl (Nat.le_of_ble_eq_true rfl) rfl ((rs_root).up (D' := 11) (by omega) 0 Y1 F1 M1 L1 _ (H.2.1.fr f1) (fun F2 M2 L2 R2 f2 => ?_))
  refine r_icmp_eq (p := 490) rfl rfl (fun c1 => ?_) (fun c1 => ?_)
  · exact hQ _ _ _ _ _ (H.nx (B1.fr f2) R2 ((bi_root hb).up (by omega)) g1)
  · refine r_iconst (v := 0) (p := 491) rfl rfl rfl ?_
    exact absurd rfl c1
set_option maxRecDepth 100000 in
theorem law_colour {E : mN} {j : Nat} {Y : mY} {F : mF} {M : mM} {L : mL} {b : mBs} {Q : Option Value → mW → Prop} (H : LI E j Y F M b) (hE : E.1 ≤ 2048) (hj : 4 * j + 4 ≤ E.1) (hQ : ∀ Y' F' M' L' b', LI E (j + 1) Y' F' M' b' → Wp 11 tL_law 823 [some (.ref 1000300), some (.ref 0), some (.ref 34), some (.int (nI (4 * j)))] [] (mXY Y', F', M', L') Q) : Wp 11 tL_law 492 [some (.ref 1000300), some (.ref 0), some (.ref 34), some (.int (nI (4 * j)))] [] (mXY Y, F, M, L) Q := by
  have hy := H.y (by omega)
  have hE1 := H.2.2.2.1
  have hb := H.2.2.1
  have hI := hb.1
  have hA := hb.2.1
  refine r_aload_n (p := 493) rfl rfl rfl ?_
  refine r_aload_n (p := 494) rfl rfl rfl ?_
  refine r_iload_n (p := 495) rfl rfl rfl ?_
  refine r_iconst (v := 1) (p := 496) rfl rfl rfl ?_
  refine r_iadd (p := 497) rfl rfl ?_
  refine r_scr hE1 (sv (c := 1) (by omega) (by omega)) (p := 498) rfl rfl ?_
  refine r_cV (p := 501) rfl rfl rfl (Nat.le_of_ble_eq_true rfl) rfl ((cs_colour).up (D' := 11) (by omega) 0 Y F M L _ hy H.1 (fun Y1 F1 M1 L1 B1 f1 g1 => ?_))
  have hE2 := g1.2.2.2.trans hE1
  refine r_aload_n (p := 502) rfl rfl rfl ?_
  refine r_aload_n (p := 503) rfl rfl rfl ?_
  refine r_iload_n (p := 504) rfl rfl rfl ?_
  refine r_iconst (v := 1) (p := 505) rfl rfl rfl ?_
  refine r_iadd (p := 506) rfl rfl ?_
  refine r_scr hE2 (sv (c := 1) (by omega) (by omega)) (p := 507) rfl rfl ?_
  refine r_cV (p := 510) rfl rfl rfl (Nat.le_of_ble_eq_true rfl) rfl ((rs_colour hI).up (D' := 11) (by omega) 0 Y1 F1 M1 L1 _ (H.2.1.fr f1) (fun F2 M2 L2 R2 f2 => ?_))
  refine r_icmp_eq (p := 513) rfl rfl (fun c1 => ?_) (fun c1 => ?_)
  · exact hQ _ _ _ _ _ (H.nx (B1.fr f2) R2 ((bi_colour hb).up (by omega)) g1)
  · refine r_iconst (v := 0) (p := 514) rfl rfl rfl ?_
    exact absurd rfl c1
set_option maxRecDepth 100000 in
theorem law_reachableCount {E : mN} {j : Nat} {Y : mY} {F : mF} {M : mM} {L : mL} {b : mBs} {Q : Option Value → mW → Prop} (H : LI E j Y F M b) (hE : E.1 ≤ 2048) (hj : 4 * j + 4 ≤ E.1) (hQ : ∀ Y' F' M' L' b', LI E (j + 1) Y' F' M' b' → Wp 11 tL_law 823 [some (.ref 1000300), some (.ref 0), some (.ref 34), some (.int (nI (4 * j)))] [] (mXY Y', F', M', L') Q) : Wp 11 tL_law 515 [some (.ref 1000300), some (.ref 0), some (.ref 34), some (.int (nI (4 * j)))] [] (mXY Y, F, M, L) Q := by
  have hy := H.y (by omega)
  have hE1 := H.2.2.2.1
  have hb := H.2.2.1
  have hI := hb.1
  have hA := hb.2.1
  refine r_aload_n (p := 516) rfl rfl rfl ?_
  refine r_cV (p := 519) rfl rfl rfl (Nat.le_of_ble_eq_true rfl) rfl ((cs_reachableCount hI).up (D' := 11) (by omega) 0 Y F M L _ hy H.1 (fun Y1 F1 M1 L1 B1 f1 g1 => ?_))
  have hE2 := g1.2.2.2.trans hE1
  refine r_aload_n (p := 520) rfl rfl rfl ?_
  refine r_cV (p := 523) rfl rfl rfl (Nat.le_of_ble_eq_true rfl) rfl ((rs_reachableCount hI).up (D' := 11) (by omega) 0 Y1 F1 M1 L1 _ (H.2.1.fr f1) (fun F2 M2 L2 R2 f2 => ?_))
  refine r_icmp_eq (p := 526) rfl rfl (fun c1 => ?_) (fun c1 => ?_)
  · exact hQ _ _ _ _ _ (H.nx (B1.fr f2) R2 (hb.up (by omega)) g1)
  · refine r_iconst (v := 0) (p := 527) rfl rfl rfl ?_
    exact absurd rfl c1
set_option maxRecDepth 100000 in
theorem law_youngCount {E : mN} {j : Nat} {Y : mY} {F : mF} {M : mM} {L : mL} {b : mBs} {Q : Option Value → mW → Prop} (H : LI E j Y F M b) (hE : E.1 ≤ 2048) (hj : 4 * j + 4 ≤ E.1) (hQ : ∀ Y' F' M' L' b', LI E (j + 1) Y' F' M' b' → Wp 11 tL_law 823 [some (.ref 1000300), some (.ref 0), some (.ref 34), some (.int (nI (4 * j)))] [] (mXY Y', F', M', L') Q) : Wp 11 tL_law 528 [some (.ref 1000300), some (.ref 0), some (.ref 34), some (.int (nI (4 * j)))] [] (mXY Y, F, M, L) Q := by
  have hy := H.y (by omega)
  have hE1 := H.2.2.2.1
  have hb := H.2.2.1
  have hI := hb.1
  have hA := hb.2.1
  refine r_aload_n (p := 529) rfl rfl rfl ?_
  refine r_cV (p := 532) rfl rfl rfl (Nat.le_of_ble_eq_true rfl) rfl ((cs_youngCount).up (D' := 11) (by omega) 0 Y F M L _ hy H.1 (fun Y1 F1 M1 L1 B1 f1 g1 => ?_))
  have hE2 := g1.2.2.2.trans hE1
  refine r_aload_n (p := 533) rfl rfl rfl ?_
  refine r_cV (p := 536) rfl rfl rfl (Nat.le_of_ble_eq_true rfl) rfl ((rs_youngCount).up (D' := 11) (by omega) 0 Y1 F1 M1 L1 _ (H.2.1.fr f1) (fun F2 M2 L2 R2 f2 => ?_))
  refine r_icmp_eq (p := 539) rfl rfl (fun c1 => ?_) (fun c1 => ?_)
  · exact hQ _ _ _ _ _ (H.nx (B1.fr f2) R2 (hb.up (by omega)) g1)
  · refine r_iconst (v := 0) (p := 540) rfl rfl rfl ?_
    exact absurd rfl c1
set_option maxRecDepth 100000 in
theorem law_youngObject {E : mN} {j : Nat} {Y : mY} {F : mF} {M : mM} {L : mL} {b : mBs} {Q : Option Value → mW → Prop} (H : LI E j Y F M b) (hE : E.1 ≤ 2048) (hj : 4 * j + 4 ≤ E.1) (hQ : ∀ Y' F' M' L' b', LI E (j + 1) Y' F' M' b' → Wp 11 tL_law 823 [some (.ref 1000300), some (.ref 0), some (.ref 34), some (.int (nI (4 * j)))] [] (mXY Y', F', M', L') Q) : Wp 11 tL_law 541 [some (.ref 1000300), some (.ref 0), some (.ref 34), some (.int (nI (4 * j)))] [] (mXY Y, F, M, L) Q := by
  have hy := H.y (by omega)
  have hE1 := H.2.2.2.1
  have hb := H.2.2.1
  have hI := hb.1
  have hA := hb.2.1
  refine r_aload_n (p := 542) rfl rfl rfl ?_
  refine r_aload_n (p := 543) rfl rfl rfl ?_
  refine r_iload_n (p := 544) rfl rfl rfl ?_
  refine r_iconst (v := 1) (p := 545) rfl rfl rfl ?_
  refine r_iadd (p := 546) rfl rfl ?_
  refine r_scr hE1 (sv (c := 1) (by omega) (by omega)) (p := 547) rfl rfl ?_
  refine r_cV (p := 550) rfl rfl rfl (Nat.le_of_ble_eq_true rfl) rfl ((cs_youngObject).up (D' := 11) (by omega) 0 Y F M L _ hy H.1 (fun Y1 F1 M1 L1 B1 f1 g1 => ?_))
  have hE2 := g1.2.2.2.trans hE1
  refine r_aload_n (p := 551) rfl rfl rfl ?_
  refine r_aload_n (p := 552) rfl rfl rfl ?_
  refine r_iload_n (p := 553) rfl rfl rfl ?_
  refine r_iconst (v := 1) (p := 554) rfl rfl rfl ?_
  refine r_iadd (p := 555) rfl rfl ?_
  refine r_scr hE2 (sv (c := 1) (by omega) (by omega)) (p := 556) rfl rfl ?_
  refine r_cV (p := 559) rfl rfl rfl (Nat.le_of_ble_eq_true rfl) rfl ((rs_youngObject hI).up (D' := 11) (by omega) 0 Y1 F1 M1 L1 _ (H.2.1.fr f1) (fun F2 M2 L2 R2 f2 => ?_))
  refine r_icmp_eq (p := 562) rfl rfl (fun c1 => ?_) (fun c1 => ?_)
  · exact hQ _ _ _ _ _ (H.nx (B1.fr f2) R2 ((bi_at hb).up (by omega)) g1)
  · refine r_iconst (v := 0) (p := 563) rfl rfl rfl ?_
    exact absurd rfl c1
set_option maxRecDepth 100000 in
theorem law_youngWords {E : mN} {j : Nat} {Y : mY} {F : mF} {M : mM} {L : mL} {b : mBs} {Q : Option Value → mW → Prop} (H : LI E j Y F M b) (hE : E.1 ≤ 2048) (hj : 4 * j + 4 ≤ E.1) (hQ : ∀ Y' F' M' L' b', LI E (j + 1) Y' F' M' b' → Wp 11 tL_law 823 [some (.ref 1000300), some (.ref 0), some (.ref 34), some (.int (nI (4 * j)))] [] (mXY Y', F', M', L') Q) : Wp 11 tL_law 564 [some (.ref 1000300), some (.ref 0), some (.ref 34), some (.int (nI (4 * j)))] [] (mXY Y, F, M, L) Q := by
  have hy := H.y (by omega)
  have hE1 := H.2.2.2.1
  have hb := H.2.2.1
  have hI := hb.1
  have hA := hb.2.1
  refine r_aload_n (p := 565) rfl rfl rfl ?_
  refine r_cV (p := 568) rfl rfl rfl (Nat.le_of_ble_eq_true rfl) rfl ((cs_youngWords).up (D' := 11) (by omega) 0 Y F M L _ hy H.1 (fun Y1 F1 M1 L1 B1 f1 g1 => ?_))
  have hE2 := g1.2.2.2.trans hE1
  refine r_aload_n (p := 569) rfl rfl rfl ?_
  refine r_cV (p := 572) rfl rfl rfl (Nat.le_of_ble_eq_true rfl) rfl ((rs_youngWords hI).up (D' := 11) (by omega) 0 Y1 F1 M1 L1 _ (H.2.1.fr f1) (fun F2 M2 L2 R2 f2 => ?_))
  refine r_icmp_eq (p := 575) rfl rfl (fun c1 => ?_) (fun c1 => ?_)
  · exact hQ _ _ _ _ _ (H.nx (B1.fr f2) R2 (hb.up (by omega)) g1)
  · refine r_iconst (v := 0) (p := 576) rfl rfl rfl ?_
    exact absurd rfl c1
set_option maxRecDepth 100000 in
theorem law_oldCount {E : mN} {j : Nat} {Y : mY} {F : mF} {M : mM} {L : mL} {b : mBs} {Q : Option Value → mW → Prop} (H : LI E j Y F M b) (hE : E.1 ≤ 2048) (hj : 4 * j + 4 ≤ E.1) (hQ : ∀ Y' F' M' L' b', LI E (j + 1) Y' F' M' b' → Wp 11 tL_law 823 [some (.ref 1000300), some (.ref 0), some (.ref 34), some (.int (nI (4 * j)))] [] (mXY Y', F', M', L') Q) : Wp 11 tL_law 577 [some (.ref 1000300), some (.ref 0), some (.ref 34), some (.int (nI (4 * j)))] [] (mXY Y, F, M, L) Q := by
  have hy := H.y (by omega)
  have hE1 := H.2.2.2.1
  have hb := H.2.2.1
  have hI := hb.1
  have hA := hb.2.1
  refine r_aload_n (p := 578) rfl rfl rfl ?_
  refine r_cV (p := 581) rfl rfl rfl (Nat.le_of_ble_eq_true rfl) rfl ((cs_oldCount).up (D' := 11) (by omega) 0 Y F M L _ hy H.1 (fun Y1 F1 M1 L1 B1 f1 g1 => ?_))
  have hE2 := g1.2.2.2.trans hE1
  refine r_aload_n (p := 582) rfl rfl rfl ?_
  refine r_cV (p := 585) rfl rfl rfl (Nat.le_of_ble_eq_true rfl) rfl ((rs_oldCount hI).up (D' := 11) (by omega) 0 Y1 F1 M1 L1 _ (H.2.1.fr f1) (fun F2 M2 L2 R2 f2 => ?_))
  refine r_icmp_eq (p := 588) rfl rfl (fun c1 => ?_) (fun c1 => ?_)
  · exact hQ _ _ _ _ _ (H.nx (B1.fr f2) R2 (hb.up (by omega)) g1)
  · refine r_iconst (v := 0) (p := 589) rfl rfl rfl ?_
    exact absurd rfl c1
set_option maxRecDepth 100000 in
theorem law_oldWords {E : mN} {j : Nat} {Y : mY} {F : mF} {M : mM} {L : mL} {b : mBs} {Q : Option Value → mW → Prop} (H : LI E j Y F M b) (hE : E.1 ≤ 2048) (hj : 4 * j + 4 ≤ E.1) (hQ : ∀ Y' F' M' L' b', LI E (j + 1) Y' F' M' b' → Wp 11 tL_law 823 [some (.ref 1000300), some (.ref 0), some (.ref 34), some (.int (nI (4 * j)))] [] (mXY Y', F', M', L') Q) : Wp 11 tL_law 590 [some (.ref 1000300), some (.ref 0), some (.ref 34), some (.int (nI (4 * j)))] [] (mXY Y, F, M, L) Q := by
  have hy := H.y (by omega)
  have hE1 := H.2.2.2.1
  have hb := H.2.2.1
  have hI := hb.1
  have hA := hb.2.1
  refine r_aload_n (p := 591) rfl rfl rfl ?_
  refine r_cV (p := 594) rfl rfl rfl (Nat.le_of_ble_eq_true rfl) rfl ((cs_oldWords).up (D' := 11) (by omega) 0 Y F M L _ hy H.1 (fun Y1 F1 M1 L1 B1 f1 g1 => ?_))
  have hE2 := g1.2.2.2.trans hE1
  refine r_aload_n (p := 595) rfl rfl rfl ?_
  refine r_cV (p := 598) rfl rfl rfl (Nat.le_of_ble_eq_true rfl) rfl ((rs_oldWords hI).up (D' := 11) (by omega) 0 Y1 F1 M1 L1 _ (H.2.1.fr f1) (fun F2 M2 L2 R2 f2 => ?_))
  refine r_icmp_eq (p := 601) rfl rfl (fun c1 => ?_) (fun c1 => ?_)
  · exact hQ _ _ _ _ _ (H.nx (B1.fr f2) R2 (hb.up (by omega)) g1)
  · refine r_iconst (v := 0) (p := 602) rfl rfl rfl ?_
    exact absurd rfl c1
set_option maxRecDepth 100000 in
theorem law_rememberedCount {E : mN} {j : Nat} {Y : mY} {F : mF} {M : mM} {L : mL} {b : mBs} {Q : Option Value → mW → Prop} (H : LI E j Y F M b) (hE : E.1 ≤ 2048) (hj : 4 * j + 4 ≤ E.1) (hQ : ∀ Y' F' M' L' b', LI E (j + 1) Y' F' M' b' → Wp 11 tL_law 823 [some (.ref 1000300), some (.ref 0), some (.ref 34), some (.int (nI (4 * j)))] [] (mXY Y', F', M', L') Q) : Wp 11 tL_law 603 [some (.ref 1000300), some (.ref 0), some (.ref 34), some (.int (nI (4 * j)))] [] (mXY Y, F, M, L) Q := by
  have hy := H.y (by omega)
  have hE1 := H.2.2.2.1
  have hb := H.2.2.1
  have hI := hb.1
  have hA := hb.2.1
  refine r_aload_n (p := 604) rfl rfl rfl ?_
  refine r_cV (p := 607) rfl rfl rfl (Nat.le_of_ble_eq_true rfl) rfl ((cs_rememberedCount).up (D' := 11) (by omega) 0 Y F M L _ hy H.1 (fun Y1 F1 M1 L1 B1 f1 g1 => ?_))
  have hE2 := g1.2.2.2.trans hE1
  refine r_aload_n (p := 608) rfl rfl rfl ?_
  refine r_cV (p := 611) rfl rfl rfl (Nat.le_of_ble_eq_true rfl) rfl ((rs_rememberedCount).up (D' := 11) (by omega) 0 Y1 F1 M1 L1 _ (H.2.1.fr f1) (fun F2 M2 L2 R2 f2 => ?_))
  refine r_icmp_eq (p := 614) rfl rfl (fun c1 => ?_) (fun c1 => ?_)
  · exact hQ _ _ _ _ _ (H.nx (B1.fr f2) R2 (hb.up (by omega)) g1)
  · refine r_iconst (v := 0) (p := 615) rfl rfl rfl ?_
    exact absurd rfl c1
set_option maxRecDepth 100000 in
theorem law_remembered {E : mN} {j : Nat} {Y : mY} {F : mF} {M : mM} {L : mL} {b : mBs} {Q : Option Value → mW → Prop} (H : LI E j Y F M b) (hE : E.1 ≤ 2048) (hj : 4 * j + 4 ≤ E.1) (hQ : ∀ Y' F' M' L' b', LI E (j + 1) Y' F' M' b' → Wp 11 tL_law 823 [some (.ref 1000300), some (.ref 0), some (.ref 34), some (.int (nI (4 * j)))] [] (mXY Y', F', M', L') Q) : Wp 11 tL_law 616 [some (.ref 1000300), some (.ref 0), some (.ref 34), some (.int (nI (4 * j)))] [] (mXY Y, F, M, L) Q := by
  have hy := H.y (by omega)
  have hE1 := H.2.2.2.1
  have hb := H.2.2.1
  have hI := hb.1
  have hA := hb.2.1
  refine r_aload_n (p := 617) rfl rfl rfl ?_
  refine r_aload_n (p := 618) rfl rfl rfl ?_
  refine r_iload_n (p := 619) rfl rfl rfl ?_
  refine r_iconst (v := 1) (p := 620) rfl rfl rfl ?_
  refine r_iadd (p := 621) rfl rfl ?_
  refine r_scr hE1 (sv (c := 1) (by omega) (by omega)) (p := 622) rfl rfl ?_
  refine r_cV (p := 625) rfl rfl rfl (Nat.le_of_ble_eq_true rfl) rfl ((cs_remembered).up (D' := 11) (by omega) 0 Y F M L _ hy H.1 (fun Y1 F1 M1 L1 B1 f1 g1 => ?_))
  have hE2 := g1.2.2.2.trans hE1
  refine r_aload_n (p := 626) rfl rfl rfl ?_
  refine r_aload_n (p := 627) rfl rfl rfl ?_
  refine r_iload_n (p := 628) rfl rfl rfl ?_
  refine r_iconst (v := 1) (p := 629) rfl rfl rfl ?_
  refine r_iadd (p := 630) rfl rfl ?_
  refine r_scr hE2 (sv (c := 1) (by omega) (by omega)) (p := 631) rfl rfl ?_
  refine r_cV (p := 634) rfl rfl rfl (Nat.le_of_ble_eq_true rfl) rfl ((rs_remembered hI).up (D' := 11) (by omega) 0 Y1 F1 M1 L1 _ (H.2.1.fr f1) (fun F2 M2 L2 R2 f2 => ?_))
  refine r_icmp_eq (p := 637) rfl rfl (fun c1 => ?_) (fun c1 => ?_)
  · exact hQ _ _ _ _ _ (H.nx (B1.fr f2) R2 ((bi_at hb).up (by omega)) g1)
  · refine r_iconst (v := 0) (p := 638) rfl rfl rfl ?_
    exact absurd rfl c1
set_option maxRecDepth 100000 in
theorem law_phase {E : mN} {j : Nat} {Y : mY} {F : mF} {M : mM} {L : mL} {b : mBs} {Q : Option Value → mW → Prop} (H : LI E j Y F M b) (hE : E.1 ≤ 2048) (hj : 4 * j + 4 ≤ E.1) (hQ : ∀ Y' F' M' L' b', LI E (j + 1) Y' F' M' b' → Wp 11 tL_law 823 [some (.ref 1000300), some (.ref 0), some (.ref 34), some (.int (nI (4 * j)))] [] (mXY Y', F', M', L') Q) : Wp 11 tL_law 639 [some (.ref 1000300), some (.ref 0), some (.ref 34), some (.int (nI (4 * j)))] [] (mXY Y, F, M, L) Q := by
  have hy := H.y (by omega)
  have hE1 := H.2.2.2.1
  have hb := H.2.2.1
  have hI := hb.1
  have hA := hb.2.1
  refine r_aload_n (p := 640) rfl rfl rfl ?_
  refine r_cV (p := 643) rfl rfl rfl (Nat.le_of_ble_eq_true rfl) rfl ((cs_phase).up (D' := 11) (by omega) 0 Y F M L _ hy H.1 (fun Y1 F1 M1 L1 B1 f1 g1 => ?_))
  have hE2 := g1.2.2.2.trans hE1
  refine r_aload_n (p := 644) rfl rfl rfl ?_
  refine r_cV (p := 647) rfl rfl rfl (Nat.le_of_ble_eq_true rfl) rfl ((rs_phase).up (D' := 11) (by omega) 0 Y1 F1 M1 L1 _ (H.2.1.fr f1) (fun F2 M2 L2 R2 f2 => ?_))
  refine r_icmp_eq (p := 650) rfl rfl (fun c1 => ?_) (fun c1 => ?_)
  · exact hQ _ _ _ _ _ (H.nx (B1.fr f2) R2 (hb.up (by omega)) g1)
  · refine r_iconst (v := 0) (p := 651) rfl rfl rfl ?_
    exact absurd rfl c1
set_option maxRecDepth 100000 in
theorem law_greyCount {E : mN} {j : Nat} {Y : mY} {F : mF} {M : mM} {L : mL} {b : mBs} {Q : Option Value → mW → Prop} (H : LI E j Y F M b) (hE : E.1 ≤ 2048) (hj : 4 * j + 4 ≤ E.1) (hQ : ∀ Y' F' M' L' b', LI E (j + 1) Y' F' M' b' → Wp 11 tL_law 823 [some (.ref 1000300), some (.ref 0), some (.ref 34), some (.int (nI (4 * j)))] [] (mXY Y', F', M', L') Q) : Wp 11 tL_law 652 [some (.ref 1000300), some (.ref 0), some (.ref 34), some (.int (nI (4 * j)))] [] (mXY Y, F, M, L) Q := by
  have hy := H.y (by omega)
  have hE1 := H.2.2.2.1
  have hb := H.2.2.1
  have hI := hb.1
  have hA := hb.2.1
  refine r_aload_n (p := 653) rfl rfl rfl ?_
  refine r_cV (p := 656) rfl rfl rfl (Nat.le_of_ble_eq_true rfl) rfl ((cs_greyCount).up (D' := 11) (by omega) 0 Y F M L _ hy H.1 (fun Y1 F1 M1 L1 B1 f1 g1 => ?_))
  have hE2 := g1.2.2.2.trans hE1
  refine r_aload_n (p := 657) rfl rfl rfl ?_
  refine r_cV (p := 660) rfl rfl rfl (Nat.le_of_ble_eq_true rfl) rfl ((rs_greyCount).up (D' := 11) (by omega) 0 Y1 F1 M1 L1 _ (H.2.1.fr f1) (fun F2 M2 L2 R2 f2 => ?_))
  refine r_icmp_eq (p := 663) rfl rfl (fun c1 => ?_) (fun c1 => ?_)
  · exact hQ _ _ _ _ _ (H.nx (B1.fr f2) R2 (hb.up (by omega)) g1)
  · refine r_iconst (v := 0) (p := 664) rfl rfl rfl ?_
    exact absurd rfl c1
set_option maxRecDepth 100000 in
theorem law_promotionFailures {E : mN} {j : Nat} {Y : mY} {F : mF} {M : mM} {L : mL} {b : mBs} {Q : Option Value → mW → Prop} (H : LI E j Y F M b) (hE : E.1 ≤ 2048) (hj : 4 * j + 4 ≤ E.1) (hQ : ∀ Y' F' M' L' b', LI E (j + 1) Y' F' M' b' → Wp 11 tL_law 823 [some (.ref 1000300), some (.ref 0), some (.ref 34), some (.int (nI (4 * j)))] [] (mXY Y', F', M', L') Q) : Wp 11 tL_law 665 [some (.ref 1000300), some (.ref 0), some (.ref 34), some (.int (nI (4 * j)))] [] (mXY Y, F, M, L) Q := by
  have hy := H.y (by omega)
  have hE1 := H.2.2.2.1
  have hb := H.2.2.1
  have hI := hb.1
  have hA := hb.2.1
  refine r_aload_n (p := 666) rfl rfl rfl ?_
  refine r_cV (p := 669) rfl rfl rfl (Nat.le_of_ble_eq_true rfl) rfl ((cs_promotionFailures).up (D' := 11) (by omega) 0 Y F M L _ hy H.1 (fun Y1 F1 M1 L1 B1 f1 g1 => ?_))
  have hE2 := g1.2.2.2.trans hE1
  refine r_aload_n (p := 670) rfl rfl rfl ?_
  refine r_cV (p := 673) rfl rfl rfl (Nat.le_of_ble_eq_true rfl) rfl ((rs_promotionFailures).up (D' := 11) (by omega) 0 Y1 F1 M1 L1 _ (H.2.1.fr f1) (fun F2 M2 L2 R2 f2 => ?_))
  refine r_icmp_eq (p := 676) rfl rfl (fun c1 => ?_) (fun c1 => ?_)
  · exact hQ _ _ _ _ _ (H.nx (B1.fr f2) R2 (hb.up (by omega)) g1)
  · refine r_iconst (v := 0) (p := 677) rfl rfl rfl ?_
    exact absurd rfl c1
set_option maxRecDepth 100000 in
theorem law_majorCount {E : mN} {j : Nat} {Y : mY} {F : mF} {M : mM} {L : mL} {b : mBs} {Q : Option Value → mW → Prop} (H : LI E j Y F M b) (hE : E.1 ≤ 2048) (hj : 4 * j + 4 ≤ E.1) (hQ : ∀ Y' F' M' L' b', LI E (j + 1) Y' F' M' b' → Wp 11 tL_law 823 [some (.ref 1000300), some (.ref 0), some (.ref 34), some (.int (nI (4 * j)))] [] (mXY Y', F', M', L') Q) : Wp 11 tL_law 678 [some (.ref 1000300), some (.ref 0), some (.ref 34), some (.int (nI (4 * j)))] [] (mXY Y, F, M, L) Q := by
  have hy := H.y (by omega)
  have hE1 := H.2.2.2.1
  have hb := H.2.2.1
  have hI := hb.1
  have hA := hb.2.1
  refine r_aload_n (p := 679) rfl rfl rfl ?_
  refine r_cV (p := 682) rfl rfl rfl (Nat.le_of_ble_eq_true rfl) rfl ((cs_majorCount).up (D' := 11) (by omega) 0 Y F M L _ hy H.1 (fun Y1 F1 M1 L1 B1 f1 g1 => ?_))
  have hE2 := g1.2.2.2.trans hE1
  refine r_aload_n (p := 683) rfl rfl rfl ?_
  refine r_cV (p := 686) rfl rfl rfl (Nat.le_of_ble_eq_true rfl) rfl ((rs_majorCount).up (D' := 11) (by omega) 0 Y1 F1 M1 L1 _ (H.2.1.fr f1) (fun F2 M2 L2 R2 f2 => ?_))
  refine r_icmp_eq (p := 689) rfl rfl (fun c1 => ?_) (fun c1 => ?_)
  · exact hQ _ _ _ _ _ (H.nx (B1.fr f2) R2 (hb.up (by omega)) g1)
  · refine r_iconst (v := 0) (p := 690) rfl rfl rfl ?_
    exact absurd rfl c1
set_option maxRecDepth 100000 in
theorem law_describe {E : mN} {j : Nat} {Y : mY} {F : mF} {M : mM} {L : mL} {b : mBs} {Q : Option Value → mW → Prop} (H : LI E j Y F M b) (hE : E.1 ≤ 2048) (hj : 4 * j + 4 ≤ E.1) (hQ : ∀ Y' F' M' L' b', LI E (j + 1) Y' F' M' b' → Wp 11 tL_law 823 [some (.ref 1000300), some (.ref 0), some (.ref 34), some (.int (nI (4 * j)))] [] (mXY Y', F', M', L') Q) : Wp 11 tL_law 691 [some (.ref 1000300), some (.ref 0), some (.ref 34), some (.int (nI (4 * j)))] [] (mXY Y, F, M, L) Q := by
  have hy := H.y (by omega)
  have hE1 := H.2.2.2.1
  have hb := H.2.2.1
  have hI := hb.1
  have hA := hb.2.1
  refine r_aload_n (p := 692) rfl rfl rfl ?_
  refine r_aload_n (p := 693) rfl rfl rfl ?_
  refine r_iload_n (p := 694) rfl rfl rfl ?_
  refine r_iconst (v := 1) (p := 695) rfl rfl rfl ?_
  refine r_iadd (p := 696) rfl rfl ?_
  refine r_scr hE1 (sv (c := 1) (by omega) (by omega)) (p := 697) rfl rfl ?_
  refine r_cV (p := 700) rfl rfl rfl (Nat.le_of_ble_eq_true rfl) rfl ((cs_describe hI hA (by omega)).up (D' := 11) (by omega) 0 Y F M L _ hy H.1 (fun Y1 F1 M1 L1 B1 f1 g1 => ?_))
  have hE2 := g1.2.2.2.trans hE1
  refine r_aload_n (p := 701) rfl rfl rfl ?_
  refine r_aload_n (p := 702) rfl rfl rfl ?_
  refine r_iload_n (p := 703) rfl rfl rfl ?_
  refine r_iconst (v := 1) (p := 704) rfl rfl rfl ?_
  refine r_iadd (p := 705) rfl rfl ?_
  refine r_scr hE2 (sv (c := 1) (by omega) (by omega)) (p := 706) rfl rfl ?_
  refine r_cV (p := 709) rfl rfl rfl (Nat.le_of_ble_eq_true rfl) rfl ((rs_describe hI hA (by omega)).up (D' := 11) (by omega) 0 Y1 F1 M1 L1 _ (H.2.1.fr f1) (fun F2 M2 L2 R2 f2 => ?_))
  refine r_icmp_eq (p := 712) rfl rfl (fun c1 => ?_) (fun c1 => ?_)
  · exact hQ _ _ _ _ _ (H.nx (B1.fr f2) R2 ((bi_describe hb).up (by omega)) g1)
  · refine r_iconst (v := 0) (p := 713) rfl rfl rfl ?_
    exact absurd rfl c1
set_option maxRecDepth 100000 in
theorem law_outputByte {E : mN} {j : Nat} {Y : mY} {F : mF} {M : mM} {L : mL} {b : mBs} {Q : Option Value → mW → Prop} (H : LI E j Y F M b) (hE : E.1 ≤ 2048) (hj : 4 * j + 4 ≤ E.1) (hQ : ∀ Y' F' M' L' b', LI E (j + 1) Y' F' M' b' → Wp 11 tL_law 823 [some (.ref 1000300), some (.ref 0), some (.ref 34), some (.int (nI (4 * j)))] [] (mXY Y', F', M', L') Q) : Wp 11 tL_law 714 [some (.ref 1000300), some (.ref 0), some (.ref 34), some (.int (nI (4 * j)))] [] (mXY Y, F, M, L) Q := by
  have hy := H.y (by omega)
  have hE1 := H.2.2.2.1
  have hb := H.2.2.1
  have hI := hb.1
  have hA := hb.2.1
  refine r_aload_n (p := 715) rfl rfl rfl ?_
  refine r_aload_n (p := 716) rfl rfl rfl ?_
  refine r_iload_n (p := 717) rfl rfl rfl ?_
  refine r_iconst (v := 1) (p := 718) rfl rfl rfl ?_
  refine r_iadd (p := 719) rfl rfl ?_
  refine r_scr hE1 (sv (c := 1) (by omega) (by omega)) (p := 720) rfl rfl ?_
  refine r_cV (p := 723) rfl rfl rfl (Nat.le_of_ble_eq_true rfl) rfl ((cs_outputByte hb.2.2.2.2.1 hb.2.2.2.2.2).up (D' := 11) (by omega) 0 Y F M L _ hy H.1 (fun Y1 F1 M1 L1 B1 f1 g1 => ?_))
  have hE2 := g1.2.2.2.trans hE1
  refine r_aload_n (p := 724) rfl rfl rfl ?_
  refine r_aload_n (p := 725) rfl rfl rfl ?_
  refine r_iload_n (p := 726) rfl rfl rfl ?_
  refine r_iconst (v := 1) (p := 727) rfl rfl rfl ?_
  refine r_iadd (p := 728) rfl rfl ?_
  refine r_scr hE2 (sv (c := 1) (by omega) (by omega)) (p := 729) rfl rfl ?_
  refine r_cV (p := 732) rfl rfl rfl (Nat.le_of_ble_eq_true rfl) rfl ((rs_outputByte hb.2.2.2.2.1).up (D' := 11) (by omega) 0 Y1 F1 M1 L1 _ (H.2.1.fr f1) (fun F2 M2 L2 R2 f2 => ?_))
  refine r_icmp_eq (p := 735) rfl rfl (fun c1 => ?_) (fun c1 => ?_)
  · exact hQ _ _ _ _ _ (H.nx (B1.fr f2) R2 ((bi_at hb).up (by omega)) g1)
  · refine r_iconst (v := 0) (p := 736) rfl rfl rfl ?_
    exact absurd rfl c1
set_option maxRecDepth 100000 in
theorem law_append {E : mN} {j : Nat} {Y : mY} {F : mF} {M : mM} {L : mL} {b : mBs} {Q : Option Value → mW → Prop} (H : LI E j Y F M b) (hE : E.1 ≤ 2048) (hj : 4 * j + 4 ≤ E.1) (hQ : ∀ Y' F' M' L' b', LI E (j + 1) Y' F' M' b' → Wp 11 tL_law 823 [some (.ref 1000300), some (.ref 0), some (.ref 34), some (.int (nI (4 * j)))] [] (mXY Y', F', M', L') Q) : Wp 11 tL_law 737 [some (.ref 1000300), some (.ref 0), some (.ref 34), some (.int (nI (4 * j)))] [] (mXY Y, F, M, L) Q := by
  have hy := H.y (by omega)
  have hE1 := H.2.2.2.1
  have hb := H.2.2.1
  have hI := hb.1
  have hA := hb.2.1
  refine r_aload_n (p := 738) rfl rfl rfl ?_
  refine r_aload_n (p := 739) rfl rfl rfl ?_
  refine r_iload_n (p := 740) rfl rfl rfl ?_
  refine r_iconst (v := 1) (p := 741) rfl rfl rfl ?_
  refine r_iadd (p := 742) rfl rfl ?_
  refine r_scr hE1 (sv (c := 1) (by omega) (by omega)) (p := 743) rfl rfl ?_
  refine r_cV (p := 746) rfl rfl rfl (Nat.le_of_ble_eq_true rfl) rfl ((cs_append hb.2.2.1).up (D' := 11) (by omega) 0 Y F M L _ hy H.1 (fun Y1 F1 M1 L1 B1 f1 g1 => ?_))
  have hE2 := g1.2.2.2.trans hE1
  refine r_aload_n (p := 747) rfl rfl rfl ?_
  refine r_aload_n (p := 748) rfl rfl rfl ?_
  refine r_iload_n (p := 749) rfl rfl rfl ?_
  refine r_iconst (v := 1) (p := 750) rfl rfl rfl ?_
  refine r_iadd (p := 751) rfl rfl ?_
  refine r_scr hE2 (sv (c := 1) (by omega) (by omega)) (p := 752) rfl rfl ?_
  refine r_cV (p := 755) rfl rfl rfl (Nat.le_of_ble_eq_true rfl) rfl ((rs_append hb.2.2.1).up (D' := 11) (by omega) 0 Y1 F1 M1 L1 _ (H.2.1.fr f1) (fun F2 M2 L2 R2 f2 => ?_))
  refine r_icmp_eq (p := 758) rfl rfl (fun c1 => ?_) (fun c1 => ?_)
  · exact hQ _ _ _ _ _ (H.nx (B1.fr f2) R2 ((bi_append hb).up (by omega)) g1)
  · refine r_iconst (v := 0) (p := 759) rfl rfl rfl ?_
    exact absurd rfl c1
set_option maxRecDepth 100000 in
theorem law_clearText {E : mN} {j : Nat} {Y : mY} {F : mF} {M : mM} {L : mL} {b : mBs} {Q : Option Value → mW → Prop} (H : LI E j Y F M b) (hE : E.1 ≤ 2048) (hj : 4 * j + 4 ≤ E.1) (hQ : ∀ Y' F' M' L' b', LI E (j + 1) Y' F' M' b' → Wp 11 tL_law 823 [some (.ref 1000300), some (.ref 0), some (.ref 34), some (.int (nI (4 * j)))] [] (mXY Y', F', M', L') Q) : Wp 11 tL_law 760 [some (.ref 1000300), some (.ref 0), some (.ref 34), some (.int (nI (4 * j)))] [] (mXY Y, F, M, L) Q := by
  have hy := H.y (by omega)
  have hE1 := H.2.2.2.1
  have hb := H.2.2.1
  have hI := hb.1
  have hA := hb.2.1
  refine r_aload_n (p := 761) rfl rfl rfl ?_
  refine r_cV (p := 764) rfl rfl rfl (Nat.le_of_ble_eq_true rfl) rfl ((cs_clearText).up (D' := 11) (by omega) 0 Y F M L _ hy H.1 (fun Y1 F1 M1 L1 B1 f1 g1 => ?_))
  have hE2 := g1.2.2.2.trans hE1
  refine r_aload_n (p := 765) rfl rfl rfl ?_
  refine r_cV (p := 768) rfl rfl rfl (Nat.le_of_ble_eq_true rfl) rfl ((rs_clearText).up (D' := 11) (by omega) 0 Y1 F1 M1 L1 _ (H.2.1.fr f1) (fun F2 M2 L2 R2 f2 => ?_))
  refine r_icmp_eq (p := 771) rfl rfl (fun c1 => ?_) (fun c1 => ?_)
  · exact hQ _ _ _ _ _ (H.nx (B1.fr f2) R2 ((bi_clearText hb).up (by omega)) g1)
  · refine r_iconst (v := 0) (p := 772) rfl rfl rfl ?_
    exact absurd rfl c1
set_option maxRecDepth 100000 in
theorem law_runScript {E : mN} {j : Nat} {Y : mY} {F : mF} {M : mM} {L : mL} {b : mBs} {Q : Option Value → mW → Prop} (H : LI E j Y F M b) (hE : E.1 ≤ 2048) (hj : 4 * j + 4 ≤ E.1) (hQ : ∀ Y' F' M' L' b', LI E (j + 1) Y' F' M' b' → Wp 11 tL_law 823 [some (.ref 1000300), some (.ref 0), some (.ref 34), some (.int (nI (4 * j)))] [] (mXY Y', F', M', L') Q) : Wp 11 tL_law 773 [some (.ref 1000300), some (.ref 0), some (.ref 34), some (.int (nI (4 * j)))] [] (mXY Y, F, M, L) Q := by
  have hy := H.y (by omega)
  have hE1 := H.2.2.2.1
  have hb := H.2.2.1
  have hI := hb.1
  have hA := hb.2.1
  refine r_aload_n (p := 774) rfl rfl rfl ?_
  refine r_cV (p := 777) rfl rfl rfl (Nat.le_of_ble_eq_true rfl) rfl ((cs_runScript hI hb.2.2.1).up (D' := 11) (by omega) 0 Y F M L _ hy H.1 (fun Y1 F1 M1 L1 B1 f1 g1 => ?_))
  have hE2 := g1.2.2.2.trans hE1
  refine r_aload_n (p := 778) rfl rfl rfl ?_
  refine r_cV (p := 781) rfl rfl rfl (Nat.le_of_ble_eq_true rfl) rfl ((rs_runScript hI hb.2.2.1 hb.2.2.2.1).up (D' := 11) (by omega) 0 Y1 F1 M1 L1 _ (H.2.1.fr f1) (fun F2 M2 L2 R2 f2 => ?_))
  refine r_icmp_eq (p := 784) rfl rfl (fun c1 => ?_) (fun c1 => ?_)
  · exact hQ _ _ _ _ _ (H.nx (B1.fr f2) R2 (bi_runScript hb) g1)
  · refine r_iconst (v := 0) (p := 785) rfl rfl rfl ?_
    exact absurd rfl c1
set_option maxRecDepth 100000 in
theorem law_errorCount {E : mN} {j : Nat} {Y : mY} {F : mF} {M : mM} {L : mL} {b : mBs} {Q : Option Value → mW → Prop} (H : LI E j Y F M b) (hE : E.1 ≤ 2048) (hj : 4 * j + 4 ≤ E.1) (hQ : ∀ Y' F' M' L' b', LI E (j + 1) Y' F' M' b' → Wp 11 tL_law 823 [some (.ref 1000300), some (.ref 0), some (.ref 34), some (.int (nI (4 * j)))] [] (mXY Y', F', M', L') Q) : Wp 11 tL_law 786 [some (.ref 1000300), some (.ref 0), some (.ref 34), some (.int (nI (4 * j)))] [] (mXY Y, F, M, L) Q := by
  have hy := H.y (by omega)
  have hE1 := H.2.2.2.1
  have hb := H.2.2.1
  have hI := hb.1
  have hA := hb.2.1
  refine r_aload_n (p := 787) rfl rfl rfl ?_
  refine r_aload_n (p := 788) rfl rfl rfl ?_
  refine r_iload_n (p := 789) rfl rfl rfl ?_
  refine r_iconst (v := 1) (p := 790) rfl rfl rfl ?_
  refine r_iadd (p := 791) rfl rfl ?_
  refine r_scr hE1 (sv (c := 1) (by omega) (by omega)) (p := 792) rfl rfl ?_
  refine r_cV (p := 795) rfl rfl rfl (Nat.le_of_ble_eq_true rfl) rfl ((cs_errorCount).up (D' := 11) (by omega) 0 Y F M L _ hy H.1 (fun Y1 F1 M1 L1 B1 f1 g1 => ?_))
  have hE2 := g1.2.2.2.trans hE1
  refine r_aload_n (p := 796) rfl rfl rfl ?_
  refine r_aload_n (p := 797) rfl rfl rfl ?_
  refine r_iload_n (p := 798) rfl rfl rfl ?_
  refine r_iconst (v := 1) (p := 799) rfl rfl rfl ?_
  refine r_iadd (p := 800) rfl rfl ?_
  refine r_scr hE2 (sv (c := 1) (by omega) (by omega)) (p := 801) rfl rfl ?_
  refine r_cV (p := 804) rfl rfl rfl (Nat.le_of_ble_eq_true rfl) rfl ((rs_errorCount).up (D' := 11) (by omega) 0 Y1 F1 M1 L1 _ (H.2.1.fr f1) (fun F2 M2 L2 R2 f2 => ?_))
  refine r_icmp_eq (p := 807) rfl rfl (fun c1 => ?_) (fun c1 => ?_)
  · exact hQ _ _ _ _ _ (H.nx (B1.fr f2) R2 ((bi_errorCount hb).up (by omega)) g1)
  · refine r_iconst (v := 0) (p := 808) rfl rfl rfl ?_
    exact absurd rfl c1
set_option maxRecDepth 100000 in
theorem law_digest {E : mN} {j : Nat} {Y : mY} {F : mF} {M : mM} {L : mL} {b : mBs} {Q : Option Value → mW → Prop} (H : LI E j Y F M b) (hE : E.1 ≤ 2048) (hj : 4 * j + 4 ≤ E.1) (hQ : ∀ Y' F' M' L' b', LI E (j + 1) Y' F' M' b' → Wp 11 tL_law 823 [some (.ref 1000300), some (.ref 0), some (.ref 34), some (.int (nI (4 * j)))] [] (mXY Y', F', M', L') Q) : Wp 11 tL_law 809 [some (.ref 1000300), some (.ref 0), some (.ref 34), some (.int (nI (4 * j)))] [] (mXY Y, F, M, L) Q := by
  have hy := H.y (by omega)
  have hE1 := H.2.2.2.1
  have hb := H.2.2.1
  have hI := hb.1
  have hA := hb.2.1
  refine r_aload_n (p := 810) rfl rfl rfl ?_
  refine r_cV (p := 813) rfl rfl rfl (Nat.le_of_ble_eq_true rfl) rfl ((cs_digest hI (by have := hb.2.2.2.2.1; omega)).up (D' := 11) (by omega) 0 Y F M L _ hy H.1 (fun Y1 F1 M1 L1 B1 f1 g1 => ?_))
  have hE2 := g1.2.2.2.trans hE1
  refine r_aload_n (p := 814) rfl rfl rfl ?_
  refine r_cV (p := 817) rfl rfl rfl (Nat.le_of_ble_eq_true rfl) rfl ((rs_digest hI).up (D' := 11) (by omega) 0 Y1 F1 M1 L1 _ (H.2.1.fr f1) (fun F2 M2 L2 R2 f2 => ?_))
  refine r_lcmp (p := 818) rfl rfl ?_
  rw [lcmp_rf]
  refine r_if_eq (p := 821) rfl rfl (fun _ => ?_) (fun c => absurd rfl c)
  exact hQ _ _ _ _ _ (H.nx (B1.fr f2) R2 (hb.up (by omega)) g1)
set_option maxRecDepth 100000 in
theorem lp_law {E : mN} {Q : Option Value → mW → Prop} (hE : E.1 ≤ 2048) (hQ : ∀ Y F M L, Y.1 ≤ 600000 → Y.2.1 ≤ 7302250 → Q (some (.int 1)) (mXY Y, F, M, L)) :
    ∀ (n j : Nat) (Y : mY) (F : mF) (M : mM) (L : mL) (b : mBs), j + n = 512 → LI E j Y F M b → Wp 11 tL_law 18 [some (.ref 1000300), some (.ref 0), some (.ref 34), some (.int (nI (4 * j)))] [] (mXY Y, F, M, L) Q
  | 0, j, Y, F, M, L, b, hj, H => by
    have hE1 := H.2.2.2.1
    refine r_iload_n (p := 19) rfl rfl rfl ?_
    refine r_aload_n (p := 20) rfl rfl rfl ?_
    refine r_sln hE1 (p := 21) rfl rfl ?_
    refine r_iconst (v := 4) (p := 22) rfl rfl rfl ?_
    refine r_isub (p := 23) rfl rfl ?_
    refine r_icmp_gt (p := 26) rfl rfl (fun c1 => ?_) (fun c1 => ?_)
    · refine r_iconst (v := 1) (p := 830) rfl rfl rfl ?_
      exact r_ireturn rfl mok_1 (hQ _ _ _ _ (by have := H.2.2.2.2.2.1; omega) (by have := H.2.2.2.2.2.2.1; omega))
    · exact absurd ((law_gt hE (by omega)).mpr (by omega)) c1
  | n + 1, j, Y, F, M, L, b, hj, H => by
    have hE1 := H.2.2.2.1
    refine r_iload_n (p := 19) rfl rfl rfl ?_
    refine r_aload_n (p := 20) rfl rfl rfl ?_
    refine r_sln hE1 (p := 21) rfl rfl ?_
    refine r_iconst (v := 4) (p := 22) rfl rfl rfl ?_
    refine r_isub (p := 23) rfl rfl ?_
    refine r_icmp_gt (p := 26) rfl rfl (fun c1 => ?_) (fun c1 => ?_)
    · refine r_iconst (v := 1) (p := 830) rfl rfl rfl ?_
      exact r_ireturn rfl mok_1 (hQ _ _ _ _ (by have := H.2.2.2.2.2.1; omega) (by have := H.2.2.2.2.2.2.1; omega))
    · have hj4 : 4 * j + 4 ≤ E.1 := Nat.le_of_not_lt fun q => c1 ((law_gt hE (by omega)).mpr q)
      have ih := fun Y' F' M' L' b' (H' : LI E (j + 1) Y' F' M' b') => lp_law hE hQ n (j + 1) Y' F' M' L' b' (by omega) H'
      refine r_aload_n (p := 27) rfl rfl rfl ?_
      refine r_iload_n (p := 28) rfl rfl rfl ?_
      refine r_scr (i := nI (4 * j)) hE1 (vp_in_nI (show 4 * j < E.1 by omega) (by omega)) (p := 29) rfl rfl ?_
      refine r_bipush (v := 31) (p := 31) rfl rfl rfl ?_
      refine r_iand (p := 32) rfl rfl ?_
      have nx : ∀ Y' F' M' L' b', LI E (j + 1) Y' F' M' b' → Wp 11 tL_law 823 [some (.ref 1000300), some (.ref 0), some (.ref 34), some (.int (nI (4 * j)))] [] (mXY Y', F', M', L') Q := fun Y' F' M' L' b' H' => by
        refine r_iinc (v := nI (4 * (j + 1))) (p := 826) rfl rfl (show nI (4 * j) + 4 = nI (4 * (j + 1)) from (nI_add (4 * j) 4)) rfl rfl ?_
        refine r_goto rfl ?_
        exact ih Y' F' M' L' b' H'
      obtain ⟨m, hm, em⟩ := and31 (mroM E 1000300 (nI (4 * j)))
      rw [em]
      rcases (show m = 0 ∨ m = 1 ∨ m = 2 ∨ m = 3 ∨ m = 4 ∨ m = 5 ∨ m = 6 ∨ m = 7 ∨ m = 8 ∨ m = 9 ∨ m = 10 ∨ m = 11 ∨ m = 12 ∨ m = 13 ∨ m = 14 ∨ m = 15 ∨ m = 16 ∨ m = 17 ∨ m = 18 ∨ m = 19 ∨ m = 20 ∨ m = 21 ∨ m = 22 ∨ m = 23 ∨ m = 24 ∨ m = 25 ∨ m = 26 ∨ m = 27 ∨ m = 28 ∨ m = 29 ∨ m = 30 ∨ m = 31 by omega) with e | e | e | e | e | e | e | e | e | e | e | e | e | e | e | e | e | e | e | e | e | e | e | e | e | e | e | e | e | e | e | e <;> subst e
      · refine r_table (tgt := 176) rfl rfl ?_
        exact law_reset H hE hj4 nx
      · refine r_table (tgt := 219) rfl rfl ?_
        exact law_allocate H hE hj4 nx
      · refine r_table (tgt := 242) rfl rfl ?_
        exact law_write H hE hj4 nx
      · refine r_table (tgt := 285) rfl rfl ?_
        exact law_setRoot H hE hj4 nx
      · refine r_table (tgt := 318) rfl rfl ?_
        exact law_minorCollection H hE hj4 nx
      · refine r_table (tgt := 331) rfl rfl ?_
        exact law_startMajor H hE hj4 nx
      · refine r_table (tgt := 344) rfl rfl ?_
        exact law_stepMajor H hE hj4 nx
      · refine r_table (tgt := 367) rfl rfl ?_
        exact law_exists H hE hj4 nx
      · refine r_table (tgt := 390) rfl rfl ?_
        exact law_isOld H hE hj4 nx
      · refine r_table (tgt := 413) rfl rfl ?_
        exact law_age H hE hj4 nx
      · refine r_table (tgt := 436) rfl rfl ?_
        exact law_reference H hE hj4 nx
      · refine r_table (tgt := 469) rfl rfl ?_
        exact law_root H hE hj4 nx
      · refine r_table (tgt := 492) rfl rfl ?_
        exact law_colour H hE hj4 nx
      · refine r_table (tgt := 515) rfl rfl ?_
        exact law_reachableCount H hE hj4 nx
      · refine r_table (tgt := 528) rfl rfl ?_
        exact law_youngCount H hE hj4 nx
      · refine r_table (tgt := 541) rfl rfl ?_
        exact law_youngObject H hE hj4 nx
      · refine r_table (tgt := 564) rfl rfl ?_
        exact law_youngWords H hE hj4 nx
      · refine r_table (tgt := 577) rfl rfl ?_
        exact law_oldCount H hE hj4 nx
      · refine r_table (tgt := 590) rfl rfl ?_
        exact law_oldWords H hE hj4 nx
      · refine r_table (tgt := 603) rfl rfl ?_
        exact law_rememberedCount H hE hj4 nx
      · refine r_table (tgt := 616) rfl rfl ?_
        exact law_remembered H hE hj4 nx
      · refine r_table (tgt := 639) rfl rfl ?_
        exact law_phase H hE hj4 nx
      · refine r_table (tgt := 652) rfl rfl ?_
        exact law_greyCount H hE hj4 nx
      · refine r_table (tgt := 665) rfl rfl ?_
        exact law_promotionFailures H hE hj4 nx
      · refine r_table (tgt := 678) rfl rfl ?_
        exact law_majorCount H hE hj4 nx
      · refine r_table (tgt := 691) rfl rfl ?_
        exact law_describe H hE hj4 nx
      · refine r_table (tgt := 714) rfl rfl ?_
        exact law_outputByte H hE hj4 nx
      · refine r_table (tgt := 737) rfl rfl ?_
        exact law_append H hE hj4 nx
      · refine r_table (tgt := 760) rfl rfl ?_
        exact law_clearText H hE hj4 nx
      · refine r_table (tgt := 773) rfl rfl ?_
        exact law_runScript H hE hj4 nx
      · refine r_table (tgt := 786) rfl rfl ?_
        exact law_errorCount H hE hj4 nx
      · refine r_table (tgt := 809) rfl rfl ?_
        exact law_digest H hE hj4 nx
set_option maxRecDepth 100000 in
theorem law_all {E : mN} {kt : Nat → Nat × Nat} {F : mF} {M : mM} {L : mL} {Q : Option Value → mW → Prop} (hE : E.1 ≤ 2048) (hs : (∃ a, E.2.2 = .ref a) ∨ E.2.2 = .null) (hQ : ∀ Y F M L, Y.1 ≤ 600000 → Y.2.1 ≤ 7302250 → Q (some (.int 1)) (mXY Y, F, M, L)) : Wp 11 tL_law 0 [some (.ref 1000300), none, none, none] [] ((0, 0, mKb kt, R0, E), F, M, L) Q := by
  refine r_newK (m := 1) (s' := 7) rfl rfl (p := 3) rfl rfl rfl ?_
  refine r_dup (p := 4) rfl rfl rfl ?_
  refine r_cI (p := 7) rfl rfl (Nat.le_of_ble_eq_true rfl) rfl (s_X6_init (d := 7) (fun F1 M1 L1 B1 => ?_))
  refine r_astore_n (p := 8) rfl rfl rfl ?_
  show Wp 11 tL_law 8 _ _ ((34, 2318, mKb kt, R0, E), F1, M1, L1) Q
  refine r_newK (m := 35) (s' := 2356) rfl rfl (p := 11) rfl rfl rfl ?_
  refine r_dup (p := 12) rfl rfl rfl ?_
  refine r_cI (p := 15) rfl rfl (Nat.le_of_ble_eq_true rfl) rfl (s_X7_init (d := 9) B1 (fun F2 M2 L2 B2 R2 => ?_))
  refine r_astore_n (p := 16) rfl rfl rfl ?_
  refine r_iconst (v := 0) (p := 17) rfl rfl rfl ?_
  refine r_istore_n (p := 18) rfl rfl rfl ?_
  exact lp_law hE hQ 512 0 _ F2 M2 L2 b00 rfl ⟨B2, R2, bi_00, rfl, Nat.le_refl _, Nat.le_refl _, Nat.le_refl _, hs⟩
