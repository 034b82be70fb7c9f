set_option maxHeartbeats 4000000 in
set_option maxRecDepth 100000 in
theorem q_digest {w : Bool} {M : Mm} {n P cnt : Nat → Nat} {k : Nat} {W : Nat → Nat → Int32} {pv : Nat → Nat} {L R H : Nat} {z : Nat → Int32} {g : Nat} {q : Nat → Nat → Nat} (hI : RInv M (n, P, cnt, k, W, pv, L, R, H, z, g, q))  : CT mX8_digest [.ref 25] (shF w) M (Ql (spDigest (n, P, cnt, k, W, pv, L, R, H, z, g, q)).1 (shF w) (fun m0 => RInv m0 (spDigest (n, P, cnt, k, W, pv, L, R, H, z, g, q)).2 ∧ FrR M m0)) := by
  refine CT.mk (lv := [(0, .ref 25)]) rfl (by decide +kernel) (Nat.le_of_ble_eq_true rfl) ?_
  intro X C RT
  obtain ⟨hB, hCt, hF, hH, hG, hQ⟩ := id hI
  obtain ⟨hS, hT, hL, hL1, hL3⟩ := id hB
  have n0 := hS.2.1 0 (by decide)
  have n1 := hS.2.1 1 (by decide)
  have n2 := hS.2.1 2 (by decide)
  have hk12 := hT.2.1
  have lc : ∀ (M9 : Mm), RInv M9 (n, P, cnt, k, W, pv, L, R, H, z, g, q) → FrR M M9 → ∀ (i : Nat), i ≤ 8 → Wd X (0, 0) 210 [(0, .ref 25), (1, .long (mixA (fun i => (coi R H z g (nI i)).toInt64) (lN 31 * (mixT W pv (mixA (fun i => lN (cnt i)) (mixS n P (mixA (fun i => (spAll (n, P, cnt, k, W, pv, L, R, H, z, g, q) (nI i)).1) (lN 251) 4) 3) 8) k) + lN L) i)), (3, .int (nI i))] [] (shF w) M9 := by
    intro M9 hI hf i
    induction hq : 8 - i using Nat.strongRecOn generalizing M9 i with
    | ind k9 ih =>
      intro hi
      obtain ⟨hB, hCt, hF, hH, hG, hQ⟩ := id hI
      obtain ⟨hS, hT, hL, hL1, hL3⟩ := id hB
      have n0 := hS.2.1 0 (by decide)
      have n1 := hS.2.1 1 (by decide)
      have n2 := hS.2.1 2 (by decide)
      refine e_iload_n C dX8_digest_210 rfl rfl ?_
      refine e_bipush (v := (nI 8)) C dX8_digest_211 (by decide) ?_
      refine e_icmp_geN (tgt := 235) C dX8_digest_213 (by omega) (by omega) (by decide) (fun h213 => ?_) (fun h213 => ?_)
      · refine e_lload_n C dX8_digest_235 rfl rfl ?_
        exact e_lret C dX8_digest_236 RT ⟨Nat.zero_le _, Nat.zero_le _⟩ (rrl (by rw [show i = 8 by omega]; rfl) hI hf)
      · refine e_ldc2 (v := lN 31) C dX8_digest_216 kX8_230 ?_
        refine e_lload_n C dX8_digest_219 rfl rfl ?_
        refine e_lmul C dX8_digest_220 ?_
        refine e_aload_n C dX8_digest_221 rfl rfl ?_
        refine e_iload_n C dX8_digest_222 rfl rfl ?_
        refine e_callViQ C dX8_digest_223 [.int (nI i)] (q_coins hI (nI i)) okX8_coins lX8_236 rfl rfl rfl ⟨rfl, rfl⟩ ⟨Nat.le_of_ble_eq_true rfl, Nat.le_of_ble_eq_true rfl⟩ (Nat.le_of_ble_eq_true rfl) ⟨Nat.zero_le _, Nat.zero_le _⟩ (fun M1 hM1 => ?_)
        refine e_i2l C dX8_digest_226 ?_
        refine e_ladd C dX8_digest_227 ?_
        refine e_lstore_n (lv2 := [(1, .long (((lN 31) * (mixA (fun i => (coi R H z g (nI i)).toInt64) (lN 31 * (mixT W pv (mixA (fun i => lN (cnt i)) (mixS n P (mixA (fun i => (spAll (n, P, cnt, k, W, pv, L, R, H, z, g, q) (nI i)).1) (lN 251) 4) 3) 8) k) + lN L) i)) + (((spCoins (n, P, cnt, k, W, pv, L, R, H, z, g, q) (nI i)).1).toInt64))), (0, .ref 25), (3, .int (nI i))]) C dX8_digest_228 rfl (by decide) rfl ?_
        refine e_iincN (lv2 := [(3, .int (nI (i + 1))), (1, .long (((lN 31) * (mixA (fun i => (coi R H z g (nI i)).toInt64) (lN 31 * (mixT W pv (mixA (fun i => lN (cnt i)) (mixS n P (mixA (fun i => (spAll (n, P, cnt, k, W, pv, L, R, H, z, g, q) (nI i)).1) (lN 251) 4) 3) 8) k) + lN L) i)) + (((spCoins (n, P, cnt, k, W, pv, L, R, H, z, g, q) (nI i)).1).toInt64))), (0, .ref 25)]) C dX8_digest_229 rfl (by decide) (nI_1 _) rfl ?_
        refine e_goto (tgt := 210) C dX8_digest_232 (by decide) ?_
        refine e_loc [2, 1, 0] rfl ?_
        exact ih (8 - (i + 1)) (by omega) M1 hM1.1 (hf.tr hM1.2) (i + 1) rfl (by omega)
  have lt : ∀ (M9 : Mm), RInv M9 (n, P, cnt, k, W, pv, L, R, H, z, g, q) → FrR M M9 → ∀ (i : Nat), i ≤ k → Wd X (0, 0) 126 [(0, .ref 25), (1, .long (mixT W pv (mixA (fun i => lN (cnt i)) (mixS n P (mixA (fun i => (spAll (n, P, cnt, k, W, pv, L, R, H, z, g, q) (nI i)).1) (lN 251) 4) 3) 8) i)), (3, .int (nI i))] [] (shF w) M9 := by
    intro M9 hI hf i
    induction hq : k - i using Nat.strongRecOn generalizing M9 i with
    | ind k9 ih =>
      intro hi
      obtain ⟨hB, hCt, hF, hH, hG, hQ⟩ := id hI
      obtain ⟨hS, hT, hL, hL1, hL3⟩ := id hB
      have n0 := hS.2.1 0 (by decide)
      have n1 := hS.2.1 1 (by decide)
      have n2 := hS.2.1 2 (by decide)
      refine e_iload_n C dX8_digest_126 rfl rfl ?_
      refine e_aload_n C dX8_digest_127 rfl rfl ?_
      refine e_getI C dX8_digest_128 fX8_110 rfl rfl ?_
      refine e_topi (nI k) hT.1 ?_
      refine e_icmp_geN (tgt := 196) C dX8_digest_131 (by omega) (by omega) (by decide) (fun h131 => ?_) (fun h131 => ?_)
      · have hik : k = i := by omega
        subst hik
        refine e_ldc2 (v := lN 31) C dX8_digest_196 kX8_230 ?_
        refine e_lload_n C dX8_digest_199 rfl rfl ?_
        refine e_lmul C dX8_digest_200 ?_
        refine e_aload_n C dX8_digest_201 rfl rfl ?_
        refine e_getI C dX8_digest_202 fX8_31 rfl rfl ?_
        refine e_topi (nI L) hL ?_
        refine e_i2lN C dX8_digest_205 (by omega) ?_
        refine e_ladd C dX8_digest_206 ?_
        refine e_lstore_n (lv2 := [(1, .long (((lN 31) * (mixT W pv (mixA (fun i => lN (cnt i)) (mixS n P (mixA (fun i => (spAll (n, P, cnt, k, W, pv, L, R, H, z, g, q) (nI i)).1) (lN 251) 4) 3) 8) k)) + (lN L))), (0, .ref 25), (3, .int (nI k))]) C dX8_digest_207 rfl (by decide) rfl ?_
        refine e_iconst (v := (nI 0)) C dX8_digest_208 (by decide) ?_
        refine e_istore_n (lv2 := [(3, .int (nI 0)), (1, .long (((lN 31) * (mixT W pv (mixA (fun i => lN (cnt i)) (mixS n P (mixA (fun i => (spAll (n, P, cnt, k, W, pv, L, R, H, z, g, q) (nI i)).1) (lN 251) 4) 3) 8) k)) + (lN L))), (0, .ref 25)]) C dX8_digest_209 rfl (by decide) rfl ?_
        refine e_loc [2, 1, 0] rfl ?_
        exact lc M9 hI hf 0 (by omega)
      · refine e_ldc2 (v := lN 31) C dX8_digest_134 kX8_230 ?_
        refine e_lload_n C dX8_digest_137 rfl rfl ?_
        refine e_lmul C dX8_digest_138 ?_
        refine e_aload_n C dX8_digest_139 rfl rfl ?_
        refine e_getR (q := 29) C dX8_digest_140 fX8_19 rfl rfl ?_
        refine e_iload_n C dX8_digest_143 rfl rfl ?_
        refine e_ialoadN C dX8_digest_144 rfl (by omega) (by omega) ?_
        refine e_topi (W i 0) (hT.2.2.1 i (by omega)).1 ?_
        refine e_i2l C dX8_digest_145 ?_
        refine e_ladd C dX8_digest_146 ?_
        refine e_lstore_n (lv2 := [(1, .long (((lN 31) * (mixT W pv (mixA (fun i => lN (cnt i)) (mixS n P (mixA (fun i => (spAll (n, P, cnt, k, W, pv, L, R, H, z, g, q) (nI i)).1) (lN 251) 4) 3) 8) i)) + ((W i 0).toInt64))), (0, .ref 25), (3, .int (nI i))]) C dX8_digest_147 rfl (by decide) rfl ?_
        refine e_ldc2 (v := lN 31) C dX8_digest_148 kX8_230 ?_
        refine e_lload_n C dX8_digest_151 rfl rfl ?_
        refine e_lmul C dX8_digest_152 ?_
        refine e_aload_n C dX8_digest_153 rfl rfl ?_
        refine e_getR (q := 30) C dX8_digest_154 fX8_22 rfl rfl ?_
        refine e_iload_n C dX8_digest_157 rfl rfl ?_
        refine e_ialoadN C dX8_digest_158 rfl (by omega) (by omega) ?_
        refine e_topi (W i 1) (hT.2.2.1 i (by omega)).2.1 ?_
        refine e_i2l C dX8_digest_159 ?_
        refine e_ladd C dX8_digest_160 ?_
        refine e_lstore_n (lv2 := [(1, .long (((lN 31) * (((lN 31) * (mixT W pv (mixA (fun i => lN (cnt i)) (mixS n P (mixA (fun i => (spAll (n, P, cnt, k, W, pv, L, R, H, z, g, q) (nI i)).1) (lN 251) 4) 3) 8) i)) + ((W i 0).toInt64))) + ((W i 1).toInt64))), (0, .ref 25), (3, .int (nI i))]) C dX8_digest_161 rfl (by decide) rfl ?_
        refine e_ldc2 (v := lN 31) C dX8_digest_162 kX8_230 ?_
        refine e_lload_n C dX8_digest_165 rfl rfl ?_
        refine e_lmul C dX8_digest_166 ?_
        refine e_aload_n C dX8_digest_167 rfl rfl ?_
        refine e_getR (q := 31) C dX8_digest_168 fX8_25 rfl rfl ?_
        refine e_iload_n C dX8_digest_171 rfl rfl ?_
        refine e_ialoadN C dX8_digest_172 rfl (by omega) (by omega) ?_
        refine e_topi (W i 2) (hT.2.2.1 i (by omega)).2.2.1 ?_
        refine e_i2l C dX8_digest_173 ?_
        refine e_ladd C dX8_digest_174 ?_
        refine e_lstore_n (lv2 := [(1, .long (((lN 31) * (((lN 31) * (((lN 31) * (mixT W pv (mixA (fun i => lN (cnt i)) (mixS n P (mixA (fun i => (spAll (n, P, cnt, k, W, pv, L, R, H, z, g, q) (nI i)).1) (lN 251) 4) 3) 8) i)) + ((W i 0).toInt64))) + ((W i 1).toInt64))) + ((W i 2).toInt64))), (0, .ref 25), (3, .int (nI i))]) C dX8_digest_175 rfl (by decide) rfl ?_
        refine e_ldc2 (v := lN 31) C dX8_digest_176 kX8_230 ?_
        refine e_lload_n C dX8_digest_179 rfl rfl ?_
        refine e_lmul C dX8_digest_180 ?_
        refine e_aload_n C dX8_digest_181 rfl rfl ?_
        refine e_getR (q := 32) C dX8_digest_182 fX8_28 rfl rfl ?_
        refine e_iload_n C dX8_digest_185 rfl rfl ?_
        refine e_ialoadN C dX8_digest_186 rfl (by omega) (by omega) ?_
        refine e_topi (nI (pv i)) (hT.2.2.1 i (by omega)).2.2.2 ?_
        have hv9 := hT.2.2.2.1 i (by omega)
        refine e_i2lN C dX8_digest_187 (by omega) ?_
        refine e_ladd C dX8_digest_188 ?_
        refine e_lstore_n (lv2 := [(1, .long (((lN 31) * (((lN 31) * (((lN 31) * (((lN 31) * (mixT W pv (mixA (fun i => lN (cnt i)) (mixS n P (mixA (fun i => (spAll (n, P, cnt, k, W, pv, L, R, H, z, g, q) (nI i)).1) (lN 251) 4) 3) 8) i)) + ((W i 0).toInt64))) + ((W i 1).toInt64))) + ((W i 2).toInt64))) + (lN (pv i)))), (0, .ref 25), (3, .int (nI i))]) C dX8_digest_189 rfl (by decide) rfl ?_
        refine e_iincN (lv2 := [(3, .int (nI (i + 1))), (1, .long (((lN 31) * (((lN 31) * (((lN 31) * (((lN 31) * (mixT W pv (mixA (fun i => lN (cnt i)) (mixS n P (mixA (fun i => (spAll (n, P, cnt, k, W, pv, L, R, H, z, g, q) (nI i)).1) (lN 251) 4) 3) 8) i)) + ((W i 0).toInt64))) + ((W i 1).toInt64))) + ((W i 2).toInt64))) + (lN (pv i)))), (0, .ref 25)]) C dX8_digest_190 rfl (by decide) (nI_1 _) rfl ?_
        refine e_goto (tgt := 126) C dX8_digest_193 (by decide) ?_
        refine e_loc [2, 1, 0] rfl ?_
        exact ih (k - (i + 1)) (by omega) M9 hI hf (i + 1) rfl (by omega)
  have lb : ∀ (M9 : Mm), RInv M9 (n, P, cnt, k, W, pv, L, R, H, z, g, q) → FrR M M9 → ∀ (i : Nat), i ≤ 8 → Wd X (0, 0) 98 [(0, .ref 25), (1, .long (mixA (fun i => lN (cnt i)) (mixS n P (mixA (fun i => (spAll (n, P, cnt, k, W, pv, L, R, H, z, g, q) (nI i)).1) (lN 251) 4) 3) i)), (3, .int (nI i))] [] (shF w) M9 := by
    intro M9 hI hf i
    induction hq : 8 - i using Nat.strongRecOn generalizing M9 i with
    | ind k9 ih =>
      intro hi
      obtain ⟨hB, hCt, hF, hH, hG, hQ⟩ := id hI
      obtain ⟨hS, hT, hL, hL1, hL3⟩ := id hB
      have n0 := hS.2.1 0 (by decide)
      have n1 := hS.2.1 1 (by decide)
      have n2 := hS.2.1 2 (by decide)
      refine e_iload_n C dX8_digest_98 rfl rfl ?_
      refine e_bipush (v := (nI 8)) C dX8_digest_99 (by decide) ?_
      refine e_icmp_geN (tgt := 124) C dX8_digest_101 (by omega) (by omega) (by decide) (fun h101 => ?_) (fun h101 => ?_)
      · have hi8 : i = 8 := by omega
        subst hi8
        refine e_iconst (v := (nI 0)) C dX8_digest_124 (by decide) ?_
        refine e_istore_n (lv2 := [(3, .int (nI 0)), (0, .ref 25), (1, .long (mixA (fun i => lN (cnt i)) (mixS n P (mixA (fun i => (spAll (n, P, cnt, k, W, pv, L, R, H, z, g, q) (nI i)).1) (lN 251) 4) 3) 8))]) C dX8_digest_125 rfl (by decide) rfl ?_
        refine e_loc [1, 2, 0] rfl ?_
        exact lt M9 hI hf 0 (by omega)
      · refine e_ldc2 (v := lN 31) C dX8_digest_104 kX8_230 ?_
        refine e_lload_n C dX8_digest_107 rfl rfl ?_
        refine e_lmul C dX8_digest_108 ?_
        refine e_aload_n C dX8_digest_109 rfl rfl ?_
        refine e_getR (q := 28) C dX8_digest_110 fX8_16 rfl rfl ?_
        refine e_iload_n C dX8_digest_113 rfl rfl ?_
        refine e_ialoadN C dX8_digest_114 rfl (by omega) (by omega) ?_
        refine e_topi (nI (cnt i)) (hCt i (by omega)).1 ?_
        have hc20 := (hCt i (by omega)).2
        refine e_i2lN C dX8_digest_115 (by omega) ?_
        refine e_ladd C dX8_digest_116 ?_
        refine e_lstore_n (lv2 := [(1, .long (((lN 31) * (mixA (fun i => lN (cnt i)) (mixS n P (mixA (fun i => (spAll (n, P, cnt, k, W, pv, L, R, H, z, g, q) (nI i)).1) (lN 251) 4) 3) i)) + (lN (cnt i)))), (0, .ref 25), (3, .int (nI i))]) C dX8_digest_117 rfl (by decide) rfl ?_
        refine e_iincN (lv2 := [(3, .int (nI (i + 1))), (1, .long (((lN 31) * (mixA (fun i => lN (cnt i)) (mixS n P (mixA (fun i => (spAll (n, P, cnt, k, W, pv, L, R, H, z, g, q) (nI i)).1) (lN 251) 4) 3) i)) + (lN (cnt i)))), (0, .ref 25)]) C dX8_digest_118 rfl (by decide) (nI_1 _) rfl ?_
        refine e_goto (tgt := 98) C dX8_digest_121 (by decide) ?_
        refine e_loc [2, 1, 0] rfl ?_
        exact ih (8 - (i + 1)) (by omega) M9 hI hf (i + 1) rfl (by omega)
  have ls : ∀ (M9 : Mm), RInv M9 (n, P, cnt, k, W, pv, L, R, H, z, g, q) → FrR M M9 → ∀ (r : Nat), r ≤ 3 → Wd X (0, 0) 31 [(0, .ref 25), (1, .long (mixS n P (mixA (fun i => (spAll (n, P, cnt, k, W, pv, L, R, H, z, g, q) (nI i)).1) (lN 251) 4) r)), (3, .int (nI r))] [] (shF w) M9 := by
    intro M9 hI hf r
    induction hq : 3 - r using Nat.strongRecOn generalizing M9 r with
    | ind k9 ih =>
      intro hi
      obtain ⟨hB, hCt, hF, hH, hG, hQ⟩ := id hI
      obtain ⟨hS, hT, hL, hL1, hL3⟩ := id hB
      have n0 := hS.2.1 0 (by decide)
      have n1 := hS.2.1 1 (by decide)
      have n2 := hS.2.1 2 (by decide)
      refine e_iload_n C dX8_digest_31 rfl rfl ?_
      refine e_iconst (v := (nI 3)) C dX8_digest_32 (by decide) ?_
      refine e_icmp_geN (tgt := 96) C dX8_digest_33 (by omega) (by omega) (by decide) (fun h33 => ?_) (fun h33 => ?_)
      · refine e_iconst (v := (nI 0)) C dX8_digest_96 (by decide) ?_
        refine e_istore_n (lv2 := [(3, .int (nI 0)), (0, .ref 25), (1, .long (mixS n P (mixA (fun i => (spAll (n, P, cnt, k, W, pv, L, R, H, z, g, q) (nI i)).1) (lN 251) 4) r))]) C dX8_digest_97 rfl (by decide) rfl ?_
        have hr3 : r = 3 := by omega
        subst hr3
        refine e_loc [1, 2, 0] rfl ?_
        exact lb M9 hI hf 0 (by omega)
      · have hn9 := hS.2.1 r (by omega)
        refine e_ldc2 (v := lN 31) C dX8_digest_36 kX8_230 ?_
        refine e_lload_n C dX8_digest_39 rfl rfl ?_
        refine e_lmul C dX8_digest_40 ?_
        refine e_aload_n C dX8_digest_41 rfl rfl ?_
        refine e_getR (q := 26) C dX8_digest_42 fX8_7 rfl rfl ?_
        refine e_iload_n C dX8_digest_45 rfl rfl ?_
        refine e_ialoadN C dX8_digest_46 rfl (by omega) (by omega) ?_
        refine e_topi (nI (n r)) (hS.1 r (by omega)) ?_
        refine e_i2lN C dX8_digest_47 (by omega) ?_
        refine e_ladd C dX8_digest_48 ?_
        refine e_lstore_n (lv2 := [(1, .long (((lN 31) * (mixS n P (mixA (fun i => (spAll (n, P, cnt, k, W, pv, L, R, H, z, g, q) (nI i)).1) (lN 251) 4) r)) + (lN (n r)))), (0, .ref 25), (3, .int (nI r))]) C dX8_digest_49 rfl (by decide) rfl ?_
        refine e_iconst (v := (nI 0)) C dX8_digest_50 (by decide) ?_
        refine e_istore (lv2 := [(4, .int (nI 0)), (1, .long (((lN 31) * (mixS n P (mixA (fun i => (spAll (n, P, cnt, k, W, pv, L, R, H, z, g, q) (nI i)).1) (lN 251) 4) r)) + (lN (n r)))), (0, .ref 25), (3, .int (nI r))]) C dX8_digest_51 (by decide) rfl ?_
        refine e_loc [2, 1, 3, 0] rfl ?_
        have li : ∀ (s : Nat) , s ≤ n r → Wd X (0, 0) 53 [(0, .ref 25), (1, .long (mixR (fun s => lN (P (r * 20 + s))) (lN 31 * (mixS n P (mixA (fun i => (spAll (n, P, cnt, k, W, pv, L, R, H, z, g, q) (nI i)).1) (lN 251) 4) r) + lN (n r)) s)), (3, .int (nI r)), (4, .int (nI s))] [] (shF w) M9 := by
          intro s
          induction hq_li : n r - s using Nat.strongRecOn generalizing s with
          | ind k_li ih_li =>
            intro hs
            refine e_iload C dX8_digest_53 rfl ?_
            refine e_aload_n C dX8_digest_55 rfl rfl ?_
            refine e_getR (q := 26) C dX8_digest_56 fX8_7 rfl rfl ?_
            refine e_iload_n C dX8_digest_59 rfl rfl ?_
            refine e_ialoadN C dX8_digest_60 rfl (by omega) (by omega) ?_
            refine e_topi (nI (n r)) (hS.1 r (by omega)) ?_
            refine e_icmp_geN (tgt := 90) C dX8_digest_61 (by omega) (by omega) (by decide) (fun h61 => ?_) (fun h61 => ?_)
            · refine e_iincN (lv2 := [(3, .int (nI (r + 1))), (0, .ref 25), (1, .long (mixR (fun s => lN (P (r * 20 + s))) (lN 31 * (mixS n P (mixA (fun i => (spAll (n, P, cnt, k, W, pv, L, R, H, z, g, q) (nI i)).1) (lN 251) 4) r) + lN (n r)) s)), (4, .int (nI s))]) C dX8_digest_90 rfl (by decide) (nI_1 _) rfl ?_
              refine e_goto (tgt := 31) C dX8_digest_93 (by decide) ?_
              have hsn : s = n r := by omega
              subst hsn
              refine e_loc [1, 2, 0] rfl ?_
              exact ih (3 - (r + 1)) (by omega) M9 hI hf (r + 1) rfl (by omega)
            · refine e_ldc2 (v := lN 31) C dX8_digest_64 kX8_230 ?_
              refine e_lload_n C dX8_digest_67 rfl rfl ?_
              refine e_lmul C dX8_digest_68 ?_
              refine e_aload_n C dX8_digest_69 rfl rfl ?_
              refine e_getR (q := 27) C dX8_digest_70 fX8_13 rfl rfl ?_
              refine e_bipush (v := (nI 20)) C dX8_digest_73 (by decide) ?_
              refine e_iload_n C dX8_digest_75 rfl rfl ?_
              refine e_imulN C dX8_digest_76 ?_
              refine e_iload C dX8_digest_77 rfl ?_
              refine e_iaddN C dX8_digest_79 ?_
              refine e_ialoadN C dX8_digest_80 rfl (by omega) (by omega) ?_
              refine e_topi (nI (P (r * 20 + s))) (by rw [show 20 * r + s = r * 20 + s by omega]; exact hS.2.2.1 r (by omega) s (by omega)) ?_
              have hp8 := hS.2.2.2 (r * 20 + s)
              refine e_i2lN C dX8_digest_81 (by omega) ?_
              refine e_ladd C dX8_digest_82 ?_
              refine e_lstore_n (lv2 := [(1, .long (((lN 31) * (mixR (fun s => lN (P (r * 20 + s))) (lN 31 * (mixS n P (mixA (fun i => (spAll (n, P, cnt, k, W, pv, L, R, H, z, g, q) (nI i)).1) (lN 251) 4) r) + lN (n r)) s)) + (lN (P (r * 20 + s))))), (0, .ref 25), (3, .int (nI r)), (4, .int (nI s))]) C dX8_digest_83 rfl (by decide) rfl ?_
              refine e_iincN (lv2 := [(4, .int (nI (s + 1))), (1, .long (((lN 31) * (mixR (fun s => lN (P (r * 20 + s))) (lN 31 * (mixS n P (mixA (fun i => (spAll (n, P, cnt, k, W, pv, L, R, H, z, g, q) (nI i)).1) (lN 251) 4) r) + lN (n r)) s)) + (lN (P (r * 20 + s))))), (0, .ref 25), (3, .int (nI r))]) C dX8_digest_84 rfl (by decide) (nI_1 _) rfl ?_
              refine e_goto (tgt := 53) C dX8_digest_87 (by decide) ?_
              refine e_loc [2, 1, 3, 0] rfl ?_
              exact ih_li (n r - (s + 1)) (by omega) (s + 1) rfl (by omega)
        exact li 0 (by omega)
  have la : ∀ (M9 : Mm), RInv M9 (n, P, cnt, k, W, pv, L, R, H, z, g, q) → FrR M M9 → ∀ (i : Nat), i ≤ 4 → Wd X (0, 0) 6 [(0, .ref 25), (1, .long (mixA (fun i => (spAll (n, P, cnt, k, W, pv, L, R, H, z, g, q) (nI i)).1) (lN 251) i)), (3, .int (nI i))] [] (shF w) M9 := by
    intro M9 hI hf i
    induction hq : 4 - i using Nat.strongRecOn generalizing M9 i with
    | ind k9 ih =>
      intro hi
      obtain ⟨hB, hCt, hF, hH, hG, hQ⟩ := id hI
      obtain ⟨hS, hT, hL, hL1, hL3⟩ := id hB
      have n0 := hS.2.1 0 (by decide)
      have n1 := hS.2.1 1 (by decide)
      have n2 := hS.2.1 2 (by decide)
      refine e_iload_n C dX8_digest_6 rfl rfl ?_
      refine e_iconst (v := (nI 4)) C dX8_digest_7 (by decide) ?_
      refine e_icmp_geN (tgt := 29) C dX8_digest_8 (by omega) (by omega) (by decide) (fun h8 => ?_) (fun h8 => ?_)
      · have hi4 : i = 4 := by omega
        subst hi4
        refine e_iconst (v := (nI 0)) C dX8_digest_29 (by decide) ?_
        refine e_istore_n (lv2 := [(3, .int (nI 0)), (0, .ref 25), (1, .long (mixA (fun i => (spAll (n, P, cnt, k, W, pv, L, R, H, z, g, q) (nI i)).1) (lN 251) 4))]) C dX8_digest_30 rfl (by decide) rfl ?_
        refine e_loc [1, 2, 0] rfl ?_
        exact ls M9 hI hf 0 (by omega)
      · refine e_ldc2 (v := lN 31) C dX8_digest_11 kX8_230 ?_
        refine e_lload_n C dX8_digest_14 rfl rfl ?_
        refine e_lmul C dX8_digest_15 ?_
        refine e_aload_n C dX8_digest_16 rfl rfl ?_
        refine e_iload_n C dX8_digest_17 rfl rfl ?_
        refine e_callVlQ C dX8_digest_18 [.int (nI i)] (q_all hI (nI i)) okX8_all lX8_232 rfl rfl rfl ⟨rfl, rfl⟩ ⟨Nat.le_of_ble_eq_true rfl, Nat.le_of_ble_eq_true rfl⟩ (Nat.le_of_ble_eq_true rfl) ⟨Nat.zero_le _, Nat.zero_le _⟩ (fun M2 hM2 => ?_)
        refine e_ladd C dX8_digest_21 ?_
        refine e_lstore_n (lv2 := [(1, .long (((lN 31) * (mixA (fun i => (spAll (n, P, cnt, k, W, pv, L, R, H, z, g, q) (nI i)).1) (lN 251) i)) + ((spAll (n, P, cnt, k, W, pv, L, R, H, z, g, q) (nI i)).1))), (0, .ref 25), (3, .int (nI i))]) C dX8_digest_22 rfl (by decide) rfl ?_
        refine e_iincN (lv2 := [(3, .int (nI (i + 1))), (1, .long (((lN 31) * (mixA (fun i => (spAll (n, P, cnt, k, W, pv, L, R, H, z, g, q) (nI i)).1) (lN 251) i)) + ((spAll (n, P, cnt, k, W, pv, L, R, H, z, g, q) (nI i)).1))), (0, .ref 25)]) C dX8_digest_23 rfl (by decide) (nI_1 _) rfl ?_
        refine e_goto (tgt := 6) C dX8_digest_26 (by decide) ?_
        refine e_loc [2, 1, 0] rfl ?_
        exact ih (4 - (i + 1)) (by omega) M2 hM2.1 (hf.tr hM2.2) (i + 1) rfl (by omega)
  refine e_ldc2 (v := lN 251) C dX8_digest_0 kX8_228 ?_
  refine e_lstore_n (lv2 := [(1, .long (lN 251)), (0, .ref 25)]) C dX8_digest_3 rfl (by decide) rfl ?_
  refine e_iconst (v := (nI 0)) C dX8_digest_4 (by decide) ?_
  refine e_istore_n (lv2 := [(3, .int (nI 0)), (1, .long (lN 251)), (0, .ref 25)]) C dX8_digest_5 rfl (by decide) rfl ?_
  refine e_loc [2, 1, 0] rfl ?_
  exact la M hI (Same.rf _ M) 0 (by omega)
