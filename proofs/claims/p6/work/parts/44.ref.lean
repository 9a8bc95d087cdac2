/-! the reference's cells: kinds, lengths, references (none ever changes) -/
def K0 (a : Nat) : Nat := ([13, 14, 14, 15, 17, 14, 15, 15, 18, 15, 15, 18, 15, 17, 15, 14, 15, 14, 14, 14, 14, 15, 16, 15, 15, 15, 15, 15, 14, 14, 14, 16, 16, 15, 15, 16, 15, 15, 14, 15, 16, 15, 18] : List Nat).getD (a - 198) 0
def L0 (a : Nat) : Nat := ([0, 8000, 8000, 256, 5120, 5120, 5120, 10, 10, 256, 768, 3, 3, 6144, 257, 3000, 3, 3000, 8000, 140000, 131072, 3, 3, 12, 2000, 2000, 2000, 2000, 20000, 80000, 11000, 3, 3, 600, 600, 600, 1800, 1800, 2048, 256, 512, 512, 512] : List Nat).getD (a - 198) 0
def R0 (j : Nat) : Option Nat := ([some 199, none, some 200, none, none, none, some 199, none, none, none, none, none, some 201, none, some 202, some 203, some 204, some 205, some 206, some 207, some 208, some 209, some 210, some 211, some 212, some 213, none, none, none, none, some 214, some 215, some 216, none, some 217, none, some 218, none, none, none, none, none, none, some 219, some 220, some 221, none, some 222, some 223, some 224, some 225, none, none, some 226, none, some 227, none, some 228, none, some 229, some 230, none, some 231, some 232, some 233, some 234, some 235, some 236, none, some 237, some 238, some 239, some 240] : List (Option Nat)).getD j none
theorem K0_198 : K0 198 = 13 := rfl
theorem K0_199 : K0 199 = 14 := rfl
theorem L0_199 : L0 199 = 8000 := rfl
theorem K0_200 : K0 200 = 14 := rfl
theorem L0_200 : L0 200 = 8000 := rfl
theorem K0_201 : K0 201 = 15 := rfl
theorem L0_201 : L0 201 = 256 := rfl
theorem K0_202 : K0 202 = 17 := rfl
theorem L0_202 : L0 202 = 5120 := rfl
theorem K0_203 : K0 203 = 14 := rfl
theorem L0_203 : L0 203 = 5120 := rfl
theorem K0_204 : K0 204 = 15 := rfl
theorem L0_204 : L0 204 = 5120 := rfl
theorem K0_205 : K0 205 = 15 := rfl
theorem L0_205 : L0 205 = 10 := rfl
theorem K0_206 : K0 206 = 18 := rfl
theorem L0_206 : L0 206 = 10 := rfl
theorem K0_207 : K0 207 = 15 := rfl
theorem L0_207 : L0 207 = 256 := rfl
theorem K0_208 : K0 208 = 15 := rfl
theorem L0_208 : L0 208 = 768 := rfl
theorem K0_209 : K0 209 = 18 := rfl
theorem L0_209 : L0 209 = 3 := rfl
theorem K0_210 : K0 210 = 15 := rfl
theorem L0_210 : L0 210 = 3 := rfl
theorem K0_211 : K0 211 = 17 := rfl
theorem L0_211 : L0 211 = 6144 := rfl
theorem K0_212 : K0 212 = 15 := rfl
theorem L0_212 : L0 212 = 257 := rfl
theorem K0_213 : K0 213 = 14 := rfl
theorem L0_213 : L0 213 = 3000 := rfl
theorem K0_214 : K0 214 = 15 := rfl
theorem L0_214 : L0 214 = 3 := rfl
theorem K0_215 : K0 215 = 14 := rfl
theorem L0_215 : L0 215 = 3000 := rfl
theorem K0_216 : K0 216 = 14 := rfl
theorem L0_216 : L0 216 = 8000 := rfl
theorem K0_217 : K0 217 = 14 := rfl
theorem L0_217 : L0 217 = 140000 := rfl
theorem K0_218 : K0 218 = 14 := rfl
theorem L0_218 : L0 218 = 131072 := rfl
theorem K0_219 : K0 219 = 15 := rfl
theorem L0_219 : L0 219 = 3 := rfl
theorem K0_220 : K0 220 = 16 := rfl
theorem L0_220 : L0 220 = 3 := rfl
theorem K0_221 : K0 221 = 15 := rfl
theorem L0_221 : L0 221 = 12 := rfl
theorem K0_222 : K0 222 = 15 := rfl
theorem L0_222 : L0 222 = 2000 := rfl
theorem K0_223 : K0 223 = 15 := rfl
theorem L0_223 : L0 223 = 2000 := rfl
theorem K0_224 : K0 224 = 15 := rfl
theorem L0_224 : L0 224 = 2000 := rfl
theorem K0_225 : K0 225 = 15 := rfl
theorem L0_225 : L0 225 = 2000 := rfl
theorem K0_226 : K0 226 = 14 := rfl
theorem L0_226 : L0 226 = 20000 := rfl
theorem K0_227 : K0 227 = 14 := rfl
theorem L0_227 : L0 227 = 80000 := rfl
theorem K0_228 : K0 228 = 14 := rfl
theorem L0_228 : L0 228 = 11000 := rfl
theorem K0_229 : K0 229 = 16 := rfl
theorem L0_229 : L0 229 = 3 := rfl
theorem K0_230 : K0 230 = 16 := rfl
theorem L0_230 : L0 230 = 3 := rfl
theorem K0_231 : K0 231 = 15 := rfl
theorem L0_231 : L0 231 = 600 := rfl
theorem K0_232 : K0 232 = 15 := rfl
theorem L0_232 : L0 232 = 600 := rfl
theorem K0_233 : K0 233 = 16 := rfl
theorem L0_233 : L0 233 = 600 := rfl
theorem K0_234 : K0 234 = 15 := rfl
theorem L0_234 : L0 234 = 1800 := rfl
theorem K0_235 : K0 235 = 15 := rfl
theorem L0_235 : L0 235 = 1800 := rfl
theorem K0_236 : K0 236 = 14 := rfl
theorem L0_236 : L0 236 = 2048 := rfl
theorem K0_237 : K0 237 = 15 := rfl
theorem L0_237 : L0 237 = 256 := rfl
theorem K0_238 : K0 238 = 16 := rfl
theorem L0_238 : L0 238 = 512 := rfl
theorem K0_239 : K0 239 = 15 := rfl
theorem L0_239 : L0 239 = 512 := rfl
theorem K0_240 : K0 240 = 18 := rfl
theorem L0_240 : L0 240 = 512 := rfl
theorem R0_0 : R0 0 = some 199 := rfl
theorem R0_2 : R0 2 = some 200 := rfl
theorem R0_6 : R0 6 = some 199 := rfl
theorem R0_12 : R0 12 = some 201 := rfl
theorem R0_14 : R0 14 = some 202 := rfl
theorem R0_15 : R0 15 = some 203 := rfl
theorem R0_16 : R0 16 = some 204 := rfl
theorem R0_17 : R0 17 = some 205 := rfl
theorem R0_18 : R0 18 = some 206 := rfl
theorem R0_19 : R0 19 = some 207 := rfl
theorem R0_20 : R0 20 = some 208 := rfl
theorem R0_21 : R0 21 = some 209 := rfl
theorem R0_22 : R0 22 = some 210 := rfl
theorem R0_23 : R0 23 = some 211 := rfl
theorem R0_24 : R0 24 = some 212 := rfl
theorem R0_25 : R0 25 = some 213 := rfl
theorem R0_30 : R0 30 = some 214 := rfl
theorem R0_31 : R0 31 = some 215 := rfl
theorem R0_32 : R0 32 = some 216 := rfl
theorem R0_34 : R0 34 = some 217 := rfl
theorem R0_36 : R0 36 = some 218 := rfl
theorem R0_43 : R0 43 = some 219 := rfl
theorem R0_44 : R0 44 = some 220 := rfl
theorem R0_45 : R0 45 = some 221 := rfl
theorem R0_47 : R0 47 = some 222 := rfl
theorem R0_48 : R0 48 = some 223 := rfl
theorem R0_49 : R0 49 = some 224 := rfl
theorem R0_50 : R0 50 = some 225 := rfl
theorem R0_53 : R0 53 = some 226 := rfl
theorem R0_55 : R0 55 = some 227 := rfl
theorem R0_57 : R0 57 = some 228 := rfl
theorem R0_59 : R0 59 = some 229 := rfl
theorem R0_60 : R0 60 = some 230 := rfl
theorem R0_62 : R0 62 = some 231 := rfl
theorem R0_63 : R0 63 = some 232 := rfl
theorem R0_64 : R0 64 = some 233 := rfl
theorem R0_65 : R0 65 = some 234 := rfl
theorem R0_66 : R0 66 = some 235 := rfl
theorem R0_67 : R0 67 = some 236 := rfl
theorem R0_69 : R0 69 = some 237 := rfl
theorem R0_70 : R0 70 = some 238 := rfl
theorem R0_71 : R0 71 = some 239 := rfl
theorem R0_72 : R0 72 = some 240 := rfl
def RSt (M : Mem) : Prop := (∀ a, 198 ≤ a → a < 241 → mK M a = K0 a) ∧ (∀ a, 198 < a → a < 241 → mL M a = L0 a) ∧ ∀ j, mR M 198 j = R0 j
theorem RSt.k {M : Mem} (h : RSt M) : ∀ a, 198 ≤ a → a < 241 → mK M a = K0 a := h.1
theorem RSt.l {M : Mem} (h : RSt M) : ∀ a, 198 < a → a < 241 → mL M a = L0 a := h.2.1
theorem RSt.r {M : Mem} (h : RSt M) : ∀ j, mR M 198 j = R0 j := h.2.2
/-! N differs from M in the places of S alone, and in no reference -/
def Sq (S : Nat → Nat → Prop) (M N : Mem) : Prop := mN N = mN M ∧ N.2.1 = M.2.1 ∧ N.2.2.1 = M.2.2.1 ∧ (∀ a j, mR N a j = mR M a j) ∧ ∀ a j, ¬ S a j → mI N a j = mI M a j ∧ mJ N a j = mJ M a j
section SQ
variable {S T : Nat → Nat → Prop} {M N O : Mem} {a j : Nat}
theorem Sq.mk (h : mN N = mN M ∧ N.2.1 = M.2.1 ∧ N.2.2.1 = M.2.2.1 ∧ (∀ a j, mR N a j = mR M a j) ∧ ∀ a j, ¬ S a j → mI N a j = mI M a j ∧ mJ N a j = mJ M a j) : Sq S M N := h
theorem Sq.n (h : Sq S M N) : mN N = mN M := h.1
theorem Sq.k (h : Sq S M N) : N.2.1 = M.2.1 := h.2.1
theorem Sq.l (h : Sq S M N) : N.2.2.1 = M.2.2.1 := h.2.2.1
theorem Sq.K (h : Sq S M N) (a : Nat) : mK N a = mK M a := congrFun h.k a
theorem Sq.L (h : Sq S M N) (a : Nat) : mL N a = mL M a := congrFun h.l a
theorem Sq.R (h : Sq S M N) (a j : Nat) : mR N a j = mR M a j := h.2.2.2.1 a j
theorem Sq.I (h : Sq S M N) (a j : Nat) (ha : ¬ S a j) : mI N a j = mI M a j := (h.2.2.2.2 a j ha).1
theorem Sq.J (h : Sq S M N) (a j : Nat) (ha : ¬ S a j) : mJ N a j = mJ M a j := (h.2.2.2.2 a j ha).2
theorem Sq.rf : Sq S M M := Sq.mk ⟨rfl, rfl, rfl, fun _ _ => rfl, fun _ _ _ => ⟨rfl, rfl⟩⟩
theorem Sq.weak (h : Sq S M N) (hs : ∀ a j, S a j → T a j) : Sq T M N := Sq.mk ⟨h.n, h.k, h.l, h.R, fun a j ha => h.2.2.2.2 a j fun q => ha (hs a j q)⟩
theorem Sq.tr (h1 : Sq S M N) (h2 : Sq S N O) : Sq S M O := Sq.mk ⟨h2.n.trans h1.n, h2.k.trans h1.k, h2.l.trans h1.l, fun a j => (h2.R a j).trans (h1.R a j), fun a j ha => ⟨(h2.I a j ha).trans (h1.I a j ha), (h2.J a j ha).trans (h1.J a j ha)⟩⟩
theorem Sq.tr2 {U : Nat → Nat → Prop} (h1 : Sq S M N) (h2 : Sq T N O) (hs : ∀ a j, S a j → U a j) (ht : ∀ a j, T a j → U a j) : Sq U M O := (h1.weak hs).tr (h2.weak ht)
theorem Sq.sI {v : Int32} (h : Sq S M N) (ha : S a j) : Sq S M (sI N a j v) := Sq.mk ⟨h.n, h.k, h.l, h.R, fun b i hb => ⟨by rw [mI_sI, if_neg (show ¬ (b = a ∧ i = j) from fun q => hb (by rw [q.1, q.2]; exact ha))]; exact h.I b i hb, h.J b i hb⟩⟩
theorem Sq.sJ {v : Int64} (h : Sq S M N) (ha : S a j) : Sq S M (sJ N a j v) := Sq.mk ⟨h.n, h.k, h.l, h.R, fun b i hb => ⟨h.I b i hb, by rw [mJ_sJ, if_neg (show ¬ (b = a ∧ i = j) from fun q => hb (by rw [q.1, q.2]; exact ha))]; exact h.J b i hb⟩⟩
theorem Sq.sR {v : Option Nat} (h : Sq S M N) (ha : mR N a j = v) : Sq S M (sR N a j v) := Sq.mk ⟨h.n, h.k, h.l, fun b i => by
    rw [mR_sR]
    split
    · rename_i q
      rw [q.1, q.2, ← ha]; exact h.R a j
    · exact h.R b i, fun b i hb => ⟨h.I b i hb, h.J b i hb⟩⟩
theorem Sq.sm (h : Sq S M N) : Sm S M N := Sm.mk ⟨h.n, h.k, h.l, fun a j ha => ⟨h.I a j ha, h.J a j ha, h.R a j⟩⟩
theorem RSt.q (h : RSt M) (s : Sq S M N) : RSt N := ⟨fun a h1 h2 => (s.K a).trans (h.k a h1 h2), fun a h1 h2 => (s.L a).trans (h.l a h1 h2), fun j => (s.R 198 j).trans (h.r j)⟩
end SQ
