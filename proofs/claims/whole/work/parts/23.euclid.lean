/-! ===== Euclid: the greatest common divisor and how it is made ===== -/
def Fin (f : Nat → Int) : Prop := ∀ i : Nat, 24 ≤ i → f i = 0
theorem pd_le {f : Nat → Int} {m : Int} (hm : -1 ≤ m) (h : ∀ i : Nat, m < i → f i = 0) : pd f ≤ m := by
  by_cases c : pd f ≤ m
  · exact c
  · exfalso
    have c2 : m < dg f 24 := by unfold pd at c; omega
    exact dg_lead f 24 (by omega) (h _ (by omega))
theorem pd_hi {f : Nat → Int} (h24 : Fin f) (i : Nat) (hi : pd f < i) : f i = 0 := by
  by_cases c : i < 24
  · exact dg_above f 24 i hi c
  · exact h24 i (by omega)
theorem pd_ge (f : Nat → Int) : -1 ≤ pd f := dg_ge f 24
theorem pd_lt (f : Nat → Int) : pd f < 24 := dg_lt f 24
theorem PA.fin {Z : Zt} {a : Nat} {p : Int} {f : Nat → Int} (h : PA Z a p f) : Fin f := fun i hi => h.2.1 i (by omega)
theorem PA.deg {Z : Zt} {a : Nat} {p : Int} {f : Nat → Int} (h : PA Z a p f) : Z a 0 = pd f := by rw [h.2.2.2]; exact dg_pd (by decide) h.2.1
theorem PA.pd9 {Z : Zt} {a : Nat} {p : Int} {f : Nat → Int} (h : PA Z a p f) : pd f ≤ 9 := by have := h.dgr; have := h.deg; omega
theorem PA.dg10 {Z : Zt} {a : Nat} {p : Int} {f : Nat → Int} (h : PA Z a p f) : dg f 10 = dg f 24 := dg_ext f 24 10 (by decide) (fun i h1 _ => h.2.1 i h1) |>.symm
theorem pd_pmul {p : Int} {f g : Nat → Int} (hf : Fin f) (hg : Fin g) : pd (pmul p f g) ≤ max (-1) (pd f + pd g) := pd_le (by omega) (fun i hi => pmul_hi (pd_hi hf) (pd_hi hg) i (by omega))
theorem pd_pmul0 {p : Int} {f g : Nat → Int} (hf : Fin f) (h : pd f < 0) : pd (pmul p f g) ≤ -1 := pd_le (by omega) (fun i hi => by
  unfold pmul
  rw [csum_zero f g i (fun j _ => by rw [pd_hi hf j (by omega)]; simp)]
  simp)
theorem pd_padd {p c : Int} {f g : Nat → Int} (hf : Fin f) (hg : Fin g) : pd (padd p f g c) ≤ max (pd f) (pd g) := by
  have := pd_ge f
  exact pd_le (by omega) (fun i hi => by unfold padd; rw [pd_hi hf i (by omega), pd_hi hg i (by omega)]; simp)
theorem pd_dvR {p : Int} {f g : Nat → Int} (hf : Fin f) (hg0 : 0 ≤ pd g) : pd (dvR p f g) ≤ pd f := by
  have := pd_ge f
  refine pd_le (by omega) (fun i hi => ?_)
  unfold dvR
  by_cases c : (pd f - pd g + 1).toNat = 0
  · rw [c]; exact pd_hi hf i hi
  · rw [dvr_hi _ _ _ (by omega)]; exact pd_hi hf i hi
theorem pd_dvQ {p : Int} {f g : Nat → Int} : pd (dvQ p f g) ≤ max (-1) (pd f - pd g) := by
  refine pd_le (by omega) (fun i hi => ?_)
  unfold dvQ
  exact dvq_hi _ _ _ (by omega)
/-- the six rows of the extended algorithm: two rests, and twice two factors -/
abbrev E6 : Type := (Nat → Int) × (Nat → Int) × (Nat → Int) × (Nat → Int) × (Nat → Int) × (Nat → Int)
def estep (p : Int) (e : E6) : E6 := (e.2.1, dvR p e.1 e.2.1, e.2.2.2.1, padd p e.2.2.1 (pmul p (dvQ p e.1 e.2.1) e.2.2.2.1) (-1), e.2.2.2.2.2, padd p e.2.2.2.2.1 (pmul p (dvQ p e.1 e.2.1) e.2.2.2.2.2) (-1))
def eun (p : Int) : Nat → E6 → E6
  | 0, e => e
  | m + 1, e => if pd e.2.1 < 0 then e else eun p m (estep p e)
def pone : Nat → Int := fun j => if j = 0 then 1 else 0
def pzero : Nat → Int := fun _ => 0
def e0 (f g : Nat → Int) : E6 := (f, g, pone, pzero, pzero, pone)
def eEnd (p : Int) (f g : Nat → Int) : E6 := eun p 20 (e0 f g)
def eInv (p : Int) (e : E6) : Int := inv p (e.1 (pd e.1).toNat)
def eG (p : Int) (f g : Nat → Int) : Nat → Int := pscl p (eEnd p f g).1 (eInv p (eEnd p f g))
def eS (p : Int) (f g : Nat → Int) : Nat → Int := pscl p (eEnd p f g).2.2.1 (eInv p (eEnd p f g))
def eT (p : Int) (f g : Nat → Int) : Nat → Int := pscl p (eEnd p f g).2.2.2.2.1 (eInv p (eEnd p f g))
/-- the six rows lie in the object at e -/
def EA (Z : Zt) (a : Nat) (p : Int) (e : E6) : Prop := PA Z (a + 1) p e.1 ∧ PA Z (a + 7) p e.2.1 ∧ PA Z (a + 3) p e.2.2.1 ∧ PA Z (a + 9) p e.2.2.2.1 ∧ PA Z (a + 5) p e.2.2.2.2.1 ∧ PA Z (a + 11) p e.2.2.2.2.2
/-- how long the factors may be -/
def ED (e : E6) : Prop := pd e.2.2.2.1 + pd e.1 ≤ 9 ∧ pd e.2.2.1 + pd e.2.1 ≤ 9 ∧ pd e.2.2.2.2.2 + pd e.1 ≤ 9 ∧ pd e.2.2.2.2.1 + pd e.2.1 ≤ 9
theorem ED_q {p : Int} {f g s : Nat → Int} (h : pd s + pd f ≤ 9) (hg : 0 ≤ pd g) (hs : pd s ≤ 9) : pd (dvQ p f g) + pd s ≤ 9 := by
  have := pd_dvQ (p := p) (f := f) (g := g)
  omega
theorem ED_n {p : Int} {f g s0 s1 : Nat → Int} (hs0 : Fin s0) (hs1 : Fin s1) (hQ : Fin (dvQ p f g)) (hP : Fin (pmul p (dvQ p f g) s1)) (h : pd s1 + pd f ≤ 9) (h2 : pd s0 + pd g ≤ 9) (hg : 0 ≤ pd g) (hg9 : pd g ≤ 9) : pd (padd p s0 (pmul p (dvQ p f g) s1) (-1)) + pd g ≤ 9 := by
  have a1 := pd_padd (p := p) (c := -1) hs0 hP
  have a2 := pd_pmul (p := p) hQ hs1
  have a3 := pd_dvQ (p := p) (f := f) (g := g)
  have a4 := pd_ge s1
  by_cases c : pd (dvQ p f g) < 0
  · have a5 := pd_pmul0 (p := p) (g := s1) hQ c
    omega
  · omega
theorem dX3_run_0 : decode cX3_run 0 = .ok (.aload_n 0, 1) := by decide +kernel
theorem dX3_run_1 : decode cX3_run 1 = .ok (.getfield 10, 3) := by decide +kernel
theorem dX3_run_4 : decode cX3_run 4 = .ok (.aload_n 2, 1) := by decide +kernel
theorem dX3_run_5 : decode cX3_run 5 = .ok (.invokevirtual 37, 3) := by decide +kernel
theorem dX3_run_8 : decode cX3_run 8 = .ok (.aload_n 0, 1) := by decide +kernel
theorem dX3_run_9 : decode cX3_run 9 = .ok (.getfield 22, 3) := by decide +kernel
theorem dX3_run_12 : decode cX3_run 12 = .ok (.aload_n 3, 1) := by decide +kernel
theorem dX3_run_13 : decode cX3_run 13 = .ok (.invokevirtual 37, 3) := by decide +kernel
theorem dX3_run_16 : decode cX3_run 16 = .ok (.aload_n 0, 1) := by decide +kernel
theorem dX3_run_17 : decode cX3_run 17 = .ok (.getfield 16, 3) := by decide +kernel
theorem dX3_run_20 : decode cX3_run 20 = .ok (.invokevirtual 41, 3) := by decide +kernel
theorem dX3_run_23 : decode cX3_run 23 = .ok (.aload_n 0, 1) := by decide +kernel
theorem dX3_run_24 : decode cX3_run 24 = .ok (.getfield 16, 3) := by decide +kernel
theorem dX3_run_27 : decode cX3_run 27 = .ok (.iconst 0, 1) := by decide +kernel
theorem dX3_run_28 : decode cX3_run 28 = .ok (.iconst 1, 1) := by decide +kernel
theorem dX3_run_29 : decode cX3_run 29 = .ok (.invokevirtual 44, 3) := by decide +kernel
theorem dX3_run_32 : decode cX3_run 32 = .ok (.aload_n 0, 1) := by decide +kernel
theorem dX3_run_33 : decode cX3_run 33 = .ok (.getfield 19, 3) := by decide +kernel
theorem dX3_run_36 : decode cX3_run 36 = .ok (.invokevirtual 41, 3) := by decide +kernel
theorem dX3_run_39 : decode cX3_run 39 = .ok (.aload_n 0, 1) := by decide +kernel
theorem dX3_run_40 : decode cX3_run 40 = .ok (.getfield 25, 3) := by decide +kernel
theorem dX3_run_43 : decode cX3_run 43 = .ok (.invokevirtual 41, 3) := by decide +kernel
theorem dX3_run_46 : decode cX3_run 46 = .ok (.aload_n 0, 1) := by decide +kernel
theorem dX3_run_47 : decode cX3_run 47 = .ok (.getfield 28, 3) := by decide +kernel
theorem dX3_run_50 : decode cX3_run 50 = .ok (.invokevirtual 41, 3) := by decide +kernel
theorem dX3_run_53 : decode cX3_run 53 = .ok (.aload_n 0, 1) := by decide +kernel
theorem dX3_run_54 : decode cX3_run 54 = .ok (.getfield 28, 3) := by decide +kernel
theorem dX3_run_57 : decode cX3_run 57 = .ok (.iconst 0, 1) := by decide +kernel
theorem dX3_run_58 : decode cX3_run 58 = .ok (.iconst 1, 1) := by decide +kernel
theorem dX3_run_59 : decode cX3_run 59 = .ok (.invokevirtual 44, 3) := by decide +kernel
theorem dX3_run_62 : decode cX3_run 62 = .ok (.iconst 0, 1) := by decide +kernel
theorem dX3_run_63 : decode cX3_run 63 = .ok (.istore 4, 2) := by decide +kernel
theorem dX3_run_65 : decode cX3_run 65 = .ok (.iload 4, 2) := by decide +kernel
theorem dX3_run_67 : decode cX3_run 67 = .ok (.bipush 20, 2) := by decide +kernel
theorem dX3_run_69 : decode cX3_run 69 = .ok (.if_icmp .ge 192, 3) := by decide +kernel
theorem dX3_run_72 : decode cX3_run 72 = .ok (.aload_n 0, 1) := by decide +kernel
theorem dX3_run_73 : decode cX3_run 73 = .ok (.getfield 22, 3) := by decide +kernel
theorem dX3_run_76 : decode cX3_run 76 = .ok (.getfield 48, 3) := by decide +kernel
theorem dX3_run_79 : decode cX3_run 79 = .ok (.ifCond .lt 182, 3) := by decide +kernel
theorem dX3_run_82 : decode cX3_run 82 = .ok (.aload_n 0, 1) := by decide +kernel
theorem dX3_run_83 : decode cX3_run 83 = .ok (.getfield 10, 3) := by decide +kernel
theorem dX3_run_86 : decode cX3_run 86 = .ok (.aload_n 1, 1) := by decide +kernel
theorem dX3_run_87 : decode cX3_run 87 = .ok (.aload_n 0, 1) := by decide +kernel
theorem dX3_run_88 : decode cX3_run 88 = .ok (.getfield 22, 3) := by decide +kernel
theorem dX3_run_91 : decode cX3_run 91 = .ok (.aload_n 0, 1) := by decide +kernel
theorem dX3_run_92 : decode cX3_run 92 = .ok (.getfield 31, 3) := by decide +kernel
theorem dX3_run_95 : decode cX3_run 95 = .ok (.invokevirtual 52, 3) := by decide +kernel
theorem dX3_run_98 : decode cX3_run 98 = .ok (.aload_n 0, 1) := by decide +kernel
theorem dX3_run_99 : decode cX3_run 99 = .ok (.getfield 34, 3) := by decide +kernel
theorem dX3_run_102 : decode cX3_run 102 = .ok (.aload_n 0, 1) := by decide +kernel
theorem dX3_run_103 : decode cX3_run 103 = .ok (.getfield 10, 3) := by decide +kernel
theorem dX3_run_106 : decode cX3_run 106 = .ok (.invokevirtual 37, 3) := by decide +kernel
theorem dX3_run_109 : decode cX3_run 109 = .ok (.aload_n 0, 1) := by decide +kernel
theorem dX3_run_110 : decode cX3_run 110 = .ok (.getfield 10, 3) := by decide +kernel
theorem dX3_run_113 : decode cX3_run 113 = .ok (.aload_n 0, 1) := by decide +kernel
theorem dX3_run_114 : decode cX3_run 114 = .ok (.getfield 22, 3) := by decide +kernel
theorem dX3_run_117 : decode cX3_run 117 = .ok (.invokevirtual 37, 3) := by decide +kernel
theorem dX3_run_120 : decode cX3_run 120 = .ok (.aload_n 0, 1) := by decide +kernel
theorem dX3_run_121 : decode cX3_run 121 = .ok (.getfield 22, 3) := by decide +kernel
theorem dX3_run_124 : decode cX3_run 124 = .ok (.aload_n 0, 1) := by decide +kernel
theorem dX3_run_125 : decode cX3_run 125 = .ok (.getfield 34, 3) := by decide +kernel
theorem dX3_run_128 : decode cX3_run 128 = .ok (.invokevirtual 37, 3) := by decide +kernel
theorem dX3_run_131 : decode cX3_run 131 = .ok (.aload_n 0, 1) := by decide +kernel
theorem dX3_run_132 : decode cX3_run 132 = .ok (.getfield 34, 3) := by decide +kernel
theorem dX3_run_135 : decode cX3_run 135 = .ok (.aload_n 1, 1) := by decide +kernel
theorem dX3_run_136 : decode cX3_run 136 = .ok (.aload_n 0, 1) := by decide +kernel
theorem dX3_run_137 : decode cX3_run 137 = .ok (.getfield 31, 3) := by decide +kernel
theorem dX3_run_140 : decode cX3_run 140 = .ok (.aload_n 0, 1) := by decide +kernel
theorem dX3_run_141 : decode cX3_run 141 = .ok (.getfield 25, 3) := by decide +kernel
theorem dX3_run_144 : decode cX3_run 144 = .ok (.invokevirtual 56, 3) := by decide +kernel
theorem dX3_run_147 : decode cX3_run 147 = .ok (.aload_n 0, 1) := by decide +kernel
theorem dX3_run_148 : decode cX3_run 148 = .ok (.getfield 16, 3) := by decide +kernel
theorem dX3_run_151 : decode cX3_run 151 = .ok (.aload_n 1, 1) := by decide +kernel
theorem dX3_run_152 : decode cX3_run 152 = .ok (.aload_n 0, 1) := by decide +kernel
theorem dX3_run_153 : decode cX3_run 153 = .ok (.getfield 34, 3) := by decide +kernel
theorem dX3_run_156 : decode cX3_run 156 = .ok (.iconst (-1), 1) := by decide +kernel
theorem dX3_run_157 : decode cX3_run 157 = .ok (.invokevirtual 59, 3) := by decide +kernel
theorem dX3_run_160 : decode cX3_run 160 = .ok (.aload_n 0, 1) := by decide +kernel
theorem dX3_run_161 : decode cX3_run 161 = .ok (.getfield 34, 3) := by decide +kernel
theorem dX3_run_164 : decode cX3_run 164 = .ok (.aload_n 0, 1) := by decide +kernel
theorem dX3_run_165 : decode cX3_run 165 = .ok (.getfield 16, 3) := by decide +kernel
theorem dX3_run_168 : decode cX3_run 168 = .ok (.invokevirtual 37, 3) := by decide +kernel
theorem dX3_run_171 : decode cX3_run 171 = .ok (.aload_n 0, 1) := by decide +kernel
theorem dX3_run_172 : decode cX3_run 172 = .ok (.getfield 16, 3) := by decide +kernel
theorem dX3_run_175 : decode cX3_run 175 = .ok (.aload_n 0, 1) := by decide +kernel
theorem dX3_run_176 : decode cX3_run 176 = .ok (.getfield 25, 3) := by decide +kernel
theorem dX3_run_179 : decode cX3_run 179 = .ok (.invokevirtual 37, 3) := by decide +kernel
theorem dX3_run_182 : decode cX3_run 182 = .ok (.aload_n 0, 1) := by decide +kernel
theorem dX3_run_183 : decode cX3_run 183 = .ok (.getfield 25, 3) := by decide +kernel
theorem dX3_run_186 : decode cX3_run 186 = .ok (.aload_n 0, 1) := by decide +kernel
theorem dX3_run_187 : decode cX3_run 187 = .ok (.getfield 34, 3) := by decide +kernel
theorem dX3_run_190 : decode cX3_run 190 = .ok (.invokevirtual 37, 3) := by decide +kernel
theorem dX3_run_193 : decode cX3_run 193 = .ok (.aload_n 0, 1) := by decide +kernel
theorem dX3_run_194 : decode cX3_run 194 = .ok (.getfield 34, 3) := by decide +kernel
theorem dX3_run_197 : decode cX3_run 197 = .ok (.aload_n 1, 1) := by decide +kernel
theorem dX3_run_198 : decode cX3_run 198 = .ok (.aload_n 0, 1) := by decide +kernel
theorem dX3_run_199 : decode cX3_run 199 = .ok (.getfield 31, 3) := by decide +kernel
theorem dX3_run_202 : decode cX3_run 202 = .ok (.aload_n 0, 1) := by decide +kernel
theorem dX3_run_203 : decode cX3_run 203 = .ok (.getfield 28, 3) := by decide +kernel
theorem dX3_run_206 : decode cX3_run 206 = .ok (.invokevirtual 56, 3) := by decide +kernel
theorem dX3_run_209 : decode cX3_run 209 = .ok (.aload_n 0, 1) := by decide +kernel
theorem dX3_run_210 : decode cX3_run 210 = .ok (.getfield 19, 3) := by decide +kernel
theorem dX3_run_213 : decode cX3_run 213 = .ok (.aload_n 1, 1) := by decide +kernel
theorem dX3_run_214 : decode cX3_run 214 = .ok (.aload_n 0, 1) := by decide +kernel
theorem dX3_run_215 : decode cX3_run 215 = .ok (.getfield 34, 3) := by decide +kernel
theorem dX3_run_218 : decode cX3_run 218 = .ok (.iconst (-1), 1) := by decide +kernel
theorem dX3_run_219 : decode cX3_run 219 = .ok (.invokevirtual 59, 3) := by decide +kernel
theorem dX3_run_222 : decode cX3_run 222 = .ok (.aload_n 0, 1) := by decide +kernel
theorem dX3_run_223 : decode cX3_run 223 = .ok (.getfield 34, 3) := by decide +kernel
theorem dX3_run_226 : decode cX3_run 226 = .ok (.aload_n 0, 1) := by decide +kernel
theorem dX3_run_227 : decode cX3_run 227 = .ok (.getfield 19, 3) := by decide +kernel
theorem dX3_run_230 : decode cX3_run 230 = .ok (.invokevirtual 37, 3) := by decide +kernel
theorem dX3_run_233 : decode cX3_run 233 = .ok (.aload_n 0, 1) := by decide +kernel
theorem dX3_run_234 : decode cX3_run 234 = .ok (.getfield 19, 3) := by decide +kernel
theorem dX3_run_237 : decode cX3_run 237 = .ok (.aload_n 0, 1) := by decide +kernel
theorem dX3_run_238 : decode cX3_run 238 = .ok (.getfield 28, 3) := by decide +kernel
theorem dX3_run_241 : decode cX3_run 241 = .ok (.invokevirtual 37, 3) := by decide +kernel
theorem dX3_run_244 : decode cX3_run 244 = .ok (.aload_n 0, 1) := by decide +kernel
theorem dX3_run_245 : decode cX3_run 245 = .ok (.getfield 28, 3) := by decide +kernel
theorem dX3_run_248 : decode cX3_run 248 = .ok (.aload_n 0, 1) := by decide +kernel
theorem dX3_run_249 : decode cX3_run 249 = .ok (.getfield 34, 3) := by decide +kernel
theorem dX3_run_252 : decode cX3_run 252 = .ok (.invokevirtual 37, 3) := by decide +kernel
theorem dX3_run_255 : decode cX3_run 255 = .ok (.iinc 4 1, 3) := by decide +kernel
theorem dX3_run_258 : decode cX3_run 258 = .ok (.goto (-193), 3) := by decide +kernel
theorem dX3_run_261 : decode cX3_run 261 = .ok (.aload_n 0, 1) := by decide +kernel
theorem dX3_run_262 : decode cX3_run 262 = .ok (.getfield 10, 3) := by decide +kernel
theorem dX3_run_265 : decode cX3_run 265 = .ok (.getfield 48, 3) := by decide +kernel
theorem dX3_run_268 : decode cX3_run 268 = .ok (.ifCond .lt 53, 3) := by decide +kernel
theorem dX3_run_271 : decode cX3_run 271 = .ok (.aload_n 1, 1) := by decide +kernel
theorem dX3_run_272 : decode cX3_run 272 = .ok (.aload_n 0, 1) := by decide +kernel
theorem dX3_run_273 : decode cX3_run 273 = .ok (.getfield 10, 3) := by decide +kernel
theorem dX3_run_276 : decode cX3_run 276 = .ok (.aload_n 0, 1) := by decide +kernel
theorem dX3_run_277 : decode cX3_run 277 = .ok (.getfield 10, 3) := by decide +kernel
theorem dX3_run_280 : decode cX3_run 280 = .ok (.getfield 48, 3) := by decide +kernel
theorem dX3_run_283 : decode cX3_run 283 = .ok (.invokevirtual 63, 3) := by decide +kernel
theorem dX3_run_286 : decode cX3_run 286 = .ok (.invokevirtual 67, 3) := by decide +kernel
theorem dX3_run_289 : decode cX3_run 289 = .ok (.istore 4, 2) := by decide +kernel
theorem dX3_run_291 : decode cX3_run 291 = .ok (.aload_n 0, 1) := by decide +kernel
theorem dX3_run_292 : decode cX3_run 292 = .ok (.getfield 10, 3) := by decide +kernel
theorem dX3_run_295 : decode cX3_run 295 = .ok (.aload_n 1, 1) := by decide +kernel
theorem dX3_run_296 : decode cX3_run 296 = .ok (.iload 4, 2) := by decide +kernel
theorem dX3_run_298 : decode cX3_run 298 = .ok (.invokevirtual 72, 3) := by decide +kernel
theorem dX3_run_301 : decode cX3_run 301 = .ok (.aload_n 0, 1) := by decide +kernel
theorem dX3_run_302 : decode cX3_run 302 = .ok (.getfield 16, 3) := by decide +kernel
theorem dX3_run_305 : decode cX3_run 305 = .ok (.aload_n 1, 1) := by decide +kernel
theorem dX3_run_306 : decode cX3_run 306 = .ok (.iload 4, 2) := by decide +kernel
theorem dX3_run_308 : decode cX3_run 308 = .ok (.invokevirtual 72, 3) := by decide +kernel
theorem dX3_run_311 : decode cX3_run 311 = .ok (.aload_n 0, 1) := by decide +kernel
theorem dX3_run_312 : decode cX3_run 312 = .ok (.getfield 19, 3) := by decide +kernel
theorem dX3_run_315 : decode cX3_run 315 = .ok (.aload_n 1, 1) := by decide +kernel
theorem dX3_run_316 : decode cX3_run 316 = .ok (.iload 4, 2) := by decide +kernel
theorem dX3_run_318 : decode cX3_run 318 = .ok (.invokevirtual 72, 3) := by decide +kernel
theorem dX3_run_321 : decode cX3_run 321 = .ok (.return_, 1) := by decide +kernel
set_option maxRecDepth 20000 in
theorem b_X3_run_0 {k n : Nat} {x : Wx} {Z : Zt} {Q : Option Value → Wx → Zt → Prop} {a0 : Nat} {a1 : Nat} {a2 : Nat} {a3 : Nat} (o_a0 : Is3 x a0) (o_a2 : Is7 x a2) (o_a3 : Is7 x a3)
    (h : ∃ g1 : Int, (∃ g2 : Nat → Int, (PA Z a2 g1 g2 ∧ (∀ (Z'1 : Zt), (PA Z'1 (a0 + 1) g1 g2 ∧ Oth Z Z'1 (At2 (a0 + 1))) → (∃ g3 : Int, (∃ g4 : Nat → Int, (PA Z'1 a3 g3 g4 ∧ (∀ (Z'2 : Zt), (PA Z'2 (a0 + 7) g3 g4 ∧ Oth Z'1 Z'2 (At2 (a0 + 7))) → (∀ (Z'3 : Zt), (PA Z'3 (a0 + 3) 1 (fun _ => 0) ∧ Oth Z'2 Z'3 (At2 (a0 + 3))) → (∃ g5 : Int, (∃ g6 : Nat → Int, (PA Z'3 (a0 + 3) g5 g6 ∧ 0 ≤ (0 : Int) ∧ (0 : Int) < 10 ∧ (0 ≤ (1 : Int) ∧ (1 : Int) < g5) ∧ g5 ≤ 13 ∧ (∀ (Z'4 : Zt), (PA Z'4 (a0 + 3) g5 (fun j => if j = (Int.toNat (0 : Int)) then (1 : Int) else g6 j) ∧ Oth Z'3 Z'4 (At2 (a0 + 3))) → (∀ (Z'5 : Zt), (PA Z'5 (a0 + 5) 1 (fun _ => 0) ∧ Oth Z'4 Z'5 (At2 (a0 + 5))) → (∀ (Z'6 : Zt), (PA Z'6 (a0 + 9) 1 (fun _ => 0) ∧ Oth Z'5 Z'6 (At2 (a0 + 9))) → (∀ (Z'7 : Zt), (PA Z'7 (a0 + 11) 1 (fun _ => 0) ∧ Oth Z'6 Z'7 (At2 (a0 + 11))) → (∃ g7 : Int, (∃ g8 : Nat → Int, (PA Z'7 (a0 + 11) g7 g8 ∧ 0 ≤ (0 : Int) ∧ (0 : Int) < 10 ∧ (0 ≤ (1 : Int) ∧ (1 : Int) < g7) ∧ g7 ≤ 13 ∧ (∀ (Z'8 : Zt), (PA Z'8 (a0 + 11) g7 (fun j => if j = (Int.toNat (0 : Int)) then (1 : Int) else g8 j) ∧ Oth Z'7 Z'8 (At2 (a0 + 11))) → (V mX3_run k n 65 [some (r_ a0), some (r_ a1), none, none, some (i_ 0)] [] x Z'8 Q))))))))))))))))))))) :
    V mX3_run k n 0 [some (r_ a0), some (r_ a1), some (r_ a2), some (r_ a3), none] [] x Z Q :=
  V_aload_n dX3_run_0 rfl (G_3_0 o_a0.1 o_a0.2.1 lf_3_10 dX3_run_1 (V_aload_n dX3_run_4 rfl (Exists.elim h (fun g1 w1 => Exists.elim w1 (fun g2 w2 => V_callV (k' := 0) (n' := 0) (t := 7) (q := (RX7, TX7, 2)) [r_ a2] [] okX7_copy o_a0.2.2.1.1 rfl rfl lm_3_37 liX7_copy lqX7_copy (Nat.le_of_ble_eq_true rfl) (Nat.le_of_ble_eq_true rfl) (Nat.le_of_ble_eq_true rfl) (cat_of rfl) (Nat.le_of_ble_eq_true rfl) (Nat.zero_le _) (Nat.zero_le _) rfl dX3_run_5 (sp_X7_copy o_a0.2.2.1 o_a2 w2.1 (fun Z'1 p1 => V_aload_n dX3_run_8 rfl (G_3_3 o_a0.1 o_a0.2.2.2.2.2.2.2.1 lf_3_22 dX3_run_9 (V_aload_n dX3_run_12 rfl (Exists.elim (w2.2 Z'1 p1) (fun g3 w3 => Exists.elim w3 (fun g4 w4 => V_callV (k' := 0) (n' := 0) (t := 7) (q := (RX7, TX7, 2)) [r_ a3] [] okX7_copy o_a0.2.2.2.2.2.2.2.2.1.1 rfl rfl lm_3_37 liX7_copy lqX7_copy (Nat.le_of_ble_eq_true rfl) (Nat.le_of_ble_eq_true rfl) (Nat.le_of_ble_eq_true rfl) (cat_of rfl) (Nat.le_of_ble_eq_true rfl) (Nat.zero_le _) (Nat.zero_le _) rfl dX3_run_13 (sp_X7_copy o_a0.2.2.2.2.2.2.2.2.1 o_a3 w4.1 (fun Z'2 p2 => V_aload_n dX3_run_16 rfl (G_3_1 o_a0.1 o_a0.2.2.2.1 lf_3_16 dX3_run_17 (V_callV (k' := 0) (n' := 0) (t := 7) (q := (RX7, TX7, 2)) [] [] okX7_clear o_a0.2.2.2.2.1.1 rfl rfl lm_3_41 liX7_clear lqX7_clear (Nat.le_of_ble_eq_true rfl) (Nat.le_of_ble_eq_true rfl) (Nat.le_of_ble_eq_true rfl) (cat_of rfl) (Nat.le_of_ble_eq_true rfl) (Nat.zero_le _) (Nat.zero_le _) rfl dX3_run_20 (sp_X7_clear o_a0.2.2.2.2.1  (fun Z'3 p3 => V_aload_n dX3_run_23 rfl (G_3_1 o_a0.1 o_a0.2.2.2.1 lf_3_16 dX3_run_24 (V_iconst dX3_run_27 (V_iconst dX3_run_28 (Exists.elim ((w4.2 Z'2 p2) Z'3 p3) (fun g5 w5 => Exists.elim w5 (fun g6 w6 => V_callV (k' := 0) (n' := 0) (t := 7) (q := (RX7, TX7, 2)) [i_ 0, i_ 1] [] okX7_put o_a0.2.2.2.2.1.1 rfl rfl lm_3_44 liX7_put lqX7_put (Nat.le_of_ble_eq_true rfl) (Nat.le_of_ble_eq_true rfl) (Nat.le_of_ble_eq_true rfl) (cat_of rfl) (Nat.le_of_ble_eq_true rfl) (Nat.zero_le _) (Nat.zero_le _) rfl dX3_run_29 (sp_X7_put o_a0.2.2.2.2.1 w6.1 w6.2.1 w6.2.2.1 w6.2.2.2.1 w6.2.2.2.2.1 (fun Z'4 p4 => V_aload_n dX3_run_32 rfl (G_3_2 o_a0.1 o_a0.2.2.2.2.2.1 lf_3_19 dX3_run_33 (V_callV (k' := 0) (n' := 0) (t := 7) (q := (RX7, TX7, 2)) [] [] okX7_clear o_a0.2.2.2.2.2.2.1.1 rfl rfl lm_3_41 liX7_clear lqX7_clear (Nat.le_of_ble_eq_true rfl) (Nat.le_of_ble_eq_true rfl) (Nat.le_of_ble_eq_true rfl) (cat_of rfl) (Nat.le_of_ble_eq_true rfl) (Nat.zero_le _) (Nat.zero_le _) rfl dX3_run_36 (sp_X7_clear o_a0.2.2.2.2.2.2.1  (fun Z'5 p5 => V_aload_n dX3_run_39 rfl (G_3_4 o_a0.1 o_a0.2.2.2.2.2.2.2.2.2.1 lf_3_25 dX3_run_40 (V_callV (k' := 0) (n' := 0) (t := 7) (q := (RX7, TX7, 2)) [] [] okX7_clear o_a0.2.2.2.2.2.2.2.2.2.2.1.1 rfl rfl lm_3_41 liX7_clear lqX7_clear (Nat.le_of_ble_eq_true rfl) (Nat.le_of_ble_eq_true rfl) (Nat.le_of_ble_eq_true rfl) (cat_of rfl) (Nat.le_of_ble_eq_true rfl) (Nat.zero_le _) (Nat.zero_le _) rfl dX3_run_43 (sp_X7_clear o_a0.2.2.2.2.2.2.2.2.2.2.1  (fun Z'6 p6 => V_aload_n dX3_run_46 rfl (G_3_5 o_a0.1 o_a0.2.2.2.2.2.2.2.2.2.2.2.1 lf_3_28 dX3_run_47 (V_callV (k' := 0) (n' := 0) (t := 7) (q := (RX7, TX7, 2)) [] [] okX7_clear o_a0.2.2.2.2.2.2.2.2.2.2.2.2.1.1 rfl rfl lm_3_41 liX7_clear lqX7_clear (Nat.le_of_ble_eq_true rfl) (Nat.le_of_ble_eq_true rfl) (Nat.le_of_ble_eq_true rfl) (cat_of rfl) (Nat.le_of_ble_eq_true rfl) (Nat.zero_le _) (Nat.zero_le _) rfl dX3_run_50 (sp_X7_clear o_a0.2.2.2.2.2.2.2.2.2.2.2.2.1  (fun Z'7 p7 => V_aload_n dX3_run_53 rfl (G_3_5 o_a0.1 o_a0.2.2.2.2.2.2.2.2.2.2.2.1 lf_3_28 dX3_run_54 (V_iconst dX3_run_57 (V_iconst dX3_run_58 (Exists.elim ((((w6.2.2.2.2.2 Z'4 p4) Z'5 p5) Z'6 p6) Z'7 p7) (fun g7 w7 => Exists.elim w7 (fun g8 w8 => V_callV (k' := 0) (n' := 0) (t := 7) (q := (RX7, TX7, 2)) [i_ 0, i_ 1] [] okX7_put o_a0.2.2.2.2.2.2.2.2.2.2.2.2.1.1 rfl rfl lm_3_44 liX7_put lqX7_put (Nat.le_of_ble_eq_true rfl) (Nat.le_of_ble_eq_true rfl) (Nat.le_of_ble_eq_true rfl) (cat_of rfl) (Nat.le_of_ble_eq_true rfl) (Nat.zero_le _) (Nat.zero_le _) rfl dX3_run_59 (sp_X7_put o_a0.2.2.2.2.2.2.2.2.2.2.2.2.1 w8.1 w8.2.1 w8.2.2.1 w8.2.2.2.1 w8.2.2.2.2.1 (fun Z'8 p8 => V_iconst dX3_run_62 (V_istore (lv' := [some (r_ a0), some (r_ a1), some (r_ a2), some (r_ a3), some (i_ 0)]) dX3_run_63 (Nat.le_of_ble_eq_true rfl) rfl (V_msk [true, true, false, false, true] rfl (w8.2.2.2.2.2 Z'8 p8)))))))))))))))))))))))))))))))))))))))))))))))))
set_option maxRecDepth 20000 in
theorem b_X3_run_65 {k n : Nat} {x : Wx} {Z : Zt} {Q : Option Value → Wx → Zt → Prop} {a0 : Nat} {a1 : Nat} {v4 : Int} (o_a0 : Is3 x a0) (o_a1 : Is4 x a1)
    (h : Rg v4 ∧ (((20 ≤ v4) → (V mX3_run k n 261 [some (r_ a0), some (r_ a1), none, none, none] [] x Z Q)) ∧ ((v4 < 20) → (Rg (Z (a0 + 7) 0) ∧ (((Z (a0 + 7) 0 < 0) → (V mX3_run k n 261 [some (r_ a0), some (r_ a1), none, none, none] [] x Z Q)) ∧ ((0 ≤ Z (a0 + 7) 0) → (∃ g1 : Int, (∃ g2 : Nat → Int, (∃ g3 : Nat → Int, ((a0 + 1) ≠ (a0 + 7) ∧ (a0 + 1) ≠ (a0 + 13) ∧ (a0 + 7) ≠ (a0 + 13) ∧ PA Z (a0 + 1) g1 g2 ∧ PA Z (a0 + 7) g1 g3 ∧ FA Z a1 g1 ∧ (3 ≤ g1 ∧ g1 ≤ 13) ∧ 0 ≤ pd g3 ∧ (∀ (Z'1 : Zt), (PA Z'1 (a0 + 1) g1 (dvR g1 g2 g3) ∧ PA Z'1 (a0 + 13) g1 (dvQ g1 g2 g3) ∧ Oth Z Z'1 (fun q => At2 (a0 + 1) q ∨ At2 (a0 + 13) q)) → (∃ g4 : Int, (∃ g5 : Nat → Int, (PA Z'1 (a0 + 1) g4 g5 ∧ (∀ (Z'2 : Zt), (PA Z'2 (a0 + 15) g4 g5 ∧ Oth Z'1 Z'2 (At2 (a0 + 15))) → (∃ g6 : Int, (∃ g7 : Nat → Int, (PA Z'2 (a0 + 7) g6 g7 ∧ (∀ (Z'3 : Zt), (PA Z'3 (a0 + 1) g6 g7 ∧ Oth Z'2 Z'3 (At2 (a0 + 1))) → (∃ g8 : Int, (∃ g9 : Nat → Int, (PA Z'3 (a0 + 15) g8 g9 ∧ (∀ (Z'4 : Zt), (PA Z'4 (a0 + 7) g8 g9 ∧ Oth Z'3 Z'4 (At2 (a0 + 7))) → (∃ g10 : Int, (∃ g11 : Nat → Int, (∃ g12 : Nat → Int, ((a0 + 15) ≠ (a0 + 13) ∧ (a0 + 15) ≠ (a0 + 9) ∧ PA Z'4 (a0 + 13) g10 g11 ∧ PA Z'4 (a0 + 9) g10 g12 ∧ Z'4 a1 0 = g10 ∧ (2 ≤ g10 ∧ g10 ≤ 13) ∧ dg g11 10 + dg g12 10 ≤ 9 ∧ (∀ (Z'5 : Zt), (PA Z'5 (a0 + 15) g10 (pmul g10 g11 g12) ∧ Oth Z'4 Z'5 (At2 (a0 + 15))) → (∃ g13 : Int, (∃ g14 : Nat → Int, (∃ g15 : Nat → Int, ((a0 + 3) ≠ (a0 + 15) ∧ PA Z'5 (a0 + 3) g13 g14 ∧ PA Z'5 (a0 + 15) g13 g15 ∧ Z'5 a1 0 = g13 ∧ (2 ≤ g13 ∧ g13 ≤ 13) ∧ ((-1000) ≤ (-1 : Int) ∧ (-1 : Int) ≤ 1000) ∧ (∀ (Z'6 : Zt), (PA Z'6 (a0 + 3) g13 (padd g13 g14 g15 (-1 : Int)) ∧ Oth Z'5 Z'6 (At2 (a0 + 3))) → (∃ g16 : Int, (∃ g17 : Nat → Int, (PA Z'6 (a0 + 3) g16 g17 ∧ (∀ (Z'7 : Zt), (PA Z'7 (a0 + 15) g16 g17 ∧ Oth Z'6 Z'7 (At2 (a0 + 15))) → (∃ g18 : Int, (∃ g19 : Nat → Int, (PA Z'7 (a0 + 9) g18 g19 ∧ (∀ (Z'8 : Zt), (PA Z'8 (a0 + 3) g18 g19 ∧ Oth Z'7 Z'8 (At2 (a0 + 3))) → (∃ g20 : Int, (∃ g21 : Nat → Int, (PA Z'8 (a0 + 15) g20 g21 ∧ (∀ (Z'9 : Zt), (PA Z'9 (a0 + 9) g20 g21 ∧ Oth Z'8 Z'9 (At2 (a0 + 9))) → (∃ g22 : Int, (∃ g23 : Nat → Int, (∃ g24 : Nat → Int, ((a0 + 15) ≠ (a0 + 13) ∧ (a0 + 15) ≠ (a0 + 11) ∧ PA Z'9 (a0 + 13) g22 g23 ∧ PA Z'9 (a0 + 11) g22 g24 ∧ Z'9 a1 0 = g22 ∧ (2 ≤ g22 ∧ g22 ≤ 13) ∧ dg g23 10 + dg g24 10 ≤ 9 ∧ (∀ (Z'10 : Zt), (PA Z'10 (a0 + 15) g22 (pmul g22 g23 g24) ∧ Oth Z'9 Z'10 (At2 (a0 + 15))) → (∃ g25 : Int, (∃ g26 : Nat → Int, (∃ g27 : Nat → Int, ((a0 + 5) ≠ (a0 + 15) ∧ PA Z'10 (a0 + 5) g25 g26 ∧ PA Z'10 (a0 + 15) g25 g27 ∧ Z'10 a1 0 = g25 ∧ (2 ≤ g25 ∧ g25 ≤ 13) ∧ ((-1000) ≤ (-1 : Int) ∧ (-1 : Int) ≤ 1000) ∧ (∀ (Z'11 : Zt), (PA Z'11 (a0 + 5) g25 (padd g25 g26 g27 (-1 : Int)) ∧ Oth Z'10 Z'11 (At2 (a0 + 5))) → (∃ g28 : Int, (∃ g29 : Nat → Int, (PA Z'11 (a0 + 5) g28 g29 ∧ (∀ (Z'12 : Zt), (PA Z'12 (a0 + 15) g28 g29 ∧ Oth Z'11 Z'12 (At2 (a0 + 15))) → (∃ g30 : Int, (∃ g31 : Nat → Int, (PA Z'12 (a0 + 11) g30 g31 ∧ (∀ (Z'13 : Zt), (PA Z'13 (a0 + 5) g30 g31 ∧ Oth Z'12 Z'13 (At2 (a0 + 5))) → (∃ g32 : Int, (∃ g33 : Nat → Int, (PA Z'13 (a0 + 15) g32 g33 ∧ (∀ (Z'14 : Zt), (PA Z'14 (a0 + 11) g32 g33 ∧ Oth Z'13 Z'14 (At2 (a0 + 11))) → (V mX3_run k n 65 [some (r_ a0), some (r_ a1), none, none, some (i_ (v4 + 1))] [] x Z'14 Q)))))))))))))))))))))))))))))))))))))))))))))))))))))))))))))))))))) :
    V mX3_run k n 65 [some (r_ a0), some (r_ a1), none, none, some (i_ v4)] [] x Z Q :=
  V_iload dX3_run_65 rfl (V_bipush dX3_run_67 rfl (V_icmp_ge (tgt := 261) dX3_run_69 rfl h.1 (rg_c rfl) (fun c1 => V_msk [true, true, false, false, false] rfl (h.2.1 c1)) (fun c1 => V_aload_n dX3_run_72 rfl (G_3_3 o_a0.1 o_a0.2.2.2.2.2.2.2.1 lf_3_22 dX3_run_73 (G_7_0 o_a0.2.2.2.2.2.2.2.2.1.1 lf_3_48 dX3_run_76 (V_if_lt (tgt := 261) dX3_run_79 rfl (h.2.2 c1).1 (fun c2 => V_msk [true, true, false, false, false] rfl ((h.2.2 c1).2.1 c2)) (fun c2 => V_aload_n dX3_run_82 rfl (G_3_0 o_a0.1 o_a0.2.1 lf_3_10 dX3_run_83 (V_aload_n dX3_run_86 rfl (V_aload_n dX3_run_87 rfl (G_3_3 o_a0.1 o_a0.2.2.2.2.2.2.2.1 lf_3_22 dX3_run_88 (V_aload_n dX3_run_91 rfl (G_3_6 o_a0.1 o_a0.2.2.2.2.2.2.2.2.2.2.2.2.2.1 lf_3_31 dX3_run_92 (Exists.elim ((h.2.2 c1).2.2 c2) (fun g1 w1 => Exists.elim w1 (fun g2 w2 => Exists.elim w2 (fun g3 w3 => V_callV (k' := 0) (n' := 0) (t := 7) (q := (RX7, TX7, 2)) [r_ a1, r_ (a0 + 7), r_ (a0 + 13)] [] okX7_divide o_a0.2.2.1.1 rfl rfl lm_3_52 liX7_divide lqX7_divide (Nat.le_of_ble_eq_true rfl) (Nat.le_of_ble_eq_true rfl) (Nat.le_of_ble_eq_true rfl) (cat_of rfl) (Nat.le_of_ble_eq_true rfl) (Nat.zero_le _) (Nat.zero_le _) rfl dX3_run_95 (sp_X7_divide o_a0.2.2.1 o_a1 o_a0.2.2.2.2.2.2.2.2.1 o_a0.2.2.2.2.2.2.2.2.2.2.2.2.2.2.1 w3.1 w3.2.1 w3.2.2.1 w3.2.2.2.1 w3.2.2.2.2.1 w3.2.2.2.2.2.1 w3.2.2.2.2.2.2.1 w3.2.2.2.2.2.2.2.1 (fun Z'1 p1 => V_aload_n dX3_run_98 rfl (G_3_7 o_a0.1 o_a0.2.2.2.2.2.2.2.2.2.2.2.2.2.2.2.1 lf_3_34 dX3_run_99 (V_aload_n dX3_run_102 rfl (G_3_0 o_a0.1 o_a0.2.1 lf_3_10 dX3_run_103 (Exists.elim (w3.2.2.2.2.2.2.2.2 Z'1 p1) (fun g4 w4 => Exists.elim w4 (fun g5 w5 => V_callV (k' := 0) (n' := 0) (t := 7) (q := (RX7, TX7, 2)) [r_ (a0 + 1)] [] okX7_copy o_a0.2.2.2.2.2.2.2.2.2.2.2.2.2.2.2.2.1 rfl rfl lm_3_37 liX7_copy lqX7_copy (Nat.le_of_ble_eq_true rfl) (Nat.le_of_ble_eq_true rfl) (Nat.le_of_ble_eq_true rfl) (cat_of rfl) (Nat.le_of_ble_eq_true rfl) (Nat.zero_le _) (Nat.zero_le _) rfl dX3_run_106 (sp_X7_copy o_a0.2.2.2.2.2.2.2.2.2.2.2.2.2.2.2.2 o_a0.2.2.1 w5.1 (fun Z'2 p2 => V_aload_n dX3_run_109 rfl (G_3_0 o_a0.1 o_a0.2.1 lf_3_10 dX3_run_110 (V_aload_n dX3_run_113 rfl (G_3_3 o_a0.1 o_a0.2.2.2.2.2.2.2.1 lf_3_22 dX3_run_114 (Exists.elim (w5.2 Z'2 p2) (fun g6 w6 => Exists.elim w6 (fun g7 w7 => V_callV (k' := 0) (n' := 0) (t := 7) (q := (RX7, TX7, 2)) [r_ (a0 + 7)] [] okX7_copy o_a0.2.2.1.1 rfl rfl lm_3_37 liX7_copy lqX7_copy (Nat.le_of_ble_eq_true rfl) (Nat.le_of_ble_eq_true rfl) (Nat.le_of_ble_eq_true rfl) (cat_of rfl) (Nat.le_of_ble_eq_true rfl) (Nat.zero_le _) (Nat.zero_le _) rfl dX3_run_117 (sp_X7_copy o_a0.2.2.1 o_a0.2.2.2.2.2.2.2.2.1 w7.1 (fun Z'3 p3 => V_aload_n dX3_run_120 rfl (G_3_3 o_a0.1 o_a0.2.2.2.2.2.2.2.1 lf_3_22 dX3_run_121 (V_aload_n dX3_run_124 rfl (G_3_7 o_a0.1 o_a0.2.2.2.2.2.2.2.2.2.2.2.2.2.2.2.1 lf_3_34 dX3_run_125 (Exists.elim (w7.2 Z'3 p3) (fun g8 w8 => Exists.elim w8 (fun g9 w9 => V_callV (k' := 0) (n' := 0) (t := 7) (q := (RX7, TX7, 2)) [r_ (a0 + 15)] [] okX7_copy o_a0.2.2.2.2.2.2.2.2.1.1 rfl rfl lm_3_37 liX7_copy lqX7_copy (Nat.le_of_ble_eq_true rfl) (Nat.le_of_ble_eq_true rfl) (Nat.le_of_ble_eq_true rfl) (cat_of rfl) (Nat.le_of_ble_eq_true rfl) (Nat.zero_le _) (Nat.zero_le _) rfl dX3_run_128 (sp_X7_copy o_a0.2.2.2.2.2.2.2.2.1 o_a0.2.2.2.2.2.2.2.2.2.2.2.2.2.2.2.2 w9.1 (fun Z'4 p4 => V_aload_n dX3_run_131 rfl (G_3_7 o_a0.1 o_a0.2.2.2.2.2.2.2.2.2.2.2.2.2.2.2.1 lf_3_34 dX3_run_132 (V_aload_n dX3_run_135 rfl (V_aload_n dX3_run_136 rfl (G_3_6 o_a0.1 o_a0.2.2.2.2.2.2.2.2.2.2.2.2.2.1 lf_3_31 dX3_run_137 (V_aload_n dX3_run_140 rfl (G_3_4 o_a0.1 o_a0.2.2.2.2.2.2.2.2.2.1 lf_3_25 dX3_run_141 (Exists.elim (w9.2 Z'4 p4) (fun g10 w10 => Exists.elim w10 (fun g11 w11 => Exists.elim w11 (fun g12 w12 => V_callV (k' := 0) (n' := 0) (t := 7) (q := (RX7, TX7, 2)) [r_ a1, r_ (a0 + 13), r_ (a0 + 9)] [] okX7_product o_a0.2.2.2.2.2.2.2.2.2.2.2.2.2.2.2.2.1 rfl rfl lm_3_56 liX7_product lqX7_product (Nat.le_of_ble_eq_true rfl) (Nat.le_of_ble_eq_true rfl) (Nat.le_of_ble_eq_true rfl) (cat_of rfl) (Nat.le_of_ble_eq_true rfl) (Nat.zero_le _) (Nat.zero_le _) rfl dX3_run_144 (sp_X7_product o_a0.2.2.2.2.2.2.2.2.2.2.2.2.2.2.2.2 o_a1 o_a0.2.2.2.2.2.2.2.2.2.2.2.2.2.2.1 o_a0.2.2.2.2.2.2.2.2.2.2.1 w12.1 w12.2.1 w12.2.2.1 w12.2.2.2.1 w12.2.2.2.2.1 w12.2.2.2.2.2.1 w12.2.2.2.2.2.2.1 (fun Z'5 p5 => V_aload_n dX3_run_147 rfl (G_3_1 o_a0.1 o_a0.2.2.2.1 lf_3_16 dX3_run_148 (V_aload_n dX3_run_151 rfl (V_aload_n dX3_run_152 rfl (G_3_7 o_a0.1 o_a0.2.2.2.2.2.2.2.2.2.2.2.2.2.2.2.1 lf_3_34 dX3_run_153 (V_iconst dX3_run_156 (Exists.elim (w12.2.2.2.2.2.2.2 Z'5 p5) (fun g13 w13 => Exists.elim w13 (fun g14 w14 => Exists.elim w14 (fun g15 w15 => V_callV (k' := 0) (n' := 0) (t := 7) (q := (RX7, TX7, 2)) [r_ a1, r_ (a0 + 15), i_ (-1)] [] okX7_add o_a0.2.2.2.2.1.1 rfl rfl lm_3_59 liX7_add lqX7_add (Nat.le_of_ble_eq_true rfl) (Nat.le_of_ble_eq_true rfl) (Nat.le_of_ble_eq_true rfl) (cat_of rfl) (Nat.le_of_ble_eq_true rfl) (Nat.zero_le _) (Nat.zero_le _) rfl dX3_run_157 (sp_X7_add o_a0.2.2.2.2.1 o_a1 o_a0.2.2.2.2.2.2.2.2.2.2.2.2.2.2.2.2 w15.1 w15.2.1 w15.2.2.1 w15.2.2.2.1 w15.2.2.2.2.1 w15.2.2.2.2.2.1 (fun Z'6 p6 => V_aload_n dX3_run_160 rfl (G_3_7 o_a0.1 o_a0.2.2.2.2.2.2.2.2.2.2.2.2.2.2.2.1 lf_3_34 dX3_run_161 (V_aload_n dX3_run_164 rfl (G_3_1 o_a0.1 o_a0.2.2.2.1 lf_3_16 dX3_run_165 (Exists.elim (w15.2.2.2.2.2.2 Z'6 p6) (fun g16 w16 => Exists.elim w16 (fun g17 w17 => V_callV (k' := 0) (n' := 0) (t := 7) (q := (RX7, TX7, 2)) [r_ (a0 + 3)] [] okX7_copy o_a0.2.2.2.2.2.2.2.2.2.2.2.2.2.2.2.2.1 rfl rfl lm_3_37 liX7_copy lqX7_copy (Nat.le_of_ble_eq_true rfl) (Nat.le_of_ble_eq_true rfl) (Nat.le_of_ble_eq_true rfl) (cat_of rfl) (Nat.le_of_ble_eq_true rfl) (Nat.zero_le _) (Nat.zero_le _) rfl dX3_run_168 (sp_X7_copy o_a0.2.2.2.2.2.2.2.2.2.2.2.2.2.2.2.2 o_a0.2.2.2.2.1 w17.1 (fun Z'7 p7 => V_aload_n dX3_run_171 rfl (G_3_1 o_a0.1 o_a0.2.2.2.1 lf_3_16 dX3_run_172 (V_aload_n dX3_run_175 rfl (G_3_4 o_a0.1 o_a0.2.2.2.2.2.2.2.2.2.1 lf_3_25 dX3_run_176 (Exists.elim (w17.2 Z'7 p7) (fun g18 w18 => Exists.elim w18 (fun g19 w19 => V_callV (k' := 0) (n' := 0) (t := 7) (q := (RX7, TX7, 2)) [r_ (a0 + 9)] [] okX7_copy o_a0.2.2.2.2.1.1 rfl rfl lm_3_37 liX7_copy lqX7_copy (Nat.le_of_ble_eq_true rfl) (Nat.le_of_ble_eq_true rfl) (Nat.le_of_ble_eq_true rfl) (cat_of rfl) (Nat.le_of_ble_eq_true rfl) (Nat.zero_le _) (Nat.zero_le _) rfl dX3_run_179 (sp_X7_copy o_a0.2.2.2.2.1 o_a0.2.2.2.2.2.2.2.2.2.2.1 w19.1 (fun Z'8 p8 => V_aload_n dX3_run_182 rfl (G_3_4 o_a0.1 o_a0.2.2.2.2.2.2.2.2.2.1 lf_3_25 dX3_run_183 (V_aload_n dX3_run_186 rfl (G_3_7 o_a0.1 o_a0.2.2.2.2.2.2.2.2.2.2.2.2.2.2.2.1 lf_3_34 dX3_run_187 (Exists.elim (w19.2 Z'8 p8) (fun g20 w20 => Exists.elim w20 (fun g21 w21 => V_callV (k' := 0) (n' := 0) (t := 7) (q := (RX7, TX7, 2)) [r_ (a0 + 15)] [] okX7_copy o_a0.2.2.2.2.2.2.2.2.2.2.1.1 rfl rfl lm_3_37 liX7_copy lqX7_copy (Nat.le_of_ble_eq_true rfl) (Nat.le_of_ble_eq_true rfl) (Nat.le_of_ble_eq_true rfl) (cat_of rfl) (Nat.le_of_ble_eq_true rfl) (Nat.zero_le _) (Nat.zero_le _) rfl dX3_run_190 (sp_X7_copy o_a0.2.2.2.2.2.2.2.2.2.2.1 o_a0.2.2.2.2.2.2.2.2.2.2.2.2.2.2.2.2 w21.1 (fun Z'9 p9 => V_aload_n dX3_run_193 rfl (G_3_7 o_a0.1 o_a0.2.2.2.2.2.2.2.2.2.2.2.2.2.2.2.1 lf_3_34 dX3_run_194 (V_aload_n dX3_run_197 rfl (V_aload_n dX3_run_198 rfl (G_3_6 o_a0.1 o_a0.2.2.2.2.2.2.2.2.2.2.2.2.2.1 lf_3_31 dX3_run_199 (V_aload_n dX3_run_202 rfl (G_3_5 o_a0.1 o_a0.2.2.2.2.2.2.2.2.2.2.2.1 lf_3_28 dX3_run_203 (Exists.elim (w21.2 Z'9 p9) (fun g22 w22 => Exists.elim w22 (fun g23 w23 => Exists.elim w23 (fun g24 w24 => V_callV (k' := 0) (n' := 0) (t := 7) (q := (RX7, TX7, 2)) [r_ a1, r_ (a0 + 13), r_ (a0 + 11)] [] okX7_product o_a0.2.2.2.2.2.2.2.2.2.2.2.2.2.2.2.2.1 rfl rfl lm_3_56 liX7_product lqX7_product (Nat.le_of_ble_eq_true rfl) (Nat.le_of_ble_eq_true rfl) (Nat.le_of_ble_eq_true rfl) (cat_of rfl) (Nat.le_of_ble_eq_true rfl) (Nat.zero_le _) (Nat.zero_le _) rfl dX3_run_206 (sp_X7_product o_a0.2.2.2.2.2.2.2.2.2.2.2.2.2.2.2.2 o_a1 o_a0.2.2.2.2.2.2.2.2.2.2.2.2.2.2.1 o_a0.2.2.2.2.2.2.2.2.2.2.2.2.1 w24.1 w24.2.1 w24.2.2.1 w24.2.2.2.1 w24.2.2.2.2.1 w24.2.2.2.2.2.1 w24.2.2.2.2.2.2.1 (fun Z'10 p10 => V_aload_n dX3_run_209 rfl (G_3_2 o_a0.1 o_a0.2.2.2.2.2.1 lf_3_19 dX3_run_210 (V_aload_n dX3_run_213 rfl (V_aload_n dX3_run_214 rfl (G_3_7 o_a0.1 o_a0.2.2.2.2.2.2.2.2.2.2.2.2.2.2.2.1 lf_3_34 dX3_run_215 (V_iconst dX3_run_218 (Exists.elim (w24.2.2.2.2.2.2.2 Z'10 p10) (fun g25 w25 => Exists.elim w25 (fun g26 w26 => Exists.elim w26 (fun g27 w27 => V_callV (k' := 0) (n' := 0) (t := 7) (q := (RX7, TX7, 2)) [r_ a1, r_ (a0 + 15), i_ (-1)] [] okX7_add o_a0.2.2.2.2.2.2.1.1 rfl rfl lm_3_59 liX7_add lqX7_add (Nat.le_of_ble_eq_true rfl) (Nat.le_of_ble_eq_true rfl) (Nat.le_of_ble_eq_true rfl) (cat_of rfl) (Nat.le_of_ble_eq_true rfl) (Nat.zero_le _) (Nat.zero_le _) rfl dX3_run_219 (sp_X7_add o_a0.2.2.2.2.2.2.1 o_a1 o_a0.2.2.2.2.2.2.2.2.2.2.2.2.2.2.2.2 w27.1 w27.2.1 w27.2.2.1 w27.2.2.2.1 w27.2.2.2.2.1 w27.2.2.2.2.2.1 (fun Z'11 p11 => V_aload_n dX3_run_222 rfl (G_3_7 o_a0.1 o_a0.2.2.2.2.2.2.2.2.2.2.2.2.2.2.2.1 lf_3_34 dX3_run_223 (V_aload_n dX3_run_226 rfl (G_3_2 o_a0.1 o_a0.2.2.2.2.2.1 lf_3_19 dX3_run_227 (Exists.elim (w27.2.2.2.2.2.2 Z'11 p11) (fun g28 w28 => Exists.elim w28 (fun g29 w29 => V_callV (k' := 0) (n' := 0) (t := 7) (q := (RX7, TX7, 2)) [r_ (a0 + 5)] [] okX7_copy o_a0.2.2.2.2.2.2.2.2.2.2.2.2.2.2.2.2.1 rfl rfl lm_3_37 liX7_copy lqX7_copy (Nat.le_of_ble_eq_true rfl) (Nat.le_of_ble_eq_true rfl) (Nat.le_of_ble_eq_true rfl) (cat_of rfl) (Nat.le_of_ble_eq_true rfl) (Nat.zero_le _) (Nat.zero_le _) rfl dX3_run_230 (sp_X7_copy o_a0.2.2.2.2.2.2.2.2.2.2.2.2.2.2.2.2 o_a0.2.2.2.2.2.2.1 w29.1 (fun Z'12 p12 => V_aload_n dX3_run_233 rfl (G_3_2 o_a0.1 o_a0.2.2.2.2.2.1 lf_3_19 dX3_run_234 (V_aload_n dX3_run_237 rfl (G_3_5 o_a0.1 o_a0.2.2.2.2.2.2.2.2.2.2.2.1 lf_3_28 dX3_run_238 (Exists.elim (w29.2 Z'12 p12) (fun g30 w30 => Exists.elim w30 (fun g31 w31 => V_callV (k' := 0) (n' := 0) (t := 7) (q := (RX7, TX7, 2)) [r_ (a0 + 11)] [] okX7_copy o_a0.2.2.2.2.2.2.1.1 rfl rfl lm_3_37 liX7_copy lqX7_copy (Nat.le_of_ble_eq_true rfl) (Nat.le_of_ble_eq_true rfl) (Nat.le_of_ble_eq_true rfl) (cat_of rfl) (Nat.le_of_ble_eq_true rfl) (Nat.zero_le _) (Nat.zero_le _) rfl dX3_run_241 (sp_X7_copy o_a0.2.2.2.2.2.2.1 o_a0.2.2.2.2.2.2.2.2.2.2.2.2.1 w31.1 (fun Z'13 p13 => V_aload_n dX3_run_244 rfl (G_3_5 o_a0.1 o_a0.2.2.2.2.2.2.2.2.2.2.2.1 lf_3_28 dX3_run_245 (V_aload_n dX3_run_248 rfl (G_3_7 o_a0.1 o_a0.2.2.2.2.2.2.2.2.2.2.2.2.2.2.2.1 lf_3_34 dX3_run_249 (Exists.elim (w31.2 Z'13 p13) (fun g32 w32 => Exists.elim w32 (fun g33 w33 => V_callV (k' := 0) (n' := 0) (t := 7) (q := (RX7, TX7, 2)) [r_ (a0 + 15)] [] okX7_copy o_a0.2.2.2.2.2.2.2.2.2.2.2.2.1.1 rfl rfl lm_3_37 liX7_copy lqX7_copy (Nat.le_of_ble_eq_true rfl) (Nat.le_of_ble_eq_true rfl) (Nat.le_of_ble_eq_true rfl) (cat_of rfl) (Nat.le_of_ble_eq_true rfl) (Nat.zero_le _) (Nat.zero_le _) rfl dX3_run_252 (sp_X7_copy o_a0.2.2.2.2.2.2.2.2.2.2.2.2.1 o_a0.2.2.2.2.2.2.2.2.2.2.2.2.2.2.2.2 w33.1 (fun Z'14 p14 => V_iinc (lv' := [some (r_ a0), some (r_ a1), none, none, some (i_ (v4 + 1))]) dX3_run_255 rfl (Nat.le_of_ble_eq_true rfl) rfl (V_goto (tgt := 65) dX3_run_258 rfl (V_msk [true, true, false, false, true] rfl (w33.2 Z'14 p14))))))))))))))))))))))))))))))))))))))))))))))))))))))))))))))))))))))))))))))))))))))))))))))))))))))))))))))))))))))))))))))))))))))))))))
set_option maxRecDepth 20000 in
theorem b_X3_run_261 {k n : Nat} {x : Wx} {Z : Zt} {Q : Option Value → Wx → Zt → Prop} {a0 : Nat} {a1 : Nat} (o_a0 : Is3 x a0) (o_a1 : Is4 x a1)
    (h : Rg (Z (a0 + 1) 0) ∧ (((Z (a0 + 1) 0 < 0) → (Q none x Z)) ∧ ((0 ≤ Z (a0 + 1) 0) → (0 ≤ (Z (a0 + 1) 0) ∧ (Z (a0 + 1) 0) < 10 ∧ (0 ≤ (Z ((a0 + 1) + 1) (Int.toNat (Z (a0 + 1) 0))) ∧ (Z ((a0 + 1) + 1) (Int.toNat (Z (a0 + 1) 0))) < 13 ∧ (∀ i1 : Int, i1 = Z (a1 + 1) (Int.toNat (Z ((a0 + 1) + 1) (Int.toNat (Z (a0 + 1) 0)))) → (∃ g1 : Int, (∃ g2 : Nat → Int, (PA Z (a0 + 1) g1 g2 ∧ Z a1 0 = g1 ∧ (2 ≤ g1 ∧ g1 ≤ 13) ∧ ((-1000) ≤ i1 ∧ i1 ≤ 1000) ∧ (∀ (Z'1 : Zt), (PA Z'1 (a0 + 1) g1 (pscl g1 g2 i1) ∧ Oth Z Z'1 (At2 (a0 + 1))) → (∃ g3 : Int, (∃ g4 : Nat → Int, (PA Z'1 (a0 + 3) g3 g4 ∧ Z'1 a1 0 = g3 ∧ (2 ≤ g3 ∧ g3 ≤ 13) ∧ ((-1000) ≤ i1 ∧ i1 ≤ 1000) ∧ (∀ (Z'2 : Zt), (PA Z'2 (a0 + 3) g3 (pscl g3 g4 i1) ∧ Oth Z'1 Z'2 (At2 (a0 + 3))) → (∃ g5 : Int, (∃ g6 : Nat → Int, (PA Z'2 (a0 + 5) g5 g6 ∧ Z'2 a1 0 = g5 ∧ (2 ≤ g5 ∧ g5 ≤ 13) ∧ ((-1000) ≤ i1 ∧ i1 ≤ 1000) ∧ (∀ (Z'3 : Zt), (PA Z'3 (a0 + 5) g5 (pscl g5 g6 i1) ∧ Oth Z'2 Z'3 (At2 (a0 + 5))) → (Q none x Z'3))))))))))))))))))) :
    V mX3_run k n 261 [some (r_ a0), some (r_ a1), none, none, none] [] x Z Q :=
  V_aload_n dX3_run_261 rfl (G_3_0 o_a0.1 o_a0.2.1 lf_3_10 dX3_run_262 (G_7_0 o_a0.2.2.1.1 lf_3_48 dX3_run_265 (V_if_lt (tgt := 321) dX3_run_268 rfl h.1 (fun c1 => V_ret dX3_run_321 rfl (h.2.1 c1)) (fun c1 => V_aload_n dX3_run_271 rfl (V_aload_n dX3_run_272 rfl (G_3_0 o_a0.1 o_a0.2.1 lf_3_10 dX3_run_273 (V_aload_n dX3_run_276 rfl (G_3_0 o_a0.1 o_a0.2.1 lf_3_10 dX3_run_277 (G_7_0 o_a0.2.2.1.1 lf_3_48 dX3_run_280 (V_callV (k' := 0) (n' := 0) (t := 7) (q := (RX7, TX7, 2)) [i_ (Z (a0 + 1) 0)] [r_ a1] okX7_at o_a0.2.2.1.1 rfl rfl lm_3_63 liX7_at lqX7_at (Nat.le_of_ble_eq_true rfl) (Nat.le_of_ble_eq_true rfl) (Nat.le_of_ble_eq_true rfl) (cat_of rfl) (Nat.le_of_ble_eq_true rfl) (Nat.zero_le _) (Nat.zero_le _) rfl dX3_run_283 (sp_X7_at o_a0.2.2.1 (h.2.2 c1).1 (h.2.2 c1).2.1 (V_callV (k' := 0) (n' := 0) (t := 4) (q := (RX4, TX4, 4)) [i_ (Z ((a0 + 1) + 1) (Int.toNat (Z (a0 + 1) 0)))] [] okX4_inverse o_a1.1 rfl rfl lm_3_67 liX4_inverse lqX4_inverse (Nat.le_of_ble_eq_true rfl) (Nat.le_of_ble_eq_true rfl) (Nat.le_of_ble_eq_true rfl) (cat_of rfl) (Nat.le_of_ble_eq_true rfl) (Nat.zero_le _) (Nat.zero_le _) rfl dX3_run_286 (sp_X4_inverse o_a1 (h.2.2 c1).2.2.1 (h.2.2 c1).2.2.2.1 (V_nmi (fun i1 ei1 => V_istore (lv' := [some (r_ a0), some (r_ a1), none, none, some (i_ i1)]) dX3_run_289 (Nat.le_of_ble_eq_true rfl) rfl (V_aload_n dX3_run_291 rfl (G_3_0 o_a0.1 o_a0.2.1 lf_3_10 dX3_run_292 (V_aload_n dX3_run_295 rfl (V_iload dX3_run_296 rfl (Exists.elim ((h.2.2 c1).2.2.2.2 i1 ei1) (fun g1 w1 => Exists.elim w1 (fun g2 w2 => V_callV (k' := 0) (n' := 0) (t := 7) (q := (RX7, TX7, 2)) [r_ a1, i_ i1] [] okX7_scale o_a0.2.2.1.1 rfl rfl lm_3_72 liX7_scale lqX7_scale (Nat.le_of_ble_eq_true rfl) (Nat.le_of_ble_eq_true rfl) (Nat.le_of_ble_eq_true rfl) (cat_of rfl) (Nat.le_of_ble_eq_true rfl) (Nat.zero_le _) (Nat.zero_le _) rfl dX3_run_298 (sp_X7_scale o_a0.2.2.1 o_a1 w2.1 w2.2.1 w2.2.2.1 w2.2.2.2.1 (fun Z'1 p1 => V_aload_n dX3_run_301 rfl (G_3_1 o_a0.1 o_a0.2.2.2.1 lf_3_16 dX3_run_302 (V_aload_n dX3_run_305 rfl (V_iload dX3_run_306 rfl (Exists.elim (w2.2.2.2.2 Z'1 p1) (fun g3 w3 => Exists.elim w3 (fun g4 w4 => V_callV (k' := 0) (n' := 0) (t := 7) (q := (RX7, TX7, 2)) [r_ a1, i_ i1] [] okX7_scale o_a0.2.2.2.2.1.1 rfl rfl lm_3_72 liX7_scale lqX7_scale (Nat.le_of_ble_eq_true rfl) (Nat.le_of_ble_eq_true rfl) (Nat.le_of_ble_eq_true rfl) (cat_of rfl) (Nat.le_of_ble_eq_true rfl) (Nat.zero_le _) (Nat.zero_le _) rfl dX3_run_308 (sp_X7_scale o_a0.2.2.2.2.1 o_a1 w4.1 w4.2.1 w4.2.2.1 w4.2.2.2.1 (fun Z'2 p2 => V_aload_n dX3_run_311 rfl (G_3_2 o_a0.1 o_a0.2.2.2.2.2.1 lf_3_19 dX3_run_312 (V_aload_n dX3_run_315 rfl (V_iload dX3_run_316 rfl (Exists.elim (w4.2.2.2.2 Z'2 p2) (fun g5 w5 => Exists.elim w5 (fun g6 w6 => V_callV (k' := 0) (n' := 0) (t := 7) (q := (RX7, TX7, 2)) [r_ a1, i_ i1] [] okX7_scale o_a0.2.2.2.2.2.2.1.1 rfl rfl lm_3_72 liX7_scale lqX7_scale (Nat.le_of_ble_eq_true rfl) (Nat.le_of_ble_eq_true rfl) (Nat.le_of_ble_eq_true rfl) (cat_of rfl) (Nat.le_of_ble_eq_true rfl) (Nat.zero_le _) (Nat.zero_le _) rfl dX3_run_318 (sp_X7_scale o_a0.2.2.2.2.2.2.1 o_a1 w6.1 w6.2.1 w6.2.2.1 w6.2.2.2.1 (fun Z'3 p3 => V_ret dX3_run_321 rfl (w6.2.2.2.2 Z'3 p3)))))))))))))))))))))))))))))))))))))))))
theorem pone_put : (fun j => if j = Int.toNat 0 then (1 : Int) else (fun _ : Nat => (0 : Int)) j) = pone := by funext j; rfl
theorem sp_X3_run {k n : Nat} {x : Wx} {Z : Zt} {Q : Option Value → Wx → Zt → Prop} {a fl b c : Nat} (o : Is3 x a) (ofl : Is4 x fl) (ob : Is7 x b) (oc : Is7 x c) {p : Int} {f g : Nat → Int} (hf : PA Z b p f) (hg : PA Z c p g) (hF : FA Z fl p) (hp : 3 ≤ p ∧ p ≤ 13) (hd1 : fl + 2 < a ∨ a + 16 < fl) (hd2 : c + 1 < a ∨ a + 16 < c) (hf1 : 0 ≤ pd f) (h : ∀ Z' : Zt, (PA Z' (a + 1) p (eG p f g) ∧ PA Z' (a + 3) p (eS p f g) ∧ PA Z' (a + 5) p (eT p f g) ∧ Oth Z Z' (fun q => a < q ∧ q ≤ a + 16)) → Q none x Z') : V mX3_run k n 0 [some (r_ a), some (r_ fl), some (r_ b), some (r_ c), none] [] x Z Q := by
  have hO : Oth Z Z (fun q => a < q ∧ q ≤ a + 16) := Oth.rf
  -- the end: all is divided by the lead
  have fin : ∀ Z1 : Zt, EA Z1 a p (eEnd p f g) → FA Z1 fl p → Oth Z Z1 (fun q => a < q ∧ q ≤ a + 16) → 0 ≤ pd (eEnd p f g).1 → V mX3_run k n 261 [some (r_ a), some (r_ fl), none, none, none] [] x Z1 Q := by
    intro Z1 hE hF hO h0
    unfold eG eS eT at h
    generalize hEe : eEnd p f g = E at h hE h0
    obtain ⟨h1, h7, h3, h9, h5, h11⟩ := hE
    have hpd := h1.deg
    have h9d := h1.dgr
    have hl := h1.2.2.1 (pd E.1).toNat
    have hlz : Z1 (a + 1 + 1) (Z1 (a + 1) 0).toNat = E.1 (pd E.1).toNat := by rw [hpd]; exact h1.1 _ (by omega)
    have hiv : Z1 (fl + 1) (E.1 (pd E.1).toNat).toNat = eInv p E := by
      rw [hF.2.2.1 _ (by omega), show (((E.1 (pd E.1).toNat).toNat : Nat) : Int) = E.1 (pd E.1).toNat by omega]; rfl
    have hib := inv_bd hp.2 (by omega) (E.1 (pd E.1).toNat)
    refine b_X3_run_261 o ofl ?_
    rw [hlz, hiv]
    generalize hIv : eInv p E = iv at h
    have hib2 : 0 ≤ iv ∧ iv ≤ 13 := by rw [← hIv]; exact hib
    refine ⟨⟨by omega, by omega⟩, fun c1 => by omega, fun c1 => ⟨by omega, by omega, by omega, by omega, ?_⟩⟩
    · clear h7 h9 h11
      intro i1 ei1
      subst ei1
      refine ⟨p, _, h1, hF.1, ⟨by omega, by omega⟩, ⟨by omega, by omega⟩, fun Zn hh => ?_⟩
      obtain ⟨n_h1, ho⟩ := hh
      replace h3 := h3.kept ho (by first | omega | (unfold At2; omega)) (by first | omega | (unfold At2; omega))
      replace h5 := h5.kept ho (by first | omega | (unfold At2; omega)) (by first | omega | (unfold At2; omega))
      replace hF := hF.kept ho (by first | omega | (unfold At2; omega)) (by first | omega | (unfold At2; omega)) (by first | omega | (unfold At2; omega))
      replace h1 := n_h1
      replace hO := hO.tr (ho.wk (by first | (intro q; omega) | (unfold At2; intro q; omega)))
      refine ⟨p, _, h3, hF.1, ⟨by omega, by omega⟩, ⟨by omega, by omega⟩, fun Zn hh => ?_⟩
      obtain ⟨n_h3, ho⟩ := hh
      replace h1 := h1.kept ho (by first | omega | (unfold At2; omega)) (by first | omega | (unfold At2; omega))
      replace h5 := h5.kept ho (by first | omega | (unfold At2; omega)) (by first | omega | (unfold At2; omega))
      replace hF := hF.kept ho (by first | omega | (unfold At2; omega)) (by first | omega | (unfold At2; omega)) (by first | omega | (unfold At2; omega))
      replace h3 := n_h3
      replace hO := hO.tr (ho.wk (by first | (intro q; omega) | (unfold At2; intro q; omega)))
      refine ⟨p, _, h5, hF.1, ⟨by omega, by omega⟩, ⟨by omega, by omega⟩, fun Zn hh => ?_⟩
      obtain ⟨n_h5, ho⟩ := hh
      replace h1 := h1.kept ho (by first | omega | (unfold At2; omega)) (by first | omega | (unfold At2; omega))
      replace h3 := h3.kept ho (by first | omega | (unfold At2; omega)) (by first | omega | (unfold At2; omega))
      replace hF := hF.kept ho (by first | omega | (unfold At2; omega)) (by first | omega | (unfold At2; omega)) (by first | omega | (unfold At2; omega))
      replace h5 := n_h5
      replace hO := hO.tr (ho.wk (by first | (intro q; omega) | (unfold At2; intro q; omega)))
      exact h _ ⟨h1, h3, h5, hO⟩
  -- a round
  have lp : ∀ (m : Nat) (v : Int) (Z1 : Zt) (e : E6), v + m = 20 → 0 ≤ v → EA Z1 a p e → ED e → (0 ≤ pd e.1) → FA Z1 fl p → Oth Z Z1 (fun q => a < q ∧ q ≤ a + 16) → eun p m e = eEnd p f g → V mX3_run k n 65 [some (r_ a), some (r_ fl), none, none, some (i_ v)] [] x Z1 Q := by
    intro m
    induction m with
    | zero =>
      intro v Z1 e hm hv hE hED h0 hF hO he
      refine b_X3_run_65 o ofl ⟨⟨by omega, by omega⟩, fun _ => fin Z1 (by rw [← he]; exact hE) hF hO (by rw [← he]; exact h0), fun c1 => by omega⟩
    | succ m ih =>
      intro v Z1 e hm hv hE hED h0 hF hO he
      obtain ⟨h1, h7, h3, h9, h5, h11⟩ := hE
      have p7 := h7.deg
      have d7 := h7.dgr
      refine b_X3_run_65 o ofl ⟨⟨by omega, by omega⟩, fun c1 => by omega, fun c1 => ⟨⟨by omega, by omega⟩, fun c2 => ?_, fun c2 => ?_⟩⟩
      · have he2 : e = eEnd p f g := by
          rw [← he]; unfold eun; rw [if_pos (by omega)]
        exact fin Z1 (by rw [← he2]; exact ⟨h1, h7, h3, h9, h5, h11⟩) hF hO (by rw [← he2]; exact h0)
      have hpd : 0 ≤ pd e.2.1 := by omega
      have f3 := h3.fin
      have f9 := h9.fin
      have f5 := h5.fin
      have f11 := h11.fin
      have g9 := h9.pd9
      have g11 := h11.pd9
      have hR := pd_dvR (p := p) (g := e.2.1) h1.fin hpd
      refine ⟨p, _, _, by omega, by omega, by omega, h1, h7, hF, ⟨by omega, by omega⟩, hpd, fun Zn hh => ?_⟩
      obtain ⟨n_h1, n_h13, ho⟩ := hh
      replace h7 := h7.kept ho (by first | omega | (unfold At2; omega)) (by first | omega | (unfold At2; omega))
      replace h3 := h3.kept ho (by first | omega | (unfold At2; omega)) (by first | omega | (unfold At2; omega))
      replace h9 := h9.kept ho (by first | omega | (unfold At2; omega)) (by first | omega | (unfold At2; omega))
      replace h5 := h5.kept ho (by first | omega | (unfold At2; omega)) (by first | omega | (unfold At2; omega))
      replace h11 := h11.kept ho (by first | omega | (unfold At2; omega)) (by first | omega | (unfold At2; omega))
      replace hF := hF.kept ho (by first | omega | (unfold At2; omega)) (by first | omega | (unfold At2; omega)) (by first | omega | (unfold At2; omega))
      replace h1 := n_h1
      have h13 := n_h13
      replace hO := hO.tr (ho.wk (by first | (intro q; omega) | (unfold At2; intro q; omega)))
      have fQ := h13.fin
      have q9 := h13.dg10
      have s9 := h9.dg10
      refine ⟨p, _, h1, fun Zn hh => ?_⟩
      obtain ⟨n_h15, ho⟩ := hh
      replace h1 := h1.kept ho (by first | omega | (unfold At2; omega)) (by first | omega | (unfold At2; omega))
      replace h7 := h7.kept ho (by first | omega | (unfold At2; omega)) (by first | omega | (unfold At2; omega))
      replace h3 := h3.kept ho (by first | omega | (unfold At2; omega)) (by first | omega | (unfold At2; omega))
      replace h9 := h9.kept ho (by first | omega | (unfold At2; omega)) (by first | omega | (unfold At2; omega))
      replace h5 := h5.kept ho (by first | omega | (unfold At2; omega)) (by first | omega | (unfold At2; omega))
      replace h11 := h11.kept ho (by first | omega | (unfold At2; omega)) (by first | omega | (unfold At2; omega))
      replace h13 := h13.kept ho (by first | omega | (unfold At2; omega)) (by first | omega | (unfold At2; omega))
      replace hF := hF.kept ho (by first | omega | (unfold At2; omega)) (by first | omega | (unfold At2; omega)) (by first | omega | (unfold At2; omega))
      have h15 := n_h15
      replace hO := hO.tr (ho.wk (by first | (intro q; omega) | (unfold At2; intro q; omega)))
      refine ⟨p, _, h7, fun Zn hh => ?_⟩
      obtain ⟨n_h1, ho⟩ := hh
      replace h7 := h7.kept ho (by first | omega | (unfold At2; omega)) (by first | omega | (unfold At2; omega))
      replace h3 := h3.kept ho (by first | omega | (unfold At2; omega)) (by first | omega | (unfold At2; omega))
      replace h9 := h9.kept ho (by first | omega | (unfold At2; omega)) (by first | omega | (unfold At2; omega))
      replace h5 := h5.kept ho (by first | omega | (unfold At2; omega)) (by first | omega | (unfold At2; omega))
      replace h11 := h11.kept ho (by first | omega | (unfold At2; omega)) (by first | omega | (unfold At2; omega))
      replace h13 := h13.kept ho (by first | omega | (unfold At2; omega)) (by first | omega | (unfold At2; omega))
      replace h15 := h15.kept ho (by first | omega | (unfold At2; omega)) (by first | omega | (unfold At2; omega))
      replace hF := hF.kept ho (by first | omega | (unfold At2; omega)) (by first | omega | (unfold At2; omega)) (by first | omega | (unfold At2; omega))
      replace h1 := n_h1
      replace hO := hO.tr (ho.wk (by first | (intro q; omega) | (unfold At2; intro q; omega)))
      refine ⟨p, _, h15, fun Zn hh => ?_⟩
      obtain ⟨n_h7, ho⟩ := hh
      replace h1 := h1.kept ho (by first | omega | (unfold At2; omega)) (by first | omega | (unfold At2; omega))
      replace h3 := h3.kept ho (by first | omega | (unfold At2; omega)) (by first | omega | (unfold At2; omega))
      replace h9 := h9.kept ho (by first | omega | (unfold At2; omega)) (by first | omega | (unfold At2; omega))
      replace h5 := h5.kept ho (by first | omega | (unfold At2; omega)) (by first | omega | (unfold At2; omega))
      replace h11 := h11.kept ho (by first | omega | (unfold At2; omega)) (by first | omega | (unfold At2; omega))
      replace h13 := h13.kept ho (by first | omega | (unfold At2; omega)) (by first | omega | (unfold At2; omega))
      replace h15 := h15.kept ho (by first | omega | (unfold At2; omega)) (by first | omega | (unfold At2; omega))
      replace hF := hF.kept ho (by first | omega | (unfold At2; omega)) (by first | omega | (unfold At2; omega)) (by first | omega | (unfold At2; omega))
      replace h7 := n_h7
      replace hO := hO.tr (ho.wk (by first | (intro q; omega) | (unfold At2; intro q; omega)))
      refine ⟨p, _, _, by omega, by omega, h13, h9, hF.1, ⟨by omega, by omega⟩, (by rw [h13.dg10, h9.dg10]; exact ED_q hED.1 hpd h9.pd9), fun Zn hh => ?_⟩
      obtain ⟨n_h15, ho⟩ := hh
      replace h1 := h1.kept ho (by first | omega | (unfold At2; omega)) (by first | omega | (unfold At2; omega))
      replace h7 := h7.kept ho (by first | omega | (unfold At2; omega)) (by first | omega | (unfold At2; omega))
      replace h3 := h3.kept ho (by first | omega | (unfold At2; omega)) (by first | omega | (unfold At2; omega))
      replace h9 := h9.kept ho (by first | omega | (unfold At2; omega)) (by first | omega | (unfold At2; omega))
      replace h5 := h5.kept ho (by first | omega | (unfold At2; omega)) (by first | omega | (unfold At2; omega))
      replace h11 := h11.kept ho (by first | omega | (unfold At2; omega)) (by first | omega | (unfold At2; omega))
      replace h13 := h13.kept ho (by first | omega | (unfold At2; omega)) (by first | omega | (unfold At2; omega))
      replace hF := hF.kept ho (by first | omega | (unfold At2; omega)) (by first | omega | (unfold At2; omega)) (by first | omega | (unfold At2; omega))
      replace h15 := n_h15
      replace hO := hO.tr (ho.wk (by first | (intro q; omega) | (unfold At2; intro q; omega)))
      have fP := h15.fin
      refine ⟨p, _, _, by omega, h3, h15, hF.1, ⟨by omega, by omega⟩, ⟨by omega, by omega⟩, fun Zn hh => ?_⟩
      obtain ⟨n_h3, ho⟩ := hh
      replace h1 := h1.kept ho (by first | omega | (unfold At2; omega)) (by first | omega | (unfold At2; omega))
      replace h7 := h7.kept ho (by first | omega | (unfold At2; omega)) (by first | omega | (unfold At2; omega))
      replace h9 := h9.kept ho (by first | omega | (unfold At2; omega)) (by first | omega | (unfold At2; omega))
      replace h5 := h5.kept ho (by first | omega | (unfold At2; omega)) (by first | omega | (unfold At2; omega))
      replace h11 := h11.kept ho (by first | omega | (unfold At2; omega)) (by first | omega | (unfold At2; omega))
      replace h13 := h13.kept ho (by first | omega | (unfold At2; omega)) (by first | omega | (unfold At2; omega))
      replace h15 := h15.kept ho (by first | omega | (unfold At2; omega)) (by first | omega | (unfold At2; omega))
      replace hF := hF.kept ho (by first | omega | (unfold At2; omega)) (by first | omega | (unfold At2; omega)) (by first | omega | (unfold At2; omega))
      replace h3 := n_h3
      replace hO := hO.tr (ho.wk (by first | (intro q; omega) | (unfold At2; intro q; omega)))
      refine ⟨p, _, h3, fun Zn hh => ?_⟩
      obtain ⟨n_h15, ho⟩ := hh
      replace h1 := h1.kept ho (by first | omega | (unfold At2; omega)) (by first | omega | (unfold At2; omega))
      replace h7 := h7.kept ho (by first | omega | (unfold At2; omega)) (by first | omega | (unfold At2; omega))
      replace h3 := h3.kept ho (by first | omega | (unfold At2; omega)) (by first | omega | (unfold At2; omega))
      replace h9 := h9.kept ho (by first | omega | (unfold At2; omega)) (by first | omega | (unfold At2; omega))
      replace h5 := h5.kept ho (by first | omega | (unfold At2; omega)) (by first | omega | (unfold At2; omega))
      replace h11 := h11.kept ho (by first | omega | (unfold At2; omega)) (by first | omega | (unfold At2; omega))
      replace h13 := h13.kept ho (by first | omega | (unfold At2; omega)) (by first | omega | (unfold At2; omega))
      replace hF := hF.kept ho (by first | omega | (unfold At2; omega)) (by first | omega | (unfold At2; omega)) (by first | omega | (unfold At2; omega))
      replace h15 := n_h15
      replace hO := hO.tr (ho.wk (by first | (intro q; omega) | (unfold At2; intro q; omega)))
      refine ⟨p, _, h9, fun Zn hh => ?_⟩
      obtain ⟨n_h3, ho⟩ := hh
      replace h1 := h1.kept ho (by first | omega | (unfold At2; omega)) (by first | omega | (unfold At2; omega))
      replace h7 := h7.kept ho (by first | omega | (unfold At2; omega)) (by first | omega | (unfold At2; omega))
      replace h9 := h9.kept ho (by first | omega | (unfold At2; omega)) (by first | omega | (unfold At2; omega))
      replace h5 := h5.kept ho (by first | omega | (unfold At2; omega)) (by first | omega | (unfold At2; omega))
      replace h11 := h11.kept ho (by first | omega | (unfold At2; omega)) (by first | omega | (unfold At2; omega))
      replace h13 := h13.kept ho (by first | omega | (unfold At2; omega)) (by first | omega | (unfold At2; omega))
      replace h15 := h15.kept ho (by first | omega | (unfold At2; omega)) (by first | omega | (unfold At2; omega))
      replace hF := hF.kept ho (by first | omega | (unfold At2; omega)) (by first | omega | (unfold At2; omega)) (by first | omega | (unfold At2; omega))
      replace h3 := n_h3
      replace hO := hO.tr (ho.wk (by first | (intro q; omega) | (unfold At2; intro q; omega)))
      refine ⟨p, _, h15, fun Zn hh => ?_⟩
      obtain ⟨n_h9, ho⟩ := hh
      replace h1 := h1.kept ho (by first | omega | (unfold At2; omega)) (by first | omega | (unfold At2; omega))
      replace h7 := h7.kept ho (by first | omega | (unfold At2; omega)) (by first | omega | (unfold At2; omega))
      replace h3 := h3.kept ho (by first | omega | (unfold At2; omega)) (by first | omega | (unfold At2; omega))
      replace h5 := h5.kept ho (by first | omega | (unfold At2; omega)) (by first | omega | (unfold At2; omega))
      replace h11 := h11.kept ho (by first | omega | (unfold At2; omega)) (by first | omega | (unfold At2; omega))
      replace h13 := h13.kept ho (by first | omega | (unfold At2; omega)) (by first | omega | (unfold At2; omega))
      replace h15 := h15.kept ho (by first | omega | (unfold At2; omega)) (by first | omega | (unfold At2; omega))
      replace hF := hF.kept ho (by first | omega | (unfold At2; omega)) (by first | omega | (unfold At2; omega)) (by first | omega | (unfold At2; omega))
      replace h9 := n_h9
      replace hO := hO.tr (ho.wk (by first | (intro q; omega) | (unfold At2; intro q; omega)))
      refine ⟨p, _, _, by omega, by omega, h13, h11, hF.1, ⟨by omega, by omega⟩, (by rw [h13.dg10, h11.dg10]; exact ED_q hED.2.2.1 hpd h11.pd9), fun Zn hh => ?_⟩
      obtain ⟨n_h15, ho⟩ := hh
      replace h1 := h1.kept ho (by first | omega | (unfold At2; omega)) (by first | omega | (unfold At2; omega))
      replace h7 := h7.kept ho (by first | omega | (unfold At2; omega)) (by first | omega | (unfold At2; omega))
      replace h3 := h3.kept ho (by first | omega | (unfold At2; omega)) (by first | omega | (unfold At2; omega))
      replace h9 := h9.kept ho (by first | omega | (unfold At2; omega)) (by first | omega | (unfold At2; omega))
      replace h5 := h5.kept ho (by first | omega | (unfold At2; omega)) (by first | omega | (unfold At2; omega))
      replace h11 := h11.kept ho (by first | omega | (unfold At2; omega)) (by first | omega | (unfold At2; omega))
      replace h13 := h13.kept ho (by first | omega | (unfold At2; omega)) (by first | omega | (unfold At2; omega))
      replace hF := hF.kept ho (by first | omega | (unfold At2; omega)) (by first | omega | (unfold At2; omega)) (by first | omega | (unfold At2; omega))
      replace h15 := n_h15
      replace hO := hO.tr (ho.wk (by first | (intro q; omega) | (unfold At2; intro q; omega)))
      have fP2 := h15.fin
      refine ⟨p, _, _, by omega, h5, h15, hF.1, ⟨by omega, by omega⟩, ⟨by omega, by omega⟩, fun Zn hh => ?_⟩
      obtain ⟨n_h5, ho⟩ := hh
      replace h1 := h1.kept ho (by first | omega | (unfold At2; omega)) (by first | omega | (unfold At2; omega))
      replace h7 := h7.kept ho (by first | omega | (unfold At2; omega)) (by first | omega | (unfold At2; omega))
      replace h3 := h3.kept ho (by first | omega | (unfold At2; omega)) (by first | omega | (unfold At2; omega))
      replace h9 := h9.kept ho (by first | omega | (unfold At2; omega)) (by first | omega | (unfold At2; omega))
      replace h11 := h11.kept ho (by first | omega | (unfold At2; omega)) (by first | omega | (unfold At2; omega))
      replace h13 := h13.kept ho (by first | omega | (unfold At2; omega)) (by first | omega | (unfold At2; omega))
      replace h15 := h15.kept ho (by first | omega | (unfold At2; omega)) (by first | omega | (unfold At2; omega))
      replace hF := hF.kept ho (by first | omega | (unfold At2; omega)) (by first | omega | (unfold At2; omega)) (by first | omega | (unfold At2; omega))
      replace h5 := n_h5
      replace hO := hO.tr (ho.wk (by first | (intro q; omega) | (unfold At2; intro q; omega)))
      refine ⟨p, _, h5, fun Zn hh => ?_⟩
      obtain ⟨n_h15, ho⟩ := hh
      replace h1 := h1.kept ho (by first | omega | (unfold At2; omega)) (by first | omega | (unfold At2; omega))
      replace h7 := h7.kept ho (by first | omega | (unfold At2; omega)) (by first | omega | (unfold At2; omega))
      replace h3 := h3.kept ho (by first | omega | (unfold At2; omega)) (by first | omega | (unfold At2; omega))
      replace h9 := h9.kept ho (by first | omega | (unfold At2; omega)) (by first | omega | (unfold At2; omega))
      replace h5 := h5.kept ho (by first | omega | (unfold At2; omega)) (by first | omega | (unfold At2; omega))
      replace h11 := h11.kept ho (by first | omega | (unfold At2; omega)) (by first | omega | (unfold At2; omega))
      replace h13 := h13.kept ho (by first | omega | (unfold At2; omega)) (by first | omega | (unfold At2; omega))
      replace hF := hF.kept ho (by first | omega | (unfold At2; omega)) (by first | omega | (unfold At2; omega)) (by first | omega | (unfold At2; omega))
      replace h15 := n_h15
      replace hO := hO.tr (ho.wk (by first | (intro q; omega) | (unfold At2; intro q; omega)))
      refine ⟨p, _, h11, fun Zn hh => ?_⟩
      obtain ⟨n_h5, ho⟩ := hh
      replace h1 := h1.kept ho (by first | omega | (unfold At2; omega)) (by first | omega | (unfold At2; omega))
      replace h7 := h7.kept ho (by first | omega | (unfold At2; omega)) (by first | omega | (unfold At2; omega))
      replace h3 := h3.kept ho (by first | omega | (unfold At2; omega)) (by first | omega | (unfold At2; omega))
      replace h9 := h9.kept ho (by first | omega | (unfold At2; omega)) (by first | omega | (unfold At2; omega))
      replace h11 := h11.kept ho (by first | omega | (unfold At2; omega)) (by first | omega | (unfold At2; omega))
      replace h13 := h13.kept ho (by first | omega | (unfold At2; omega)) (by first | omega | (unfold At2; omega))
      replace h15 := h15.kept ho (by first | omega | (unfold At2; omega)) (by first | omega | (unfold At2; omega))
      replace hF := hF.kept ho (by first | omega | (unfold At2; omega)) (by first | omega | (unfold At2; omega)) (by first | omega | (unfold At2; omega))
      replace h5 := n_h5
      replace hO := hO.tr (ho.wk (by first | (intro q; omega) | (unfold At2; intro q; omega)))
      refine ⟨p, _, h15, fun Zn hh => ?_⟩
      obtain ⟨n_h11, ho⟩ := hh
      replace h1 := h1.kept ho (by first | omega | (unfold At2; omega)) (by first | omega | (unfold At2; omega))
      replace h7 := h7.kept ho (by first | omega | (unfold At2; omega)) (by first | omega | (unfold At2; omega))
      replace h3 := h3.kept ho (by first | omega | (unfold At2; omega)) (by first | omega | (unfold At2; omega))
      replace h9 := h9.kept ho (by first | omega | (unfold At2; omega)) (by first | omega | (unfold At2; omega))
      replace h5 := h5.kept ho (by first | omega | (unfold At2; omega)) (by first | omega | (unfold At2; omega))
      replace h13 := h13.kept ho (by first | omega | (unfold At2; omega)) (by first | omega | (unfold At2; omega))
      replace h15 := h15.kept ho (by first | omega | (unfold At2; omega)) (by first | omega | (unfold At2; omega))
      replace hF := hF.kept ho (by first | omega | (unfold At2; omega)) (by first | omega | (unfold At2; omega)) (by first | omega | (unfold At2; omega))
      replace h11 := n_h11
      replace hO := hO.tr (ho.wk (by first | (intro q; omega) | (unfold At2; intro q; omega)))
      have hED2 : ED (estep p e) := by
        refine ⟨?_, ?_, ?_, ?_⟩
        · exact ED_n f3 f9 fQ fP hED.1 hED.2.1 hpd (by omega)
        · show pd e.2.2.2.1 + pd (dvR p e.1 e.2.1) ≤ 9
          have := hED.1
          omega
        · exact ED_n f5 f11 fQ fP2 hED.2.2.1 hED.2.2.2 hpd (by omega)
        · show pd e.2.2.2.2.2 + pd (dvR p e.1 e.2.1) ≤ 9
          have := hED.2.2.1
          omega
      refine ih (v + 1) _ (estep p e) (by omega) (by omega) ⟨h1, h7, h3, h9, h5, h11⟩ hED2 hpd hF hO ?_
      rw [← he]
      show _ = if pd e.2.1 < 0 then e else eun p m (estep p e)
      rw [if_neg (by omega)]
  have f9 := hf.pd9
  have g9 := hg.pd9
  have p1 : pd pone = 0 := by decide
  have p0 : pd pzero = -1 := by decide
  have hf0 := hf
  have hg0 := hg
  refine b_X3_run_0 o ob oc ?_
  refine ⟨p, f, hf, fun Zn hh => ?_⟩
  obtain ⟨n_h1, ho⟩ := hh
  replace hF := hF.kept ho (by first | omega | (unfold At2; omega)) (by first | omega | (unfold At2; omega)) (by first | omega | (unfold At2; omega))
  have h1 := n_h1
  replace hO := hO.tr (ho.wk (by first | (intro q; omega) | (unfold At2; intro q; omega)))
  replace hg := hg.kept ho (by unfold At2; omega) (by unfold At2; omega)
  refine ⟨p, g, hg, fun Zn hh => ?_⟩
  obtain ⟨n_h7, ho⟩ := hh
  replace h1 := h1.kept ho (by first | omega | (unfold At2; omega)) (by first | omega | (unfold At2; omega))
  replace hF := hF.kept ho (by first | omega | (unfold At2; omega)) (by first | omega | (unfold At2; omega)) (by first | omega | (unfold At2; omega))
  have h7 := n_h7
  replace hO := hO.tr (ho.wk (by first | (intro q; omega) | (unfold At2; intro q; omega)))
  refine (fun Zn hh => ?_)
  obtain ⟨n_h3, ho⟩ := hh
  replace h1 := h1.kept ho (by first | omega | (unfold At2; omega)) (by first | omega | (unfold At2; omega))
  replace h7 := h7.kept ho (by first | omega | (unfold At2; omega)) (by first | omega | (unfold At2; omega))
  replace hF := hF.kept ho (by first | omega | (unfold At2; omega)) (by first | omega | (unfold At2; omega)) (by first | omega | (unfold At2; omega))
  have h3 := n_h3
  replace hO := hO.tr (ho.wk (by first | (intro q; omega) | (unfold At2; intro q; omega)))
  replace h3 := h3.mono (q := p) (by omega)
  refine ⟨p, _, h3, by omega, by omega, ⟨by omega, by omega⟩, by omega, fun Zn hh => ?_⟩
  obtain ⟨n_h3, ho⟩ := hh
  replace h1 := h1.kept ho (by first | omega | (unfold At2; omega)) (by first | omega | (unfold At2; omega))
  replace h7 := h7.kept ho (by first | omega | (unfold At2; omega)) (by first | omega | (unfold At2; omega))
  replace hF := hF.kept ho (by first | omega | (unfold At2; omega)) (by first | omega | (unfold At2; omega)) (by first | omega | (unfold At2; omega))
  replace h3 := n_h3
  replace hO := hO.tr (ho.wk (by first | (intro q; omega) | (unfold At2; intro q; omega)))
  refine (fun Zn hh => ?_)
  obtain ⟨n_h5, ho⟩ := hh
  replace h1 := h1.kept ho (by first | omega | (unfold At2; omega)) (by first | omega | (unfold At2; omega))
  replace h7 := h7.kept ho (by first | omega | (unfold At2; omega)) (by first | omega | (unfold At2; omega))
  replace h3 := h3.kept ho (by first | omega | (unfold At2; omega)) (by first | omega | (unfold At2; omega))
  replace hF := hF.kept ho (by first | omega | (unfold At2; omega)) (by first | omega | (unfold At2; omega)) (by first | omega | (unfold At2; omega))
  have h5 := n_h5
  replace hO := hO.tr (ho.wk (by first | (intro q; omega) | (unfold At2; intro q; omega)))
  replace h5 := h5.mono (q := p) (by omega)
  refine (fun Zn hh => ?_)
  obtain ⟨n_h9, ho⟩ := hh
  replace h1 := h1.kept ho (by first | omega | (unfold At2; omega)) (by first | omega | (unfold At2; omega))
  replace h7 := h7.kept ho (by first | omega | (unfold At2; omega)) (by first | omega | (unfold At2; omega))
  replace h3 := h3.kept ho (by first | omega | (unfold At2; omega)) (by first | omega | (unfold At2; omega))
  replace h5 := h5.kept ho (by first | omega | (unfold At2; omega)) (by first | omega | (unfold At2; omega))
  replace hF := hF.kept ho (by first | omega | (unfold At2; omega)) (by first | omega | (unfold At2; omega)) (by first | omega | (unfold At2; omega))
  have h9 := n_h9
  replace hO := hO.tr (ho.wk (by first | (intro q; omega) | (unfold At2; intro q; omega)))
  replace h9 := h9.mono (q := p) (by omega)
  refine (fun Zn hh => ?_)
  obtain ⟨n_h11, ho⟩ := hh
  replace h1 := h1.kept ho (by first | omega | (unfold At2; omega)) (by first | omega | (unfold At2; omega))
  replace h7 := h7.kept ho (by first | omega | (unfold At2; omega)) (by first | omega | (unfold At2; omega))
  replace h3 := h3.kept ho (by first | omega | (unfold At2; omega)) (by first | omega | (unfold At2; omega))
  replace h5 := h5.kept ho (by first | omega | (unfold At2; omega)) (by first | omega | (unfold At2; omega))
  replace h9 := h9.kept ho (by first | omega | (unfold At2; omega)) (by first | omega | (unfold At2; omega))
  replace hF := hF.kept ho (by first | omega | (unfold At2; omega)) (by first | omega | (unfold At2; omega)) (by first | omega | (unfold At2; omega))
  have h11 := n_h11
  replace hO := hO.tr (ho.wk (by first | (intro q; omega) | (unfold At2; intro q; omega)))
  replace h11 := h11.mono (q := p) (by omega)
  refine ⟨p, _, h11, by omega, by omega, ⟨by omega, by omega⟩, by omega, fun Zn hh => ?_⟩
  obtain ⟨n_h11, ho⟩ := hh
  replace h1 := h1.kept ho (by first | omega | (unfold At2; omega)) (by first | omega | (unfold At2; omega))
  replace h7 := h7.kept ho (by first | omega | (unfold At2; omega)) (by first | omega | (unfold At2; omega))
  replace h3 := h3.kept ho (by first | omega | (unfold At2; omega)) (by first | omega | (unfold At2; omega))
  replace h5 := h5.kept ho (by first | omega | (unfold At2; omega)) (by first | omega | (unfold At2; omega))
  replace h9 := h9.kept ho (by first | omega | (unfold At2; omega)) (by first | omega | (unfold At2; omega))
  replace hF := hF.kept ho (by first | omega | (unfold At2; omega)) (by first | omega | (unfold At2; omega)) (by first | omega | (unfold At2; omega))
  replace h11 := n_h11
  replace hO := hO.tr (ho.wk (by first | (intro q; omega) | (unfold At2; intro q; omega)))
  refine lp 20 0 _ (e0 f g) (by omega) (by omega) ⟨h1, h7, h3, h9, h5, h11⟩ ⟨?_, ?_, ?_, ?_⟩ hf1 hF hO rfl
  · show pd pzero + pd f ≤ 9; omega
  · show pd pone + pd g ≤ 9; omega
  · show pd pone + pd f ≤ 9; omega
  · show pd pzero + pd g ≤ 9; omega
