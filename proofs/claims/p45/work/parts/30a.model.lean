/-! THE MODEL: the reference rows of the other claim, as pure functions over a memory; no bytecode here -/
def X6_in (N : Nat) (a1 : Int32) (a2 : Int32) (a3 : Int32) (g : Mem) : Option (Int32 × Mem) :=
  (if a1 < a2 then (some ((0 : Int32), g)) else (if a3 < a1 then (some ((0 : Int32), g)) else (some ((1 : Int32), g))))

def X6_within (N : Nat) (a1 : Int32) (a2 : Int32) (a3 : Int32) (g : Mem) : Option (Int32 × Mem) :=
  (if a2 ≤ a1 then (if a1 ≤ a3 then (some (a1, g)) else (some (a3, g))) else (some (a2, g)))

def X6_isOne (N : Nat) (a1 : Int32) (g : Mem) : Option (Int32 × Mem) :=
  (ob (X6_in N a1 (0 : Int32) ((g.1 0 0) - (1 : Int32)) g) (fun v4 u3 => (if isB v4 then some (v4, u3) else none)))

def X6_isCask (N : Nat) (a1 : Int32) (g : Mem) : Option (Int32 × Mem) :=
  (ob (X6_in N a1 (0 : Int32) (11 : Int32) g) (fun v4 u3 => (if isB v4 then some (v4, u3) else none)))

def X6_isSky (N : Nat) (a1 : Int32) (g : Mem) : Option (Int32 × Mem) :=
  (ob (X6_in N a1 (0 : Int32) (5 : Int32) g) (fun v4 u3 => (if isB v4 then some (v4, u3) else none)))

def X6_placed_L4 (N : Nat) (a1 : Int32) : Nat → Int32 → Int32 → Mem → Option (Int32 × Mem)
  | 0, _, _, _ => none
  | fu + 1, x2, x3, g =>
    (if (12 : Int32) ≤ x3 then (some (x2, g)) else (if inR (((4 : Int32) * x3) + (3 : Int32)) 48 then (if ¬ (g.1 4 (((4 : Int32) * x3) + (3 : Int32)).toNatClampNeg) = a1 then (bnd (x2 ||| (0 : Int32)) (fun v5 => (bnd (x3 + (1 : Int32)) (fun v6 => (X6_placed_L4 N a1 fu v5 v6 g))))) else (bnd (x2 ||| ((1 : Int32) <<< (x3 &&& 31))) (fun v7 => (bnd (x3 + (1 : Int32)) (fun v8 => (X6_placed_L4 N a1 fu v7 v8 g)))))) else none))

def X6_placed (N : Nat) (a1 : Int32) (g : Mem) : Option (Int32 × Mem) :=
  (X6_placed_L4 N a1 N (0 : Int32) (0 : Int32) g)

def X6_onesOf_L4 (N : Nat) (a1 : Int32) : Nat → Int32 → Int32 → Mem → Option (Int32 × Mem)
  | 0, _, _, _ => none
  | fu + 1, x1, x2, g =>
    (if (12 : Int32) ≤ x2 then (some (x1, g)) else (bnd (x1 + ((a1 >>> (x2 &&& 31)) &&& (1 : Int32))) (fun v3 => (bnd (x2 + (1 : Int32)) (fun v4 => (X6_onesOf_L4 N a1 fu v3 v4 g))))))

def X6_onesOf (N : Nat) (a1 : Int32) (g : Mem) : Option (Int32 × Mem) :=
  (X6_onesOf_L4 N a1 N (0 : Int32) (0 : Int32) g)

def X6_count (N : Nat) (a1 : Int32) (g : Mem) : Option (Int32 × Mem) :=
  (if a1 = (0 : Int32) then (some (g.1 0 0, g)) else (if a1 = (1 : Int32) then (ob (X6_placed N (a1 - (1 : Int32)) g) (fun v28 u27 => (ob (X6_onesOf N v28 u27) (fun v30 u29 => (some (v30, u29)))))) else (if a1 = (2 : Int32) then (ob (X6_placed N (a1 - (1 : Int32)) g) (fun v34 u33 => (ob (X6_onesOf N v34 u33) (fun v36 u35 => (some (v36, u35)))))) else (if a1 = (3 : Int32) then (some (g.1 0 6, g)) else (if a1 = (4 : Int32) then (some (g.1 0 11, g)) else (if a1 = (5 : Int32) then (some (g.1 0 12, g)) else (if a1 = (6 : Int32) then (some (g.1 0 8, g)) else (some ((-2 : Int32), g)))))))))

def X6_cask (N : Nat) (a1 : Int32) (a2 : Int32) (a3 : Int32) (g : Mem) : Option (Int32 × Mem) :=
  (ob (X6_isCask N a1 g) (fun v22 u21 => (if ¬ v22 = 0 then (if ¬ a2 = 0 then (if ¬ a2 = (3 : Int32) then (ob (X6_in N a2 (0 : Int32) (3 : Int32) u21) (fun v24 u23 => (if v24 = 0 then (some ((-7 : Int32), u23)) else (ob (X6_in N a3 (0 : Int32) (99 : Int32) u23) (fun v26 u25 => (if ¬ v26 = 0 then (if inR (((4 : Int32) * a1) + a2) 48 then (bnd (u25.1 4 (((4 : Int32) * a1) + a2).toNatClampNeg) (fun v27 => (if inR (((4 : Int32) * a1) + a2) 48 then (bnd (stI u25 4 (((4 : Int32) * a1) + a2).toNatClampNeg a3) (fun u28 => (some (v27, u28)))) else none))) else none) else (some ((-7 : Int32), u25)))))))) else (ob (X6_in N a2 (0 : Int32) (3 : Int32) u21) (fun v30 u29 => (if v30 = 0 then (some ((-7 : Int32), u29)) else (ob (X6_in N a3 (0 : Int32) (2 : Int32) u29) (fun v32 u31 => (if ¬ v32 = 0 then (if inR (((4 : Int32) * a1) + a2) 48 then (bnd (u31.1 4 (((4 : Int32) * a1) + a2).toNatClampNeg) (fun v33 => (if inR (((4 : Int32) * a1) + a2) 48 then (bnd (stI u31 4 (((4 : Int32) * a1) + a2).toNatClampNeg a3) (fun u34 => (some (v33, u34)))) else none))) else none) else (some ((-7 : Int32), u31))))))))) else (ob (X6_in N a2 (0 : Int32) (3 : Int32) u21) (fun v36 u35 => (if v36 = 0 then (some ((-7 : Int32), u35)) else (ob (X6_in N a3 (0 : Int32) (5 : Int32) u35) (fun v38 u37 => (if ¬ v38 = 0 then (if inR (((4 : Int32) * a1) + a2) 48 then (bnd (u37.1 4 (((4 : Int32) * a1) + a2).toNatClampNeg) (fun v39 => (if inR (((4 : Int32) * a1) + a2) 48 then (bnd (stI u37 4 (((4 : Int32) * a1) + a2).toNatClampNeg a3) (fun u40 => (some (v39, u40)))) else none))) else none) else (some ((-7 : Int32), u37))))))))) else (some ((-5 : Int32), u21)))))

def X6_lies (N : Nat) (a1 : Int32) (a2 : Int32) (g : Mem) : Option (Int32 × Mem) :=
  (ob (X6_isCask N a1 g) (fun v6 u5 => (if ¬ v6 = 0 then (ob (X6_in N a2 (0 : Int32) (3 : Int32) u5) (fun v8 u7 => (if v8 = 0 then (some ((-7 : Int32), u7)) else (if inR (((4 : Int32) * a1) + a2) 48 then (some (u7.1 4 (((4 : Int32) * a1) + a2).toNatClampNeg, u7)) else none)))) else (some ((-5 : Int32), u5)))))

def X6_sky (N : Nat) (a1 : Int32) (a2 : Int32) (g : Mem) : Option (Int32 × Mem) :=
  (ob (X6_in N a1 (0 : Int32) (6 : Int32) g) (fun v16 u15 => (if ¬ v16 = 0 then (if ¬ a1 = (6 : Int32) then (ob (X6_in N a2 (0 : Int32) (99 : Int32) u15) (fun v18 u17 => (if ¬ v18 = 0 then (if ¬ a1 = (6 : Int32) then (if inR a1 6 then (bnd (u17.1 5 (a1).toNatClampNeg) (fun v19 => (if inR a1 6 then (bnd (stI u17 5 (a1).toNatClampNeg a2) (fun u20 => (some (v19, u20)))) else none))) else none) else (bnd (u17.1 0 6) (fun v21 => (bnd (stI u17 0 6 a2) (fun u22 => (some (v21, u22))))))) else (some ((-7 : Int32), u17))))) else (ob (X6_in N a2 (0 : Int32) (999 : Int32) u15) (fun v24 u23 => (if ¬ v24 = 0 then (if ¬ a1 = (6 : Int32) then (if inR a1 6 then (bnd (u23.1 5 (a1).toNatClampNeg) (fun v25 => (if inR a1 6 then (bnd (stI u23 5 (a1).toNatClampNeg a2) (fun u26 => (some (v25, u26)))) else none))) else none) else (bnd (u23.1 0 6) (fun v27 => (bnd (stI u23 0 6 a2) (fun u28 => (some (v27, u28))))))) else (some ((-7 : Int32), u23)))))) else (some ((-5 : Int32), u15)))))

def X6_isByte (N : Nat) (a1 : Int32) (g : Mem) : Option (Int32 × Mem) :=
  (ob (X6_in N a1 (0 : Int32) (255 : Int32) g) (fun v4 u3 => (if isB v4 then some (v4, u3) else none)))

def X6_feed_L68 (N : Nat) (a1 : Int32) (a2 : Int32) (a3 : Int32) (a4 : Int32) (a5 : Int32) (a6 : Int32) : Nat → Int32 → Mem → Option (Int32 × Mem)
  | 0, _, _ => none
  | fu + 1, x7, g =>
    (if a1 ≤ x7 then (some (g.1 0 8, g)) else (if ¬ x7 = 0 then (if ¬ x7 = (1 : Int32) then (if ¬ x7 = (2 : Int32) then (if ¬ x7 = (3 : Int32) then (if inR (g.1 0 8) 160 then (bnd (stI g 6 (g.1 0 8).toNatClampNeg a6) (fun u28 => (bnd (stI u28 0 8 ((u28.1 0 8) + (1 : Int32))) (fun u29 => (bnd (x7 + (1 : Int32)) (fun v30 => (X6_feed_L68 N a1 a2 a3 a4 a5 a6 fu v30 u29))))))) else none) else (if inR (g.1 0 8) 160 then (bnd (stI g 6 (g.1 0 8).toNatClampNeg a5) (fun u31 => (bnd (stI u31 0 8 ((u31.1 0 8) + (1 : Int32))) (fun u32 => (bnd (x7 + (1 : Int32)) (fun v33 => (X6_feed_L68 N a1 a2 a3 a4 a5 a6 fu v33 u32))))))) else none)) else (if inR (g.1 0 8) 160 then (bnd (stI g 6 (g.1 0 8).toNatClampNeg a4) (fun u34 => (bnd (stI u34 0 8 ((u34.1 0 8) + (1 : Int32))) (fun u35 => (bnd (x7 + (1 : Int32)) (fun v36 => (X6_feed_L68 N a1 a2 a3 a4 a5 a6 fu v36 u35))))))) else none)) else (if inR (g.1 0 8) 160 then (bnd (stI g 6 (g.1 0 8).toNatClampNeg a3) (fun u37 => (bnd (stI u37 0 8 ((u37.1 0 8) + (1 : Int32))) (fun u38 => (bnd (x7 + (1 : Int32)) (fun v39 => (X6_feed_L68 N a1 a2 a3 a4 a5 a6 fu v39 u38))))))) else none)) else (if inR (g.1 0 8) 160 then (bnd (stI g 6 (g.1 0 8).toNatClampNeg a2) (fun u40 => (bnd (stI u40 0 8 ((u40.1 0 8) + (1 : Int32))) (fun u41 => (bnd (x7 + (1 : Int32)) (fun v42 => (X6_feed_L68 N a1 a2 a3 a4 a5 a6 fu v42 u41))))))) else none)))

def X6_feed (N : Nat) (a1 : Int32) (a2 : Int32) (a3 : Int32) (a4 : Int32) (a5 : Int32) (a6 : Int32) (g : Mem) : Option (Int32 × Mem) :=
  (ob (X6_in N a1 (1 : Int32) (5 : Int32) g) (fun v44 u43 => (if v44 = 0 then (some ((-2 : Int32), u43)) else (ob (X6_isByte N a2 u43) (fun v46 u45 => (if v46 = 0 then (some ((-2 : Int32), u45)) else (ob (X6_isByte N a3 u45) (fun v48 u47 => (if v48 = 0 then (some ((-2 : Int32), u47)) else (ob (X6_isByte N a4 u47) (fun v50 u49 => (if v50 = 0 then (some ((-2 : Int32), u49)) else (ob (X6_isByte N a5 u49) (fun v52 u51 => (if v52 = 0 then (some ((-2 : Int32), u51)) else (ob (X6_isByte N a6 u51) (fun v54 u53 => (if ¬ v54 = 0 then (if ((u53.1 0 8) + a1) ≤ (160 : Int32) then (X6_feed_L68 N a1 a2 a3 a4 a5 a6 N (0 : Int32) u53) else (some ((-4 : Int32), u53))) else (some ((-2 : Int32), u53))))))))))))))))))))

def X6_wordFrom_G2 (N : Nat) (a1 : Int32) (a2 : Int32) : Nat → Nat → Int32 → Int32 → Int32 → Mem → Option (Int32 × Mem)
  | 0, _, _, _, _, _ => none
  | fu + 1, 0, x3, x4, x5, g =>
    (if (12 : Int32) ≤ x3 then (some ((12 : Int32), g)) else (if (8 : Int32) < (a2 - a1) then (X6_wordFrom_G2 N a1 a2 fu 1 x3 (0 : Int32) (0 : Int32) g) else (X6_wordFrom_G2 N a1 a2 fu 1 x3 (1 : Int32) (0 : Int32) g)))
  | fu + 1, 1, x3, x4, x5, g =>
    (if (8 : Int32) ≤ x5 then (if x4 = 0 then (bnd (x3 + (1 : Int32)) (fun v7 => (X6_wordFrom_G2 N a1 a2 fu 0 v7 (0 : Int32) (0 : Int32) g))) else (some (x3, g))) else (if x4 = 0 then (if x4 = 0 then (bnd (x3 + (1 : Int32)) (fun v8 => (X6_wordFrom_G2 N a1 a2 fu 0 v8 (0 : Int32) (0 : Int32) g))) else (some (x3, g))) else (if inR (((8 : Int32) * x3) + x5) 96 then (if a2 ≤ (a1 + x5) then (if ¬ (g.1 15 (((8 : Int32) * x3) + x5).toNatClampNeg) = (32 : Int32) then (bnd (x5 + (1 : Int32)) (fun v9 => (X6_wordFrom_G2 N a1 a2 fu 1 x3 (0 : Int32) v9 g))) else (bnd (x5 + (1 : Int32)) (fun v10 => (X6_wordFrom_G2 N a1 a2 fu 1 x3 (1 : Int32) v10 g)))) else (if inR (a1 + x5) 160 then (if ¬ (g.1 15 (((8 : Int32) * x3) + x5).toNatClampNeg) = (g.1 6 (a1 + x5).toNatClampNeg) then (bnd (x5 + (1 : Int32)) (fun v11 => (X6_wordFrom_G2 N a1 a2 fu 1 x3 (0 : Int32) v11 g))) else (bnd (x5 + (1 : Int32)) (fun v12 => (X6_wordFrom_G2 N a1 a2 fu 1 x3 (1 : Int32) v12 g)))) else none)) else none)))
  | _ + 1, _ + 2, _, _, _, _ => none

def X6_wordFrom (N : Nat) (a1 : Int32) (a2 : Int32) (g : Mem) : Option (Int32 × Mem) :=
  (X6_wordFrom_G2 N a1 a2 N 0 (0 : Int32) (0 : Int32) (0 : Int32) g)

def X6_next_L230 (N : Nat) : Nat → Int32 → Mem → Option (Int32 × Mem)
  | 0, _, _ => none
  | fu + 1, x2, g =>
    (if (g.1 0 8) ≤ (g.1 0 20) then (if x2 ≤ (4 : Int32) then (bnd (stI g 0 22 (1 : Int32)) (fun u224 => (some ((0 : Int32), u224)))) else (bnd (stI g 0 22 (-1 : Int32)) (fun u225 => (some ((0 : Int32), u225))))) else (if inR (g.1 0 20) 160 then (ob (X6_in N (g.1 6 (g.1 0 20).toNatClampNeg) (48 : Int32) (57 : Int32) g) (fun v227 u226 => (if v227 = 0 then (if x2 ≤ (4 : Int32) then (bnd (stI u226 0 22 (1 : Int32)) (fun u228 => (some ((0 : Int32), u228)))) else (bnd (stI u226 0 22 (-1 : Int32)) (fun u229 => (some ((0 : Int32), u229))))) else (if (4 : Int32) ≤ x2 then (bnd (stI u226 0 23 (0 : Int32)) (fun u230 => (bnd (x2 + (1 : Int32)) (fun v231 => (bnd (stI u230 0 20 ((u230.1 0 20) + (1 : Int32))) (fun u232 => (X6_next_L230 N fu v231 u232))))))) else (if inR (u226.1 0 20) 160 then (bnd (stI u226 0 23 ((((10 : Int32) * (u226.1 0 23)) + (u226.1 6 (u226.1 0 20).toNatClampNeg)) - (48 : Int32))) (fun u233 => (bnd (x2 + (1 : Int32)) (fun v234 => (bnd (stI u233 0 20 ((u233.1 0 20) + (1 : Int32))) (fun u235 => (X6_next_L230 N fu v234 u235))))))) else none))))) else none))

def X6_next_L103 (N : Nat) : Nat → Mem → Option (Int32 × Mem)
  | 0, _ => none
  | fu + 1, g =>
    (if (g.1 0 8) ≤ (g.1 0 20) then (ob (X6_wordFrom N (g.1 0 21) (g.1 0 20) g) (fun v237 u236 => (if (3 : Int32) ≤ v237 then (if (9 : Int32) ≤ v237 then (if ¬ v237 = (12 : Int32) then (bnd (stI u236 0 22 (((4 : Int32) + v237) - (9 : Int32))) (fun u238 => (if (3 : Int32) ≤ v237 then (bnd (stI u238 0 23 (v237 - (3 : Int32))) (fun u239 => (some ((0 : Int32), u239)))) else (bnd (stI u238 0 23 v237) (fun u240 => (some ((0 : Int32), u240))))))) else (bnd (stI u236 0 22 (-1 : Int32)) (fun u241 => (if (3 : Int32) ≤ v237 then (bnd (stI u241 0 23 (v237 - (3 : Int32))) (fun u242 => (some ((0 : Int32), u242)))) else (bnd (stI u241 0 23 v237) (fun u243 => (some ((0 : Int32), u243)))))))) else (bnd (stI u236 0 22 (2 : Int32)) (fun u244 => (if (3 : Int32) ≤ v237 then (bnd (stI u244 0 23 (v237 - (3 : Int32))) (fun u245 => (some ((0 : Int32), u245)))) else (bnd (stI u244 0 23 v237) (fun u246 => (some ((0 : Int32), u246)))))))) else (bnd (stI u236 0 22 (3 : Int32)) (fun u247 => (if (3 : Int32) ≤ v237 then (bnd (stI u247 0 23 (v237 - (3 : Int32))) (fun u248 => (some ((0 : Int32), u248)))) else (bnd (stI u247 0 23 v237) (fun u249 => (some ((0 : Int32), u249)))))))))) else (if inR (g.1 0 20) 160 then (ob (X6_in N (g.1 6 (g.1 0 20).toNatClampNeg) (97 : Int32) (122 : Int32) g) (fun v251 u250 => (if v251 = 0 then (ob (X6_wordFrom N (u250.1 0 21) (u250.1 0 20) u250) (fun v253 u252 => (if (3 : Int32) ≤ v253 then (if (9 : Int32) ≤ v253 then (if ¬ v253 = (12 : Int32) then (bnd (stI u252 0 22 (((4 : Int32) + v253) - (9 : Int32))) (fun u254 => (if (3 : Int32) ≤ v253 then (bnd (stI u254 0 23 (v253 - (3 : Int32))) (fun u255 => (some ((0 : Int32), u255)))) else (bnd (stI u254 0 23 v253) (fun u256 => (some ((0 : Int32), u256))))))) else (bnd (stI u252 0 22 (-1 : Int32)) (fun u257 => (if (3 : Int32) ≤ v253 then (bnd (stI u257 0 23 (v253 - (3 : Int32))) (fun u258 => (some ((0 : Int32), u258)))) else (bnd (stI u257 0 23 v253) (fun u259 => (some ((0 : Int32), u259)))))))) else (bnd (stI u252 0 22 (2 : Int32)) (fun u260 => (if (3 : Int32) ≤ v253 then (bnd (stI u260 0 23 (v253 - (3 : Int32))) (fun u261 => (some ((0 : Int32), u261)))) else (bnd (stI u260 0 23 v253) (fun u262 => (some ((0 : Int32), u262)))))))) else (bnd (stI u252 0 22 (3 : Int32)) (fun u263 => (if (3 : Int32) ≤ v253 then (bnd (stI u263 0 23 (v253 - (3 : Int32))) (fun u264 => (some ((0 : Int32), u264)))) else (bnd (stI u263 0 23 v253) (fun u265 => (some ((0 : Int32), u265)))))))))) else (bnd (stI u250 0 20 ((u250.1 0 20) + (1 : Int32))) (fun u266 => (X6_next_L103 N fu u266)))))) else none))

def X6_next_L0 (N : Nat) : Nat → Mem → Option (Int32 × Mem)
  | 0, _ => none
  | fu + 1, g =>
    (if (g.1 0 8) ≤ (g.1 0 20) then (bnd (stI g 0 21 (g.1 0 20)) (fun u267 => (bnd (stI u267 0 22 (0 : Int32)) (fun u268 => (bnd (stI u268 0 23 (0 : Int32)) (fun u269 => (if ¬ (u269.1 0 20) = (u269.1 0 8) then (if inR (u269.1 0 20) 160 then (bnd (u269.1 6 (u269.1 0 20).toNatClampNeg) (fun v270 => (ob (X6_in N v270 (97 : Int32) (122 : Int32) u269) (fun v272 u271 => (if v272 = 0 then (ob (X6_in N v270 (48 : Int32) (57 : Int32) u271) (fun v274 u273 => (if v274 = 0 then (if v270 = (40 : Int32) then (if (1 : Int32) = 0 then (bnd (stI u273 0 22 (-1 : Int32)) (fun u275 => (bnd (stI u275 0 20 ((u275.1 0 20) + (1 : Int32))) (fun u276 => (some ((0 : Int32), u276)))))) else (bnd (stI u273 0 22 v270) (fun u277 => (bnd (stI u277 0 20 ((u277.1 0 20) + (1 : Int32))) (fun u278 => (some ((0 : Int32), u278))))))) else (if v270 = (41 : Int32) then (if (1 : Int32) = 0 then (bnd (stI u273 0 22 (-1 : Int32)) (fun u279 => (bnd (stI u279 0 20 ((u279.1 0 20) + (1 : Int32))) (fun u280 => (some ((0 : Int32), u280)))))) else (bnd (stI u273 0 22 v270) (fun u281 => (bnd (stI u281 0 20 ((u281.1 0 20) + (1 : Int32))) (fun u282 => (some ((0 : Int32), u282))))))) else (if v270 = (59 : Int32) then (if (1 : Int32) = 0 then (bnd (stI u273 0 22 (-1 : Int32)) (fun u283 => (bnd (stI u283 0 20 ((u283.1 0 20) + (1 : Int32))) (fun u284 => (some ((0 : Int32), u284)))))) else (bnd (stI u273 0 22 v270) (fun u285 => (bnd (stI u285 0 20 ((u285.1 0 20) + (1 : Int32))) (fun u286 => (some ((0 : Int32), u286))))))) else (if v270 = (43 : Int32) then (if (1 : Int32) = 0 then (bnd (stI u273 0 22 (-1 : Int32)) (fun u287 => (bnd (stI u287 0 20 ((u287.1 0 20) + (1 : Int32))) (fun u288 => (some ((0 : Int32), u288)))))) else (bnd (stI u273 0 22 v270) (fun u289 => (bnd (stI u289 0 20 ((u289.1 0 20) + (1 : Int32))) (fun u290 => (some ((0 : Int32), u290))))))) else (if v270 = (45 : Int32) then (if (1 : Int32) = 0 then (bnd (stI u273 0 22 (-1 : Int32)) (fun u291 => (bnd (stI u291 0 20 ((u291.1 0 20) + (1 : Int32))) (fun u292 => (some ((0 : Int32), u292)))))) else (bnd (stI u273 0 22 v270) (fun u293 => (bnd (stI u293 0 20 ((u293.1 0 20) + (1 : Int32))) (fun u294 => (some ((0 : Int32), u294))))))) else (if v270 = (42 : Int32) then (if (1 : Int32) = 0 then (bnd (stI u273 0 22 (-1 : Int32)) (fun u295 => (bnd (stI u295 0 20 ((u295.1 0 20) + (1 : Int32))) (fun u296 => (some ((0 : Int32), u296)))))) else (bnd (stI u273 0 22 v270) (fun u297 => (bnd (stI u297 0 20 ((u297.1 0 20) + (1 : Int32))) (fun u298 => (some ((0 : Int32), u298))))))) else (if v270 = (60 : Int32) then (if (1 : Int32) = 0 then (bnd (stI u273 0 22 (-1 : Int32)) (fun u299 => (bnd (stI u299 0 20 ((u299.1 0 20) + (1 : Int32))) (fun u300 => (some ((0 : Int32), u300)))))) else (bnd (stI u273 0 22 v270) (fun u301 => (bnd (stI u301 0 20 ((u301.1 0 20) + (1 : Int32))) (fun u302 => (some ((0 : Int32), u302))))))) else (if ¬ v270 = (61 : Int32) then (if (0 : Int32) = 0 then (bnd (stI u273 0 22 (-1 : Int32)) (fun u303 => (bnd (stI u303 0 20 ((u303.1 0 20) + (1 : Int32))) (fun u304 => (some ((0 : Int32), u304)))))) else (bnd (stI u273 0 22 v270) (fun u305 => (bnd (stI u305 0 20 ((u305.1 0 20) + (1 : Int32))) (fun u306 => (some ((0 : Int32), u306))))))) else (if (1 : Int32) = 0 then (bnd (stI u273 0 22 (-1 : Int32)) (fun u307 => (bnd (stI u307 0 20 ((u307.1 0 20) + (1 : Int32))) (fun u308 => (some ((0 : Int32), u308)))))) else (bnd (stI u273 0 22 v270) (fun u309 => (bnd (stI u309 0 20 ((u309.1 0 20) + (1 : Int32))) (fun u310 => (some ((0 : Int32), u310))))))))))))))) else (X6_next_L230 N N (0 : Int32) u273)))) else (X6_next_L103 N N u271)))))) else none) else (some ((0 : Int32), u269))))))))) else (if inR (g.1 0 20) 160 then (if (g.1 6 (g.1 0 20).toNatClampNeg) = (32 : Int32) then (bnd (stI g 0 20 ((g.1 0 20) + (1 : Int32))) (fun u311 => (X6_next_L0 N fu u311))) else (if inR (g.1 0 20) 160 then (if ¬ (g.1 6 (g.1 0 20).toNatClampNeg) = (10 : Int32) then (bnd (stI g 0 21 (g.1 0 20)) (fun u312 => (bnd (stI u312 0 22 (0 : Int32)) (fun u313 => (bnd (stI u313 0 23 (0 : Int32)) (fun u314 => (if ¬ (u314.1 0 20) = (u314.1 0 8) then (if inR (u314.1 0 20) 160 then (bnd (u314.1 6 (u314.1 0 20).toNatClampNeg) (fun v315 => (ob (X6_in N v315 (97 : Int32) (122 : Int32) u314) (fun v317 u316 => (if v317 = 0 then (ob (X6_in N v315 (48 : Int32) (57 : Int32) u316) (fun v319 u318 => (if v319 = 0 then (if v315 = (40 : Int32) then (if (1 : Int32) = 0 then (bnd (stI u318 0 22 (-1 : Int32)) (fun u320 => (bnd (stI u320 0 20 ((u320.1 0 20) + (1 : Int32))) (fun u321 => (some ((0 : Int32), u321)))))) else (bnd (stI u318 0 22 v315) (fun u322 => (bnd (stI u322 0 20 ((u322.1 0 20) + (1 : Int32))) (fun u323 => (some ((0 : Int32), u323))))))) else (if v315 = (41 : Int32) then (if (1 : Int32) = 0 then (bnd (stI u318 0 22 (-1 : Int32)) (fun u324 => (bnd (stI u324 0 20 ((u324.1 0 20) + (1 : Int32))) (fun u325 => (some ((0 : Int32), u325)))))) else (bnd (stI u318 0 22 v315) (fun u326 => (bnd (stI u326 0 20 ((u326.1 0 20) + (1 : Int32))) (fun u327 => (some ((0 : Int32), u327))))))) else (if v315 = (59 : Int32) then (if (1 : Int32) = 0 then (bnd (stI u318 0 22 (-1 : Int32)) (fun u328 => (bnd (stI u328 0 20 ((u328.1 0 20) + (1 : Int32))) (fun u329 => (some ((0 : Int32), u329)))))) else (bnd (stI u318 0 22 v315) (fun u330 => (bnd (stI u330 0 20 ((u330.1 0 20) + (1 : Int32))) (fun u331 => (some ((0 : Int32), u331))))))) else (if v315 = (43 : Int32) then (if (1 : Int32) = 0 then (bnd (stI u318 0 22 (-1 : Int32)) (fun u332 => (bnd (stI u332 0 20 ((u332.1 0 20) + (1 : Int32))) (fun u333 => (some ((0 : Int32), u333)))))) else (bnd (stI u318 0 22 v315) (fun u334 => (bnd (stI u334 0 20 ((u334.1 0 20) + (1 : Int32))) (fun u335 => (some ((0 : Int32), u335))))))) else (if v315 = (45 : Int32) then (if (1 : Int32) = 0 then (bnd (stI u318 0 22 (-1 : Int32)) (fun u336 => (bnd (stI u336 0 20 ((u336.1 0 20) + (1 : Int32))) (fun u337 => (some ((0 : Int32), u337)))))) else (bnd (stI u318 0 22 v315) (fun u338 => (bnd (stI u338 0 20 ((u338.1 0 20) + (1 : Int32))) (fun u339 => (some ((0 : Int32), u339))))))) else (if v315 = (42 : Int32) then (if (1 : Int32) = 0 then (bnd (stI u318 0 22 (-1 : Int32)) (fun u340 => (bnd (stI u340 0 20 ((u340.1 0 20) + (1 : Int32))) (fun u341 => (some ((0 : Int32), u341)))))) else (bnd (stI u318 0 22 v315) (fun u342 => (bnd (stI u342 0 20 ((u342.1 0 20) + (1 : Int32))) (fun u343 => (some ((0 : Int32), u343))))))) else (if v315 = (60 : Int32) then (if (1 : Int32) = 0 then (bnd (stI u318 0 22 (-1 : Int32)) (fun u344 => (bnd (stI u344 0 20 ((u344.1 0 20) + (1 : Int32))) (fun u345 => (some ((0 : Int32), u345)))))) else (bnd (stI u318 0 22 v315) (fun u346 => (bnd (stI u346 0 20 ((u346.1 0 20) + (1 : Int32))) (fun u347 => (some ((0 : Int32), u347))))))) else (if ¬ v315 = (61 : Int32) then (if (0 : Int32) = 0 then (bnd (stI u318 0 22 (-1 : Int32)) (fun u348 => (bnd (stI u348 0 20 ((u348.1 0 20) + (1 : Int32))) (fun u349 => (some ((0 : Int32), u349)))))) else (bnd (stI u318 0 22 v315) (fun u350 => (bnd (stI u350 0 20 ((u350.1 0 20) + (1 : Int32))) (fun u351 => (some ((0 : Int32), u351))))))) else (if (1 : Int32) = 0 then (bnd (stI u318 0 22 (-1 : Int32)) (fun u352 => (bnd (stI u352 0 20 ((u352.1 0 20) + (1 : Int32))) (fun u353 => (some ((0 : Int32), u353)))))) else (bnd (stI u318 0 22 v315) (fun u354 => (bnd (stI u354 0 20 ((u354.1 0 20) + (1 : Int32))) (fun u355 => (some ((0 : Int32), u355))))))))))))))) else (X6_next_L230 N N (0 : Int32) u318)))) else (X6_next_L103 N N u316)))))) else none) else (some ((0 : Int32), u314))))))))) else (bnd (stI g 0 20 ((g.1 0 20) + (1 : Int32))) (fun u356 => (X6_next_L0 N fu u356)))) else none)) else none))

def X6_next (N : Nat) (g : Mem) : Option (Int32 × Mem) :=
  (X6_next_L0 N N g)

def X6_rank (N : Nat) (a1 : Int32) (g : Mem) : Option (Int32 × Mem) :=
  (if ¬ a1 = 0 then (if ¬ a1 = (11 : Int32) then (if ¬ a1 = (12 : Int32) then (if ¬ a1 = (13 : Int32) then (if (15 : Int32) < a1 then (if (17 : Int32) < a1 then (if ¬ a1 = (18 : Int32) then (some ((7 : Int32), g)) else (some ((6 : Int32), g))) else (some ((5 : Int32), g))) else (some ((4 : Int32), g))) else (some ((3 : Int32), g))) else (some ((2 : Int32), g))) else (some ((1 : Int32), g))) else (some ((0 : Int32), g)))

def X6_puts (N : Nat) (a1 : Int32) (g : Mem) : Option (Int32 × Mem) :=
  (if inR (((200 : Int32) * (g.1 0 11)) + (g.1 0 28)) 1200 then (bnd (stI g 7 (((200 : Int32) * (g.1 0 11)) + (g.1 0 28)).toNatClampNeg a1) (fun u3 => (bnd (stI u3 0 28 ((u3.1 0 28) + (1 : Int32))) (fun u4 => (some ((0 : Int32), u4)))))) else none)

def X6_unwinds_L0 (N : Nat) (a1 : Int32) : Nat → Mem → Option (Int32 × Mem)
  | 0, _ => none
  | fu + 1, g =>
    (if (g.1 0 26) ≤ 0 then (some ((0 : Int32), g)) else (if inR ((g.1 0 26) - (1 : Int32)) 200 then (ob (X6_rank N (g.1 16 ((g.1 0 26) - (1 : Int32)).toNatClampNeg) g) (fun v28 u27 => (if v28 < a1 then (some ((0 : Int32), u27)) else (bnd (stI u27 0 26 ((u27.1 0 26) - (1 : Int32))) (fun u29 => (if inR (u29.1 0 26) 200 then (bnd (u29.1 16 (u29.1 0 26).toNatClampNeg) (fun v30 => (if v30 = (13 : Int32) then (bnd (stI u29 0 27 ((u29.1 0 27) - (1 : Int32))) (fun u31 => (ob (X6_puts N v30 u31) (fun _ u32 => (X6_unwinds_L0 N a1 fu u32))))) else (if ¬ v30 = (19 : Int32) then (bnd (stI u29 0 27 ((u29.1 0 27) - (0 : Int32))) (fun u34 => (ob (X6_puts N v30 u34) (fun _ u35 => (X6_unwinds_L0 N a1 fu u35))))) else (bnd (stI u29 0 27 ((u29.1 0 27) - (1 : Int32))) (fun u37 => (ob (X6_puts N v30 u37) (fun _ u38 => (X6_unwinds_L0 N a1 fu u38))))))))) else none)))))) else none))

def X6_unwinds (N : Nat) (a1 : Int32) (g : Mem) : Option (Int32 × Mem) :=
  (X6_unwinds_L0 N a1 N g)

def X6_holds (N : Nat) (a1 : Int32) (g : Mem) : Option (Int32 × Mem) :=
  (if inR (g.1 0 26) 200 then (bnd (stI g 16 (g.1 0 26).toNatClampNeg a1) (fun u3 => (bnd (stI u3 0 26 ((u3.1 0 26) + (1 : Int32))) (fun u4 => (some ((0 : Int32), u4)))))) else none)

def X6_opensOne (N : Nat) (a1 : Int32) (g : Mem) : Option (Int32 × Mem) :=
  (if ¬ (g.1 0 27) = (5 : Int32) then (bnd (stI g 0 27 ((g.1 0 27) + (1 : Int32))) (fun u4 => (ob (X6_holds N a1 u4) (fun _ u5 => (some ((1 : Int32), u5)))))) else (some ((0 : Int32), g)))

def X6_between (N : Nat) (a1 : Int32) (g : Mem) : Option (Int32 × Mem) :=
  (ob (X6_rank N a1 g) (fun v30 u29 => (if ¬ v30 = (4 : Int32) then (ob (X6_rank N a1 u29) (fun v32 u31 => (ob (X6_unwinds N v32 u31) (fun _ u33 => (ob (X6_rank N a1 u33) (fun v36 u35 => (if ¬ v36 = (4 : Int32) then (ob (X6_holds N a1 u35) (fun _ u37 => (some ((1 : Int32), u37)))) else (if (u35.1 0 26) ≤ 0 then (ob (X6_holds N a1 u35) (fun _ u39 => (some ((1 : Int32), u39)))) else (if inR ((u35.1 0 26) - (1 : Int32)) 200 then (ob (X6_rank N (u35.1 16 ((u35.1 0 26) - (1 : Int32)).toNatClampNeg) u35) (fun v42 u41 => (if ¬ v42 = (4 : Int32) then (ob (X6_holds N a1 u41) (fun _ u43 => (some ((1 : Int32), u43)))) else (some ((0 : Int32), u41))))) else none))))))))) else (ob (X6_unwinds N (5 : Int32) u29) (fun _ u45 => (ob (X6_rank N a1 u45) (fun v48 u47 => (if ¬ v48 = (4 : Int32) then (ob (X6_holds N a1 u47) (fun _ u49 => (some ((1 : Int32), u49)))) else (if (u47.1 0 26) ≤ 0 then (ob (X6_holds N a1 u47) (fun _ u51 => (some ((1 : Int32), u51)))) else (if inR ((u47.1 0 26) - (1 : Int32)) 200 then (ob (X6_rank N (u47.1 16 ((u47.1 0 26) - (1 : Int32)).toNatClampNeg) u47) (fun v54 u53 => (if ¬ v54 = (4 : Int32) then (ob (X6_holds N a1 u53) (fun _ u55 => (some ((1 : Int32), u55)))) else (some ((0 : Int32), u53))))) else none))))))))))

def X6_signOf (N : Nat) (g : Mem) : Option (Int32 × Mem) :=
  (if ¬ (g.1 0 22) = (4 : Int32) then (if ¬ (g.1 0 22) = (5 : Int32) then (if ¬ (g.1 0 22) = (60 : Int32) then (if ¬ (g.1 0 22) = (61 : Int32) then (if ¬ (g.1 0 22) = (43 : Int32) then (if ¬ (g.1 0 22) = (45 : Int32) then (if ¬ (g.1 0 22) = (42 : Int32) then (some ((-1 : Int32), g)) else (some ((18 : Int32), g))) else (some ((17 : Int32), g))) else (some ((16 : Int32), g))) else (some ((15 : Int32), g))) else (some ((14 : Int32), g))) else (some ((12 : Int32), g))) else (some ((11 : Int32), g)))

def X6_eRead_L14 (N : Nat) : Nat → Int32 → Int32 → Mem → Option (Int32 × Mem)
  | 0, _, _, _ => none
  | fu + 1, x1, x2, g =>
    (ob (X6_next N g) (fun _ u43 => (if x1 = 0 then (if ¬ (u43.1 0 22) = (59 : Int32) then (if ¬ (u43.1 0 22) = (41 : Int32) then (ob (X6_signOf N u43) (fun v46 u45 => (if v46 = (-1 : Int32) then (some ((0 : Int32), u45)) else (ob (X6_between N v46 u45) (fun v48 u47 => (if ¬ v48 = 0 then (if (12 : Int32) < v46 then (X6_eRead_L14 N fu (1 : Int32) (0 : Int32) u47) else (X6_eRead_L14 N fu (1 : Int32) (1 : Int32) u47)) else (some ((0 : Int32), u47)))))))) else (ob (X6_unwinds N (1 : Int32) u43) (fun _ u49 => (if ¬ (u49.1 0 26) = 0 then (bnd (stI u49 0 26 ((u49.1 0 26) - (1 : Int32))) (fun u51 => (bnd (stI u51 0 27 ((u51.1 0 27) - (1 : Int32))) (fun u52 => (ob (X6_unwinds N (7 : Int32) u52) (fun _ u53 => (X6_eRead_L14 N fu x1 x2 u53))))))) else (some ((0 : Int32), u49)))))) else (ob (X6_unwinds N (1 : Int32) u43) (fun _ u55 => (if ¬ (u55.1 0 26) = 0 then (some ((0 : Int32), u55)) else (some ((1 : Int32), u55)))))) else (if (u43.1 0 22) = (1 : Int32) then (if ¬ (u43.1 0 22) = (1 : Int32) then (ob (X6_puts N (u43.1 0 23) u43) (fun _ u57 => (ob (X6_unwinds N (7 : Int32) u57) (fun _ u59 => (X6_eRead_L14 N fu (0 : Int32) x2 u59))))) else (ob (X6_puts N ((100000 : Int32) + (u43.1 0 23)) u43) (fun _ u61 => (ob (X6_unwinds N (7 : Int32) u61) (fun _ u63 => (X6_eRead_L14 N fu (0 : Int32) x2 u63)))))) else (if ¬ (u43.1 0 22) = (2 : Int32) then (if ¬ (u43.1 0 22) = (6 : Int32) then (if ¬ (u43.1 0 22) = (45 : Int32) then (if ¬ (u43.1 0 22) = (40 : Int32) then (some ((0 : Int32), u43)) else (ob (X6_opensOne N (0 : Int32) u43) (fun v66 u65 => (if ¬ v66 = 0 then (X6_eRead_L14 N fu x1 (1 : Int32) u65) else (some ((0 : Int32), u65)))))) else (ob (X6_opensOne N (19 : Int32) u43) (fun v68 u67 => (if ¬ v68 = 0 then (X6_eRead_L14 N fu x1 (0 : Int32) u67) else (some ((0 : Int32), u67)))))) else (if x2 = 0 then (if ¬ (u43.1 0 22) = (45 : Int32) then (if ¬ (u43.1 0 22) = (40 : Int32) then (some ((0 : Int32), u43)) else (ob (X6_opensOne N (0 : Int32) u43) (fun v70 u69 => (if ¬ v70 = 0 then (X6_eRead_L14 N fu x1 (1 : Int32) u69) else (some ((0 : Int32), u69)))))) else (ob (X6_opensOne N (19 : Int32) u43) (fun v72 u71 => (if ¬ v72 = 0 then (X6_eRead_L14 N fu x1 (0 : Int32) u71) else (some ((0 : Int32), u71)))))) else (ob (X6_opensOne N (13 : Int32) u43) (fun v74 u73 => (if ¬ v74 = 0 then (X6_eRead_L14 N fu x1 x2 u73) else (some ((0 : Int32), u73))))))) else (if ¬ (u43.1 0 22) = (1 : Int32) then (ob (X6_puts N (u43.1 0 23) u43) (fun _ u75 => (ob (X6_unwinds N (7 : Int32) u75) (fun _ u77 => (X6_eRead_L14 N fu (0 : Int32) x2 u77))))) else (ob (X6_puts N ((100000 : Int32) + (u43.1 0 23)) u43) (fun _ u79 => (ob (X6_unwinds N (7 : Int32) u79) (fun _ u81 => (X6_eRead_L14 N fu (0 : Int32) x2 u81)))))))))))

def X6_eRead (N : Nat) (g : Mem) : Option (Int32 × Mem) :=
  (bnd (stI g 0 26 (0 : Int32)) (fun u83 => (bnd (stI u83 0 27 (0 : Int32)) (fun u84 => (X6_eRead_L14 N N (1 : Int32) (1 : Int32) u84)))))

def X6_text_L26 (N : Nat) : Nat → Int32 → Int32 → Mem → Option (Int32 × Mem)
  | 0, _, _, _ => none
  | fu + 1, x1, x2, g =>
    (if (3 : Int32) ≤ x2 then (if x1 = 0 then (if inR (((4 : Int32) * (g.1 0 11)) + (3 : Int32)) 24 then (bnd (stI g 8 (((4 : Int32) * (g.1 0 11)) + (3 : Int32)).toNatClampNeg (g.1 0 28)) (fun u45 => (bnd (stI u45 0 8 (0 : Int32)) (fun u46 => (if ¬ x1 = 0 then (bnd (stI u46 0 11 ((u46.1 0 11) + (1 : Int32))) (fun u47 => (some ((u47.1 0 11) - (1 : Int32), u47)))) else (some ((-100 : Int32) - (u46.1 0 21), u46))))))) else none) else (ob (X6_next N g) (fun _ u48 => (if ¬ (u48.1 0 22) = 0 then (if inR (((4 : Int32) * (u48.1 0 11)) + (3 : Int32)) 24 then (bnd (stI u48 8 (((4 : Int32) * (u48.1 0 11)) + (3 : Int32)).toNatClampNeg (u48.1 0 28)) (fun u50 => (bnd (stI u50 0 8 (0 : Int32)) (fun u51 => (if ¬ (0 : Int32) = 0 then (bnd (stI u51 0 11 ((u51.1 0 11) + (1 : Int32))) (fun u52 => (some ((u52.1 0 11) - (1 : Int32), u52)))) else (some ((-100 : Int32) - (u51.1 0 21), u51))))))) else none) else (if inR (((4 : Int32) * (u48.1 0 11)) + (3 : Int32)) 24 then (bnd (stI u48 8 (((4 : Int32) * (u48.1 0 11)) + (3 : Int32)).toNatClampNeg (u48.1 0 28)) (fun u53 => (bnd (stI u53 0 8 (0 : Int32)) (fun u54 => (if ¬ (1 : Int32) = 0 then (bnd (stI u54 0 11 ((u54.1 0 11) + (1 : Int32))) (fun u55 => (some ((u55.1 0 11) - (1 : Int32), u55)))) else (some ((-100 : Int32) - (u54.1 0 21), u54))))))) else none))))) else (if x1 = 0 then (if x1 = 0 then (if inR (((4 : Int32) * (g.1 0 11)) + (3 : Int32)) 24 then (bnd (stI g 8 (((4 : Int32) * (g.1 0 11)) + (3 : Int32)).toNatClampNeg (g.1 0 28)) (fun u56 => (bnd (stI u56 0 8 (0 : Int32)) (fun u57 => (if ¬ x1 = 0 then (bnd (stI u57 0 11 ((u57.1 0 11) + (1 : Int32))) (fun u58 => (some ((u58.1 0 11) - (1 : Int32), u58)))) else (some ((-100 : Int32) - (u57.1 0 21), u57))))))) else none) else (ob (X6_next N g) (fun _ u59 => (if ¬ (u59.1 0 22) = 0 then (if inR (((4 : Int32) * (u59.1 0 11)) + (3 : Int32)) 24 then (bnd (stI u59 8 (((4 : Int32) * (u59.1 0 11)) + (3 : Int32)).toNatClampNeg (u59.1 0 28)) (fun u61 => (bnd (stI u61 0 8 (0 : Int32)) (fun u62 => (if ¬ (0 : Int32) = 0 then (bnd (stI u62 0 11 ((u62.1 0 11) + (1 : Int32))) (fun u63 => (some ((u63.1 0 11) - (1 : Int32), u63)))) else (some ((-100 : Int32) - (u62.1 0 21), u62))))))) else none) else (if inR (((4 : Int32) * (u59.1 0 11)) + (3 : Int32)) 24 then (bnd (stI u59 8 (((4 : Int32) * (u59.1 0 11)) + (3 : Int32)).toNatClampNeg (u59.1 0 28)) (fun u64 => (bnd (stI u64 0 8 (0 : Int32)) (fun u65 => (if ¬ (1 : Int32) = 0 then (bnd (stI u65 0 11 ((u65.1 0 11) + (1 : Int32))) (fun u66 => (some ((u66.1 0 11) - (1 : Int32), u66)))) else (some ((-100 : Int32) - (u65.1 0 21), u65))))))) else none))))) else (ob (X6_next N g) (fun _ u67 => (if ¬ (u67.1 0 22) = (3 : Int32) then (if inR (((4 : Int32) * (u67.1 0 11)) + x2) 24 then (bnd (stI u67 8 (((4 : Int32) * (u67.1 0 11)) + x2).toNatClampNeg (u67.1 0 28)) (fun u69 => (if (0 : Int32) = 0 then (bnd (x2 + (1 : Int32)) (fun v70 => (X6_text_L26 N fu (0 : Int32) v70 u69))) else (ob (X6_eRead N u69) (fun v72 u71 => (if v72 = 0 then (bnd (x2 + (1 : Int32)) (fun v73 => (X6_text_L26 N fu (0 : Int32) v73 u71))) else (bnd (x2 + (1 : Int32)) (fun v74 => (X6_text_L26 N fu (1 : Int32) v74 u71))))))))) else none) else (if ¬ (u67.1 0 23) = x2 then (if inR (((4 : Int32) * (u67.1 0 11)) + x2) 24 then (bnd (stI u67 8 (((4 : Int32) * (u67.1 0 11)) + x2).toNatClampNeg (u67.1 0 28)) (fun u75 => (if (0 : Int32) = 0 then (bnd (x2 + (1 : Int32)) (fun v76 => (X6_text_L26 N fu (0 : Int32) v76 u75))) else (ob (X6_eRead N u75) (fun v78 u77 => (if v78 = 0 then (bnd (x2 + (1 : Int32)) (fun v79 => (X6_text_L26 N fu (0 : Int32) v79 u77))) else (bnd (x2 + (1 : Int32)) (fun v80 => (X6_text_L26 N fu (1 : Int32) v80 u77))))))))) else none) else (if inR (((4 : Int32) * (u67.1 0 11)) + x2) 24 then (bnd (stI u67 8 (((4 : Int32) * (u67.1 0 11)) + x2).toNatClampNeg (u67.1 0 28)) (fun u81 => (if (1 : Int32) = 0 then (bnd (x2 + (1 : Int32)) (fun v82 => (X6_text_L26 N fu (0 : Int32) v82 u81))) else (ob (X6_eRead N u81) (fun v84 u83 => (if v84 = 0 then (bnd (x2 + (1 : Int32)) (fun v85 => (X6_text_L26 N fu (0 : Int32) v85 u83))) else (bnd (x2 + (1 : Int32)) (fun v86 => (X6_text_L26 N fu (1 : Int32) v86 u83))))))))) else none)))))))

def X6_text (N : Nat) (g : Mem) : Option (Int32 × Mem) :=
  (if ¬ (g.1 0 11) = (6 : Int32) then (bnd (stI g 0 20 (0 : Int32)) (fun u87 => (bnd (stI u87 0 28 (0 : Int32)) (fun u88 => (X6_text_L26 N N (1 : Int32) (0 : Int32) u88))))) else (some ((-4 : Int32), g)))

def X6_two (N : Nat) (a1 : Int32) (a2 : Int32) (a3 : Int32) (g : Mem) : Option (Int32 × Mem) :=
  (if a1 = (11 : Int32) then (if ¬ a2 = 0 then (some ((1 : Int32), g)) else (if a3 = 0 then (some ((0 : Int32), g)) else (some ((1 : Int32), g)))) else (if a1 = (12 : Int32) then (if a2 = 0 then (some ((0 : Int32), g)) else (if a3 = 0 then (some ((0 : Int32), g)) else (some ((1 : Int32), g)))) else (if a1 = (13 : Int32) then (some (a2 * a3, g)) else (if a1 = (14 : Int32) then (if a3 ≤ a2 then (some ((0 : Int32), g)) else (some ((1 : Int32), g))) else (if a1 = (15 : Int32) then (if ¬ a2 = a3 then (some ((0 : Int32), g)) else (some ((1 : Int32), g))) else (if a1 = (16 : Int32) then (some (a2 + a3, g)) else (if a1 = (17 : Int32) then (some (a2 - a3, g)) else (some (a2 * a3, g)))))))))

def X6_says_L16 (N : Nat) (a1 : Int32) : Nat → Int32 → Int32 → Mem → Option (Int32 × Mem)
  | 0, _, _, _ => none
  | fu + 1, x2, x3, g =>
    (if inR ((((4 : Int32) * (g.1 0 12)) + a1) + (1 : Int32)) 24 then (if (g.1 8 ((((4 : Int32) * (g.1 0 12)) + a1) + (1 : Int32)).toNatClampNeg) ≤ x3 then (if inR (0 : Int32) 200 then (some (g.1 17 ((0 : Int32)).toNatClampNeg, g)) else none) else (if inR (((200 : Int32) * (g.1 0 12)) + x3) 1200 then (bnd (g.1 7 (((200 : Int32) * (g.1 0 12)) + x3).toNatClampNeg) (fun v26 => (if (100000 : Int32) ≤ v26 then (if (11 : Int32) ≤ v26 then (if inR x2 200 then (bnd (stI g 17 (x2).toNatClampNeg (v26 - (100000 : Int32))) (fun u27 => (bnd (x2 + (1 : Int32)) (fun v28 => (bnd (x3 + (1 : Int32)) (fun v29 => (X6_says_L16 N a1 fu v28 v29 u27))))))) else none) else (if inR v26 6 then (if inR x2 200 then (bnd (stI g 17 (x2).toNatClampNeg (g.1 18 (v26).toNatClampNeg)) (fun u30 => (bnd (x2 + (1 : Int32)) (fun v31 => (bnd (x3 + (1 : Int32)) (fun v32 => (X6_says_L16 N a1 fu v31 v32 u30))))))) else none) else none)) else (if (11 : Int32) ≤ v26 then (if ¬ v26 = (13 : Int32) then (if ¬ v26 = (19 : Int32) then (bnd (x2 + (-1 : Int32)) (fun v33 => (if inR (v33 - (1 : Int32)) 200 then (if inR v33 200 then (ob (X6_two N v26 (g.1 17 (v33 - (1 : Int32)).toNatClampNeg) (g.1 17 (v33).toNatClampNeg) g) (fun v35 u34 => (if inR (v33 - (1 : Int32)) 200 then (bnd (stI u34 17 (v33 - (1 : Int32)).toNatClampNeg v35) (fun u36 => (bnd (x3 + (1 : Int32)) (fun v37 => (X6_says_L16 N a1 fu v33 v37 u36))))) else none))) else none) else none))) else (if inR (x2 - (1 : Int32)) 200 then (if inR (x2 - (1 : Int32)) 200 then (bnd (stI g 17 (x2 - (1 : Int32)).toNatClampNeg (-(g.1 17 (x2 - (1 : Int32)).toNatClampNeg))) (fun u38 => (bnd (x3 + (1 : Int32)) (fun v39 => (X6_says_L16 N a1 fu x2 v39 u38))))) else none) else none)) else (if inR (x2 - (1 : Int32)) 200 then (if ¬ (g.1 17 (x2 - (1 : Int32)).toNatClampNeg) = 0 then (if inR (x2 - (1 : Int32)) 200 then (bnd (stI g 17 (x2 - (1 : Int32)).toNatClampNeg (0 : Int32)) (fun u40 => (bnd (x3 + (1 : Int32)) (fun v41 => (X6_says_L16 N a1 fu x2 v41 u40))))) else none) else (if inR (x2 - (1 : Int32)) 200 then (bnd (stI g 17 (x2 - (1 : Int32)).toNatClampNeg (1 : Int32)) (fun u42 => (bnd (x3 + (1 : Int32)) (fun v43 => (X6_says_L16 N a1 fu x2 v43 u42))))) else none)) else none)) else (if (11 : Int32) ≤ v26 then (if inR x2 200 then (bnd (stI g 17 (x2).toNatClampNeg (v26 - (100000 : Int32))) (fun u44 => (bnd (x2 + (1 : Int32)) (fun v45 => (bnd (x3 + (1 : Int32)) (fun v46 => (X6_says_L16 N a1 fu v45 v46 u44))))))) else none) else (if inR v26 6 then (if inR x2 200 then (bnd (stI g 17 (x2).toNatClampNeg (g.1 18 (v26).toNatClampNeg)) (fun u47 => (bnd (x2 + (1 : Int32)) (fun v48 => (bnd (x3 + (1 : Int32)) (fun v49 => (X6_says_L16 N a1 fu v48 v49 u47))))))) else none) else none)))))) else none)) else none)

def X6_says (N : Nat) (a1 : Int32) (g : Mem) : Option (Int32 × Mem) :=
  (if inR (((4 : Int32) * (g.1 0 12)) + a1) 24 then (bnd (g.1 8 (((4 : Int32) * (g.1 0 12)) + a1).toNatClampNeg) (fun v50 => (X6_says_L16 N a1 N (0 : Int32) v50 g))) else none)

def X6_force (N : Nat) (a1 : Int32) (g : Mem) : Option (Int32 × Mem) :=
  (ob (X6_in N a1 (0 : Int32) ((g.1 0 11) - (1 : Int32)) g) (fun v6 u5 => (if ¬ v6 = 0 then (bnd (u5.1 0 12) (fun v7 => (bnd (stI u5 0 12 a1) (fun u8 => (some (v7, u8)))))) else (some ((-2 : Int32), u5)))))

def X6_asksOf (N : Nat) (a1 : Int32) (a2 : Int32) (a3 : Int32) (g : Mem) : Option (Int32 × Mem) :=
  (if ¬ a1 = (2 : Int32) then (if inR ((2 : Int32) * a2) 12 then (if inR (0 : Int32) 6 then (bnd (stI g 18 ((0 : Int32)).toNatClampNeg (g.1 3 ((2 : Int32) * a2).toNatClampNeg)) (fun u21 => (if inR (((4 : Int32) * a3) + (2 : Int32)) 48 then (if inR (1 : Int32) 6 then (bnd (stI u21 18 ((1 : Int32)).toNatClampNeg (u21.1 4 (((4 : Int32) * a3) + (2 : Int32)).toNatClampNeg)) (fun u22 => (if inR (((4 : Int32) * a3) + (1 : Int32)) 48 then (if inR (2 : Int32) 6 then (bnd (stI u22 18 ((2 : Int32)).toNatClampNeg (u22.1 4 (((4 : Int32) * a3) + (1 : Int32)).toNatClampNeg)) (fun u23 => (if inR ((4 : Int32) * a3) 48 then (if inR (3 : Int32) 6 then (bnd (stI u23 18 ((3 : Int32)).toNatClampNeg (u23.1 4 ((4 : Int32) * a3).toNatClampNeg)) (fun u24 => (if inR a2 6 then (if inR (5 : Int32) 6 then (bnd (stI u24 18 ((5 : Int32)).toNatClampNeg (u24.1 2 (a2).toNatClampNeg)) (fun u25 => (if inR (4 : Int32) 6 then (bnd (stI u25 18 ((4 : Int32)).toNatClampNeg (u25.1 0 6)) (fun u26 => (ob (X6_says N a1 u26) (fun v28 u27 => (ob (X6_within N v28 (0 : Int32) (99 : Int32) u27) (fun v30 u29 => (some (v30, u29)))))))) else none))) else none) else none))) else none) else none))) else none) else none))) else none) else none))) else none) else none) else (if inR (0 : Int32) 6 then (bnd (stI g 18 ((0 : Int32)).toNatClampNeg (0 : Int32)) (fun u31 => (if inR (1 : Int32) 6 then (bnd (stI u31 18 ((1 : Int32)).toNatClampNeg (0 : Int32)) (fun u32 => (if inR a3 6 then (if inR (2 : Int32) 6 then (bnd (stI u32 18 ((2 : Int32)).toNatClampNeg (u32.1 5 (a3).toNatClampNeg)) (fun u33 => (if inR (3 : Int32) 6 then (bnd (stI u33 18 ((3 : Int32)).toNatClampNeg a3) (fun u34 => (if inR (5 : Int32) 6 then (bnd (stI u34 18 ((5 : Int32)).toNatClampNeg (0 : Int32)) (fun u35 => (if inR (4 : Int32) 6 then (bnd (stI u35 18 ((4 : Int32)).toNatClampNeg (u35.1 0 6)) (fun u36 => (ob (X6_says N a1 u36) (fun v38 u37 => (ob (X6_within N v38 (0 : Int32) (99 : Int32) u37) (fun v40 u39 => (some (v40, u39)))))))) else none))) else none))) else none))) else none) else none))) else none))) else none))

def X6_asks (N : Nat) (a1 : Int32) (a2 : Int32) (a3 : Int32) (g : Mem) : Option (Int32 × Mem) :=
  (if ¬ a1 = (2 : Int32) then (ob (X6_in N a1 (0 : Int32) (1 : Int32) g) (fun v20 u19 => (if v20 = 0 then (if (0 : Int32) = 0 then (some ((-1000 : Int32), u19)) else (ob (X6_asksOf N a1 a2 a3 u19) (fun v22 u21 => (some (v22, u21))))) else (ob (X6_isOne N a2 u19) (fun v24 u23 => (if v24 = 0 then (if (0 : Int32) = 0 then (some ((-1000 : Int32), u23)) else (ob (X6_asksOf N a1 a2 a3 u23) (fun v26 u25 => (some (v26, u25))))) else (ob (X6_isCask N a3 u23) (fun v28 u27 => (if v28 = 0 then (if (0 : Int32) = 0 then (some ((-1000 : Int32), u27)) else (ob (X6_asksOf N a1 a2 a3 u27) (fun v30 u29 => (some (v30, u29))))) else (if (1 : Int32) = 0 then (some ((-1000 : Int32), u27)) else (ob (X6_asksOf N a1 a2 a3 u27) (fun v32 u31 => (some (v32, u31)))))))))))))) else (ob (X6_isSky N a3 g) (fun v34 u33 => (if v34 = 0 then (some ((-1000 : Int32), u33)) else (ob (X6_asksOf N a1 a2 a3 u33) (fun v36 u35 => (some (v36, u35))))))))

def X6_diver (N : Nat) (a1 : Int32) (a2 : Int32) (g : Mem) : Option (Int32 × Mem) :=
  (ob (X6_in N a1 (0 : Int32) (59 : Int32) g) (fun v11 u10 => (if v11 = 0 then (some ((-2 : Int32), u10)) else (ob (X6_in N a2 (0 : Int32) (99 : Int32) u10) (fun v13 u12 => (if ¬ v13 = 0 then (if ¬ (u12.1 0 0) = (6 : Int32) then (if (10 : Int32) = 0 then none else (if inR (u12.1 0 0) 6 then (bnd (stI u12 1 (u12.1 0 0).toNatClampNeg (a1 / (10 : Int32))) (fun u14 => (if (10 : Int32) = 0 then none else (if inR (u14.1 0 0) 6 then (bnd (stI u14 2 (u14.1 0 0).toNatClampNeg (a1 - a1 / (10 : Int32) * (10 : Int32))) (fun u15 => (if inR ((2 : Int32) * (u15.1 0 0)) 12 then (bnd (stI u15 3 ((2 : Int32) * (u15.1 0 0)).toNatClampNeg a2) (fun u16 => (if inR (((2 : Int32) * (u16.1 0 0)) + (1 : Int32)) 12 then (bnd (stI u16 3 (((2 : Int32) * (u16.1 0 0)) + (1 : Int32)).toNatClampNeg (0 : Int32)) (fun u17 => (bnd (stI u17 0 0 ((u17.1 0 0) + (1 : Int32))) (fun u18 => (some ((u18.1 0 0) - (1 : Int32), u18)))))) else none))) else none))) else none)))) else none)) else (some ((-4 : Int32), u12))) else (some ((-2 : Int32), u12))))))))

def X6_put (N : Nat) (a1 : Int32) (a2 : Int32) (g : Mem) : Option (Int32 × Mem) :=
  (ob (X6_isOne N a1 g) (fun v8 u7 => (if ¬ v8 = 0 then (ob (X6_in N a2 (0 : Int32) (99 : Int32) u7) (fun v10 u9 => (if ¬ v10 = 0 then (if inR ((2 : Int32) * a1) 12 then (bnd (u9.1 3 ((2 : Int32) * a1).toNatClampNeg) (fun v11 => (if inR ((2 : Int32) * a1) 12 then (bnd (stI u9 3 ((2 : Int32) * a1).toNatClampNeg a2) (fun u12 => (some (v11, u12)))) else none))) else none) else (some ((-7 : Int32), u9))))) else (some ((-5 : Int32), u7)))))

def X6_reachesOf (N : Nat) (a1 : Int32) (a2 : Int32) (g : Mem) : Option (Int32 × Mem) :=
  (if inR a1 6 then (if ¬ (g.1 1 (a1).toNatClampNeg) = (5 : Int32) then (ob (X6_asksOf N (0 : Int32) a1 a2 g) (fun v14 u13 => (if (2 : Int32) = 0 then none else (if inR a1 6 then (bnd ((v14 / (2 : Int32)) + (u13.1 2 (a1).toNatClampNeg)) (fun v15 => (if inR a1 6 then (bnd ((u13.1 1 (a1).toNatClampNeg)) (fun v16 => (if v16 = (1 : Int32) then (some (v15, u13)) else (if v16 = (2 : Int32) then (some (v14 + (10 : Int32), u13)) else (if v16 = (3 : Int32) then (if inR a1 6 then (some (v15 + (u13.1 2 (a1).toNatClampNeg), u13)) else none) else (if v16 = (4 : Int32) then (if inR a1 6 then (some (u13.1 2 (a1).toNatClampNeg, u13)) else none) else (some (v14, u13)))))))) else none))) else none)))) else (some ((99 : Int32), g))) else none)

def X6_costsOf (N : Nat) (a1 : Int32) (a2 : Int32) (g : Mem) : Option (Int32 × Mem) :=
  (ob (X6_asksOf N (1 : Int32) a1 a2 g) (fun v11 u10 => (if inR a1 6 then (bnd ((u10.1 1 (a1).toNatClampNeg)) (fun v12 => (if v12 = (2 : Int32) then (if inR ((4 : Int32) * a2) 48 then (if ¬ (u10.1 4 ((4 : Int32) * a2).toNatClampNeg) = 0 then (if inR a1 6 then (some (v11 + (u10.1 2 (a1).toNatClampNeg), u10)) else none) else (if (2 : Int32) = 0 then none else (some (v11 / (2 : Int32), u10)))) else none) else (if v12 = (3 : Int32) then (if (4 : Int32) = 0 then none else (if ¬ ((u10.1 0 6) - (u10.1 0 6) / (4 : Int32) * (4 : Int32)) = 0 then (some (v11, u10)) else (some ((0 : Int32), u10)))) else (if v12 = (4 : Int32) then (if inR ((4 : Int32) * a2) 48 then (if ¬ (u10.1 4 ((4 : Int32) * a2).toNatClampNeg) = 0 then (if inR a1 6 then (some (v11 + (u10.1 2 (a1).toNatClampNeg), u10)) else none) else (if (2 : Int32) = 0 then none else (some (v11 / (2 : Int32), u10)))) else none) else (some (v11, u10))))))) else none)))

def X6_breathesOf (N : Nat) (a1 : Int32) (g : Mem) : Option (Int32 × Mem) :=
  (if inR a1 6 then (bnd ((g.1 1 (a1).toNatClampNeg)) (fun v12 => (if v12 = (1 : Int32) then (some ((10 : Int32), g)) else (if v12 = (2 : Int32) then (some ((5 : Int32), g)) else (if v12 = (3 : Int32) then (some ((10 : Int32), g)) else (if v12 = (4 : Int32) then (if inR a1 6 then (some ((5 : Int32) + (g.1 2 (a1).toNatClampNeg), g)) else none) else (if v12 = (5 : Int32) then (some ((0 : Int32), g)) else (some ((5 : Int32), g))))))))) else none)

def X6_can (N : Nat) (a1 : Int32) (a2 : Int32) (g : Mem) : Option (Int32 × Mem) :=
  (if inR (((4 : Int32) * a2) + (3 : Int32)) 48 then (if (g.1 4 (((4 : Int32) * a2) + (3 : Int32)).toNatClampNeg) = 0 then (ob (X6_reachesOf N a1 a2 g) (fun v6 u5 => (if inR (((4 : Int32) * a2) + (2 : Int32)) 48 then (if v6 < (u5.1 4 (((4 : Int32) * a2) + (2 : Int32)).toNatClampNeg) then (some ((0 : Int32), u5)) else (ob (X6_costsOf N a1 a2 u5) (fun v8 u7 => (if inR ((2 : Int32) * a1) 12 then (if (u7.1 3 ((2 : Int32) * a1).toNatClampNeg) < v8 then (some ((0 : Int32), u7)) else (some ((1 : Int32), u7))) else none)))) else none))) else (some ((0 : Int32), g))) else none)

def X6_canSet_L4 (N : Nat) (a1 : Int32) : Nat → Int32 → Int32 → Mem → Option (Int32 × Mem)
  | 0, _, _, _ => none
  | fu + 1, x2, x3, g =>
    (if (12 : Int32) ≤ x3 then (some (x2, g)) else (ob (X6_can N a1 x3 g) (fun v8 u7 => (if v8 = 0 then (bnd (x2 ||| (0 : Int32)) (fun v9 => (bnd (x3 + (1 : Int32)) (fun v10 => (X6_canSet_L4 N a1 fu v9 v10 u7))))) else (bnd (x2 ||| ((1 : Int32) <<< (x3 &&& 31))) (fun v11 => (bnd (x3 + (1 : Int32)) (fun v12 => (X6_canSet_L4 N a1 fu v11 v12 u7)))))))))

def X6_canSet (N : Nat) (a1 : Int32) (g : Mem) : Option (Int32 × Mem) :=
  (X6_canSet_L4 N a1 N (0 : Int32) (0 : Int32) g)

def X6_told (N : Nat) (a1 : Int32) (a2 : Int32) (g : Mem) : Option (Int32 × Mem) :=
  (ob (X6_isOne N a1 g) (fun v20 u19 => (if ¬ v20 = 0 then (if a2 = (0 : Int32) then (if inR (((2 : Int32) * a1) + a2) 12 then (some (u19.1 3 (((2 : Int32) * a1) + a2).toNatClampNeg, u19)) else none) else (if a2 = (1 : Int32) then (if inR (((2 : Int32) * a1) + a2) 12 then (some (u19.1 3 (((2 : Int32) * a1) + a2).toNatClampNeg, u19)) else none) else (if a2 = (2 : Int32) then (if inR a1 6 then (some (u19.1 1 (a1).toNatClampNeg, u19)) else none) else (if a2 = (3 : Int32) then (if inR a1 6 then (some (u19.1 2 (a1).toNatClampNeg, u19)) else none) else (if a2 = (4 : Int32) then (ob (X6_canSet N a1 u19) (fun v32 u31 => (some (v32, u31)))) else (if a2 = (5 : Int32) then (ob (X6_breathesOf N a1 u19) (fun v36 u35 => (some (v36, u35)))) else (some ((-7 : Int32), u19)))))))) else (some ((-5 : Int32), u19)))))

def X6_dives (N : Nat) (a1 : Int32) (a2 : Int32) (a3 : Int32) (g : Mem) : Option (Int32 × Mem) :=
  (ob (X6_isOne N a1 g) (fun v14 u13 => (if v14 = 0 then (some ((-5 : Int32), u13)) else (ob (X6_isCask N a2 u13) (fun v16 u15 => (if ¬ v16 = 0 then (ob (X6_in N a3 (0 : Int32) (2 : Int32) u15) (fun v18 u17 => (if ¬ v18 = 0 then (if ¬ a3 = 0 then (if ¬ a3 = (1 : Int32) then (ob (X6_can N a1 a2 u17) (fun v20 u19 => (if v20 = 0 then (some ((0 : Int32), u19)) else (some ((1 : Int32), u19))))) else (ob (X6_costsOf N a1 a2 u17) (fun v22 u21 => (some (v22, u21))))) else (ob (X6_reachesOf N a1 a2 u17) (fun v24 u23 => (some (v24, u23))))) else (some ((-7 : Int32), u17))))) else (some ((-5 : Int32), u15))))))))

def X6_diveOf (N : Nat) (a1 : Int32) (a2 : Int32) (g : Mem) : Option (Int32 × Mem) :=
  (bnd ((2 : Int32) * a1) (fun v8 => (if inR v8 12 then (ob (X6_costsOf N a1 a2 g) (fun v10 u9 => (if inR v8 12 then (bnd (stI u9 3 (v8).toNatClampNeg ((g.1 3 (v8).toNatClampNeg) - v10)) (fun u11 => (if inR (((4 : Int32) * a2) + (3 : Int32)) 48 then (bnd (stI u11 4 (((4 : Int32) * a2) + (3 : Int32)).toNatClampNeg (1 : Int32)) (fun u12 => (bnd (((2 : Int32) * a1) + (1 : Int32)) (fun v13 => (if inR v13 12 then (if inR v13 12 then (bnd (stI u12 3 (v13).toNatClampNeg ((u12.1 3 (v13).toNatClampNeg) + (1 : Int32))) (fun u14 => (some ((0 : Int32), u14)))) else none) else none))))) else none))) else none))) else none)))

def X6_dive (N : Nat) (a1 : Int32) (a2 : Int32) (g : Mem) : Option (Int32 × Mem) :=
  (ob (X6_isOne N a1 g) (fun v10 u9 => (if ¬ v10 = 0 then (ob (X6_isCask N a2 u9) (fun v12 u11 => (if ¬ v12 = 0 then (ob (X6_can N a1 a2 u11) (fun v14 u13 => (if ¬ v14 = 0 then (ob (X6_diveOf N a1 a2 u13) (fun _ u15 => (if inR ((2 : Int32) * a1) 12 then (some (u15.1 3 ((2 : Int32) * a1).toNatClampNeg, u15)) else none))) else (some ((-3 : Int32), u13))))) else (some ((-6 : Int32), u11))))) else (some ((-5 : Int32), u9)))))

def X6_opens0 (N : Nat) (a1 : Int32) (g : Mem) : Option (Int32 × Mem) :=
  (if inR ((4 : Int32) * a1) 48 then (bnd (g.1 4 ((4 : Int32) * a1).toNatClampNeg) (fun v6 => (if inR v6 6 then (if inR (((4 : Int32) * a1) + (1 : Int32)) 48 then (ob (X6_within N ((g.1 5 (v6).toNatClampNeg) + (g.1 4 (((4 : Int32) * a1) + (1 : Int32)).toNatClampNeg)) (0 : Int32) (99 : Int32) g) (fun v8 u7 => (if inR v6 6 then (bnd (stI u7 5 (v6).toNatClampNeg v8) (fun u9 => (if inR (((4 : Int32) * a1) + (3 : Int32)) 48 then (bnd (stI u9 4 (((4 : Int32) * a1) + (3 : Int32)).toNatClampNeg (2 : Int32)) (fun u10 => (some ((0 : Int32), u10)))) else none))) else none))) else none) else none))) else none)

def X6_open (N : Nat) (a1 : Int32) (g : Mem) : Option (Int32 × Mem) :=
  (ob (X6_isCask N a1 g) (fun v6 u5 => (if ¬ v6 = 0 then (if inR (((4 : Int32) * a1) + (3 : Int32)) 48 then (if (u5.1 4 (((4 : Int32) * a1) + (3 : Int32)).toNatClampNeg) = (1 : Int32) then (ob (X6_opens0 N a1 u5) (fun _ u7 => (if inR ((4 : Int32) * a1) 48 then (if inR (u7.1 4 ((4 : Int32) * a1).toNatClampNeg) 6 then (some (u7.1 5 (u7.1 4 ((4 : Int32) * a1).toNatClampNeg).toNatClampNeg, u7)) else none) else none))) else (some ((-3 : Int32), u5))) else none) else (some ((-6 : Int32), u5)))))

def X6_main0_L6 (N : Nat) : Nat → Int32 → Int32 → Int32 → Mem → Option (Int32 × Mem)
  | 0, _, _, _, _ => none
  | fu + 1, x1, x2, x3, g =>
    (if (6 : Int32) ≤ x3 then (some (x1, g)) else (if inR x3 6 then (if (g.1 5 (x3).toNatClampNeg) ≤ x2 then (if inR x3 6 then (if (g.1 5 (x3).toNatClampNeg) ≤ x2 then (bnd (x3 + (1 : Int32)) (fun v7 => (X6_main0_L6 N fu x1 x2 v7 g))) else (if inR x3 6 then (bnd (g.1 5 (x3).toNatClampNeg) (fun v8 => (bnd (x3 + (1 : Int32)) (fun v9 => (X6_main0_L6 N fu x1 v8 v9 g))))) else none)) else none) else (if inR x3 6 then (if (g.1 5 (x3).toNatClampNeg) ≤ x2 then (bnd (x3 + (1 : Int32)) (fun v10 => (X6_main0_L6 N fu x3 x2 v10 g))) else (if inR x3 6 then (bnd (g.1 5 (x3).toNatClampNeg) (fun v11 => (bnd (x3 + (1 : Int32)) (fun v12 => (X6_main0_L6 N fu x3 v11 v12 g))))) else none)) else none)) else none))

def X6_main0 (N : Nat) (g : Mem) : Option (Int32 × Mem) :=
  (X6_main0_L6 N N (-1 : Int32) (0 : Int32) (0 : Int32) g)

def X6_fair (N : Nat) (g : Mem) : Option (Int32 × Mem) :=
  (if inR (0 : Int32) 6 then (if inR (3 : Int32) 6 then (if inR (2 : Int32) 6 then (if inR (5 : Int32) 6 then (some ((((g.1 5 ((0 : Int32)).toNatClampNeg) + (g.1 5 ((3 : Int32)).toNatClampNeg)) - (g.1 5 ((2 : Int32)).toNatClampNeg)) - ((2 : Int32) * (g.1 5 ((5 : Int32)).toNatClampNeg)), g)) else none) else none) else none) else none)

def X6_hourOf_L46 (N : Nat) : Nat → Int32 → Mem → Option (Int32 × Mem)
  | 0, _, _ => none
  | fu + 1, x1, g =>
    (if (g.1 0 0) ≤ x1 then (bnd (stI g 0 6 ((g.1 0 6) + (1 : Int32))) (fun u15 => (some ((0 : Int32), u15)))) else (if inR ((2 : Int32) * x1) 12 then (ob (X6_breathesOf N x1 g) (fun v17 u16 => (ob (X6_within N ((g.1 3 ((2 : Int32) * x1).toNatClampNeg) + v17) (0 : Int32) (99 : Int32) u16) (fun v19 u18 => (if inR ((2 : Int32) * x1) 12 then (bnd (stI u18 3 ((2 : Int32) * x1).toNatClampNeg v19) (fun u20 => (bnd (x1 + (1 : Int32)) (fun v21 => (X6_hourOf_L46 N fu v21 u20))))) else none))))) else none))

def X6_hourOf_L2 (N : Nat) : Nat → Int32 → Mem → Option (Int32 × Mem)
  | 0, _, _ => none
  | fu + 1, x1, g =>
    (if (6 : Int32) ≤ x1 then (X6_hourOf_L46 N N (0 : Int32) g) else (if inR x1 6 then (ob (X6_asksOf N (2 : Int32) (-1 : Int32) x1 g) (fun v23 u22 => (bnd ((g.1 5 (x1).toNatClampNeg) - v23) (fun v24 => (if 0 ≤ v24 then (if inR x1 6 then (bnd (stI u22 5 (x1).toNatClampNeg v24) (fun u25 => (bnd (x1 + (1 : Int32)) (fun v26 => (X6_hourOf_L2 N fu v26 u25))))) else none) else (if inR x1 6 then (bnd (stI u22 5 (x1).toNatClampNeg (0 : Int32)) (fun u27 => (bnd (x1 + (1 : Int32)) (fun v28 => (X6_hourOf_L2 N fu v28 u27))))) else none)))))) else none))

def X6_hourOf (N : Nat) (g : Mem) : Option (Int32 × Mem) :=
  (X6_hourOf_L2 N N (0 : Int32) g)

def X6_hour (N : Nat) (g : Mem) : Option (Int32 × Mem) :=
  (if ¬ (g.1 0 6) = (999 : Int32) then (ob (X6_hourOf N g) (fun _ u5 => (ob (X6_main0 N u5) (fun v8 u7 => (some (v8, u7)))))) else (some ((-3 : Int32), g)))

def X6_bayOf (N : Nat) (a1 : Int32) (g : Mem) : Option (Int32 × Mem) :=
  (if (6 : Int32) ≤ a1 then (if ¬ a1 = (6 : Int32) then (ob (X6_fair N g) (fun v6 u5 => (some (v6, u5)))) else (ob (X6_main0 N g) (fun v8 u7 => (some (v8, u7))))) else (if inR a1 6 then (some (g.1 5 (a1).toNatClampNeg, g)) else none))

def X6_bay (N : Nat) (a1 : Int32) (g : Mem) : Option (Int32 × Mem) :=
  (ob (X6_in N a1 (0 : Int32) (7 : Int32) g) (fun v6 u5 => (if v6 = 0 then (some ((-1000 : Int32), u5)) else (ob (X6_bayOf N a1 u5) (fun v8 u7 => (some (v8, u7)))))))

def X6_keeps_L57 (N : Nat) : Nat → Int32 → Mem → Option (Int32 × Mem)
  | 0, _, _ => none
  | fu + 1, x1, g =>
    (if (6 : Int32) ≤ x1 then (if inR (66 : Int32) 67 then (bnd (stI g 19 ((66 : Int32)).toNatClampNeg (g.1 0 6)) (fun u8 => (some ((0 : Int32), u8)))) else none) else (if inR x1 6 then (if inR ((60 : Int32) + x1) 67 then (bnd (stI g 19 ((60 : Int32) + x1).toNatClampNeg (g.1 5 (x1).toNatClampNeg)) (fun u9 => (bnd (x1 + (1 : Int32)) (fun v10 => (X6_keeps_L57 N fu v10 u9))))) else none) else none))

def X6_keeps_L28 (N : Nat) : Nat → Int32 → Mem → Option (Int32 × Mem)
  | 0, _, _ => none
  | fu + 1, x1, g =>
    (if (48 : Int32) ≤ x1 then (X6_keeps_L57 N N (0 : Int32) g) else (if inR x1 48 then (if inR ((12 : Int32) + x1) 67 then (bnd (stI g 19 ((12 : Int32) + x1).toNatClampNeg (g.1 4 (x1).toNatClampNeg)) (fun u11 => (bnd (x1 + (1 : Int32)) (fun v12 => (X6_keeps_L28 N fu v12 u11))))) else none) else none))

def X6_keeps_L2 (N : Nat) : Nat → Int32 → Mem → Option (Int32 × Mem)
  | 0, _, _ => none
  | fu + 1, x1, g =>
    (if (12 : Int32) ≤ x1 then (X6_keeps_L28 N N (0 : Int32) g) else (if inR x1 12 then (if inR x1 67 then (bnd (stI g 19 (x1).toNatClampNeg (g.1 3 (x1).toNatClampNeg)) (fun u13 => (bnd (x1 + (1 : Int32)) (fun v14 => (X6_keeps_L2 N fu v14 u13))))) else none) else none))

def X6_keeps (N : Nat) (g : Mem) : Option (Int32 × Mem) :=
  (X6_keeps_L2 N N (0 : Int32) g)

def X6_lays_L57 (N : Nat) : Nat → Int32 → Mem → Option (Int32 × Mem)
  | 0, _, _ => none
  | fu + 1, x1, g =>
    (if (6 : Int32) ≤ x1 then (if inR (66 : Int32) 67 then (bnd (stI g 0 6 (g.1 19 ((66 : Int32)).toNatClampNeg)) (fun u8 => (some ((0 : Int32), u8)))) else none) else (if inR ((60 : Int32) + x1) 67 then (if inR x1 6 then (bnd (stI g 5 (x1).toNatClampNeg (g.1 19 ((60 : Int32) + x1).toNatClampNeg)) (fun u9 => (bnd (x1 + (1 : Int32)) (fun v10 => (X6_lays_L57 N fu v10 u9))))) else none) else none))

def X6_lays_L28 (N : Nat) : Nat → Int32 → Mem → Option (Int32 × Mem)
  | 0, _, _ => none
  | fu + 1, x1, g =>
    (if (48 : Int32) ≤ x1 then (X6_lays_L57 N N (0 : Int32) g) else (if inR ((12 : Int32) + x1) 67 then (if inR x1 48 then (bnd (stI g 4 (x1).toNatClampNeg (g.1 19 ((12 : Int32) + x1).toNatClampNeg)) (fun u11 => (bnd (x1 + (1 : Int32)) (fun v12 => (X6_lays_L28 N fu v12 u11))))) else none) else none))

def X6_lays_L2 (N : Nat) : Nat → Int32 → Mem → Option (Int32 × Mem)
  | 0, _, _ => none
  | fu + 1, x1, g =>
    (if (12 : Int32) ≤ x1 then (X6_lays_L28 N N (0 : Int32) g) else (if inR x1 67 then (if inR x1 12 then (bnd (stI g 3 (x1).toNatClampNeg (g.1 19 (x1).toNatClampNeg)) (fun u13 => (bnd (x1 + (1 : Int32)) (fun v14 => (X6_lays_L2 N fu v14 u13))))) else none) else none))

def X6_lays (N : Nat) (g : Mem) : Option (Int32 × Mem) :=
  (X6_lays_L2 N N (0 : Int32) g)

def X6_goes_L2 (N : Nat) (a1 : Int32) : Nat → Int32 → Mem → Option (Int32 × Mem)
  | 0, _, _ => none
  | fu + 1, x2, g =>
    (if a1 ≤ x2 then (some ((0 : Int32), g)) else (ob (X6_hourOf N g) (fun _ u4 => (bnd (x2 + (1 : Int32)) (fun v6 => (X6_goes_L2 N a1 fu v6 u4))))))

def X6_goes (N : Nat) (a1 : Int32) (g : Mem) : Option (Int32 × Mem) :=
  (X6_goes_L2 N a1 N (0 : Int32) g)

def X6_run (N : Nat) (a1 : Int32) (a2 : Int32) (g : Mem) : Option (Int32 × Mem) :=
  (ob (X6_in N a1 (0 : Int32) (40 : Int32) g) (fun v30 u29 => (if v30 = 0 then (some ((-1000 : Int32), u29)) else (ob (X6_in N a2 (0 : Int32) (7 : Int32) u29) (fun v32 u31 => (if ¬ v32 = 0 then (ob (X6_keeps N u31) (fun _ u33 => (ob (X6_goes N a1 u33) (fun _ u35 => (if (8 : Int32) ≤ a2 then (if inR ((2 : Int32) * (a2 - (10 : Int32))) 12 then (bnd (u35.1 3 ((2 : Int32) * (a2 - (10 : Int32))).toNatClampNeg) (fun v37 => (ob (X6_lays N u35) (fun _ u38 => (some (v37, u38)))))) else none) else (ob (X6_bayOf N a2 u35) (fun v41 u40 => (ob (X6_lays N u40) (fun _ u42 => (some (v41, u42))))))))))) else (ob (X6_in N a2 (10 : Int32) ((9 : Int32) + (u31.1 0 0)) u31) (fun v45 u44 => (if ¬ v45 = 0 then (ob (X6_keeps N u44) (fun _ u46 => (ob (X6_goes N a1 u46) (fun _ u48 => (if (8 : Int32) ≤ a2 then (if inR ((2 : Int32) * (a2 - (10 : Int32))) 12 then (bnd (u48.1 3 ((2 : Int32) * (a2 - (10 : Int32))).toNatClampNeg) (fun v50 => (ob (X6_lays N u48) (fun _ u51 => (some (v50, u51)))))) else none) else (ob (X6_bayOf N a2 u48) (fun v54 u53 => (ob (X6_lays N u53) (fun _ u55 => (some (v54, u55))))))))))) else (some ((-1000 : Int32), u44)))))))))))

def X6_stills_L8 (N : Nat) : Nat → Int32 → Int32 → Mem → Option (Int32 × Mem)
  | 0, _, _, _ => none
  | fu + 1, x1, x2, g =>
    (if (60 : Int32) < x2 then (ob (X6_lays N g) (fun _ u15 => (some (x1, u15)))) else (if ¬ x1 = (-1 : Int32) then (ob (X6_lays N g) (fun _ u17 => (some (x1, u17)))) else (ob (X6_main0 N g) (fun v20 u19 => (if ¬ v20 = (-1 : Int32) then (ob (X6_hourOf N u19) (fun _ u21 => (bnd (x2 + (1 : Int32)) (fun v23 => (X6_stills_L8 N fu (-1 : Int32) v23 u21))))) else (ob (X6_hourOf N u19) (fun _ u24 => (bnd (x2 + (1 : Int32)) (fun v26 => (X6_stills_L8 N fu x2 v26 u24))))))))))

def X6_stills (N : Nat) (g : Mem) : Option (Int32 × Mem) :=
  (ob (X6_keeps N g) (fun _ u27 => (X6_stills_L8 N N (-1 : Int32) (0 : Int32) u27)))

def X6_rowWrong_L27 (N : Nat) (a1 : Int32) (a2 : Int32) : Nat → Int32 → Mem → Option (Int32 × Mem)
  | 0, _, _ => none
  | fu + 1, x3, g =>
    (if inR a1 4 then (if (g.1 12 (a1).toNatClampNeg) ≤ x3 then (ob (X6_isOne N a2 g) (fun v9 u8 => (if v9 = 0 then (some ((-5 : Int32), u8)) else (some ((0 : Int32), u8))))) else (if inR (((40 : Int32) * a1) + x3) 160 then (ob (X6_isCask N (g.1 13 (((40 : Int32) * a1) + x3).toNatClampNeg) g) (fun v11 u10 => (if ¬ v11 = 0 then (bnd (x3 + (1 : Int32)) (fun v12 => (X6_rowWrong_L27 N a1 a2 fu v12 u10))) else (some ((-2 : Int32), u10))))) else none)) else none)

def X6_rowWrong (N : Nat) (a1 : Int32) (a2 : Int32) (g : Mem) : Option (Int32 × Mem) :=
  (ob (X6_in N a1 (0 : Int32) (3 : Int32) g) (fun v14 u13 => (if ¬ v14 = 0 then (if inR a1 4 then (if ¬ (u13.1 11 (a1).toNatClampNeg) = (-1 : Int32) then (X6_rowWrong_L27 N a1 a2 N (0 : Int32) u13) else (some ((-11 : Int32), u13))) else none) else (some ((-2 : Int32), u13)))))

def X6_rowOf_L10 (N : Nat) (a1 : Int32) (a2 : Int32) : Nat → Int32 → Int32 → Mem → Option (Int32 × Mem)
  | 0, _, _, _ => none
  | fu + 1, x3, x4, g =>
    (if inR a1 4 then (if (g.1 12 (a1).toNatClampNeg) ≤ x4 then (some (x3, g)) else (if inR (((40 : Int32) * a1) + x4) 160 then (ob (X6_within N (g.1 13 (((40 : Int32) * a1) + x4).toNatClampNeg) (0 : Int32) (11 : Int32) g) (fun v15 u14 => (ob (X6_can N a2 v15 u14) (fun v17 u16 => (if v17 = 0 then (ob (X6_hourOf N u16) (fun _ u18 => (bnd (stI u18 0 32 ((u18.1 0 32) + (1 : Int32))) (fun u20 => (bnd (x4 + (1 : Int32)) (fun v21 => (X6_rowOf_L10 N a1 a2 fu x3 v21 u20))))))) else (ob (X6_diveOf N a2 v15 u16) (fun _ u22 => (bnd (x3 + (1 : Int32)) (fun v24 => (bnd (x4 + (1 : Int32)) (fun v25 => (X6_rowOf_L10 N a1 a2 fu v24 v25 u22)))))))))))) else none)) else none)

def X6_rowOf (N : Nat) (a1 : Int32) (a2 : Int32) (g : Mem) : Option (Int32 × Mem) :=
  (bnd (stI g 0 32 (0 : Int32)) (fun u26 => (X6_rowOf_L10 N a1 a2 N (0 : Int32) (0 : Int32) u26)))

def X6_row (N : Nat) (a1 : Int32) (a2 : Int32) (a3 : Int32) (g : Mem) : Option (Int32 × Mem) :=
  (ob (X6_rowWrong N a1 a2 g) (fun v22 u21 => (if v22 = 0 then (ob (X6_in N a3 (0 : Int32) (3 : Int32) u21) (fun v24 u23 => (if ¬ v24 = 0 then (ob (X6_keeps N u23) (fun _ u25 => (ob (X6_rowOf N a1 a2 u25) (fun v28 u27 => (if ¬ a3 = 0 then (if ¬ a3 = (1 : Int32) then (if ¬ a3 = (2 : Int32) then (bnd (u27.1 0 32) (fun v29 => (ob (X6_lays N u27) (fun _ u30 => (some (v29, u30)))))) else (if inR ((2 : Int32) * a2) 12 then (bnd (u27.1 3 ((2 : Int32) * a2).toNatClampNeg) (fun v32 => (ob (X6_lays N u27) (fun _ u33 => (some (v32, u33)))))) else none)) else (ob (X6_lays N u27) (fun _ u35 => (some (v28, u35))))) else (ob (X6_placed N (1 : Int32) u27) (fun v38 u37 => (ob (X6_lays N u37) (fun _ u39 => (some (v38, u39))))))))))) else (some ((-7 : Int32), u23))))) else (some (v22, u21)))))

def X6_salvage (N : Nat) (a1 : Int32) (a2 : Int32) (g : Mem) : Option (Int32 × Mem) :=
  (ob (X6_rowWrong N a1 a2 g) (fun v6 u5 => (if v6 = 0 then (if inR a1 4 then (if ((u5.1 0 6) + (u5.1 12 (a1).toNatClampNeg)) ≤ (999 : Int32) then (ob (X6_rowOf N a1 a2 u5) (fun v8 u7 => (some (v8, u7)))) else (some ((-3 : Int32), u5))) else none) else (some (v6, u5)))))

def X6_fairBehind (N : Nat) (a1 : Int32) (g : Mem) : Option (Int32 × Mem) :=
  (ob (X6_goes N a1 g) (fun _ u7 => (ob (X6_fair N u7) (fun v10 u9 => (ob (X6_lays N u9) (fun _ u11 => (some (v10, u11))))))))

def X6_which_L39 (N : Nat) (a1 : Int32) (a2 : Int32) : Nat → Int32 → Int32 → Int32 → Mem → Option (Int32 × Mem)
  | 0, _, _, _, _ => none
  | fu + 1, x3, x4, x5, g =>
    (if (12 : Int32) ≤ x5 then (if ¬ a2 = 0 then (some (x4, g)) else (some (x3, g))) else (if inR (((4 : Int32) * x5) + (3 : Int32)) 48 then (if ¬ (g.1 4 (((4 : Int32) * x5) + (3 : Int32)).toNatClampNeg) = (1 : Int32) then (bnd (x5 + (1 : Int32)) (fun v20 => (X6_which_L39 N a1 a2 fu x3 x4 v20 g))) else (ob (X6_keeps N g) (fun _ u21 => (ob (X6_opens0 N x5 u21) (fun _ u23 => (ob (X6_fairBehind N a1 u23) (fun v26 u25 => (if v26 ≤ x4 then (if v26 ≤ x4 then (bnd (x5 + (1 : Int32)) (fun v27 => (X6_which_L39 N a1 a2 fu x3 x4 v27 u25))) else (bnd (x5 + (1 : Int32)) (fun v28 => (X6_which_L39 N a1 a2 fu x3 v26 v28 u25)))) else (if v26 ≤ x4 then (bnd (x5 + (1 : Int32)) (fun v29 => (X6_which_L39 N a1 a2 fu x5 x4 v29 u25))) else (bnd (x5 + (1 : Int32)) (fun v30 => (X6_which_L39 N a1 a2 fu x5 v26 v30 u25)))))))))))) else none))

def X6_which (N : Nat) (a1 : Int32) (a2 : Int32) (g : Mem) : Option (Int32 × Mem) :=
  (ob (X6_in N a1 (0 : Int32) (40 : Int32) g) (fun v32 u31 => (if v32 = 0 then (some ((-1000 : Int32), u31)) else (ob (X6_in N a2 (0 : Int32) (1 : Int32) u31) (fun v34 u33 => (if ¬ v34 = 0 then (ob (X6_keeps N u33) (fun _ u35 => (ob (X6_fairBehind N a1 u35) (fun v38 u37 => (X6_which_L39 N a1 a2 N (-1 : Int32) v38 (0 : Int32) u37))))) else (some ((-1000 : Int32), u33))))))))

def X6_cargo_G38 (N : Nat) (a1 : Int32) (a2 : Int32) : Nat → Nat → Int32 → Int32 → Int32 → Int32 → Int32 → Int32 → Int32 → Mem → Option (Int32 × Mem)
  | 0, _, _, _, _, _, _, _, _, _ => none
  | fu + 1, 0, x3, x4, x5, x6, x7, x8, x9, g =>
    (if (4096 : Int32) ≤ x6 then (if ¬ a2 = 0 then (some (x5, g)) else (some (x4, g))) else (if ¬ (x6 &&& (x3 ^^^ (-1 : Int32))) = 0 then (bnd (x6 + (1 : Int32)) (fun v24 => (X6_cargo_G38 N a1 a2 fu 0 x3 x4 x5 v24 (0 : Int32) (0 : Int32) (0 : Int32) g))) else (X6_cargo_G38 N a1 a2 fu 1 x3 x4 x5 x6 (0 : Int32) (0 : Int32) (0 : Int32) g)))
  | fu + 1, 1, x3, x4, x5, x6, x7, x8, x9, g =>
    (if (12 : Int32) ≤ x9 then (if a1 < x7 then (if (0 : Int32) = 0 then (if (0 : Int32) = 0 then (bnd (x6 + (1 : Int32)) (fun v25 => (X6_cargo_G38 N a1 a2 fu 0 x3 x4 x5 v25 (0 : Int32) (0 : Int32) (0 : Int32) g))) else (bnd (x6 + (1 : Int32)) (fun v26 => (X6_cargo_G38 N a1 a2 fu 0 x3 x4 x8 v26 (0 : Int32) (0 : Int32) (0 : Int32) g)))) else (if (0 : Int32) = 0 then (bnd (x6 + (1 : Int32)) (fun v27 => (X6_cargo_G38 N a1 a2 fu 0 x3 x6 x5 v27 (0 : Int32) (0 : Int32) (0 : Int32) g))) else (bnd (x6 + (1 : Int32)) (fun v28 => (X6_cargo_G38 N a1 a2 fu 0 x3 x6 x8 v28 (0 : Int32) (0 : Int32) (0 : Int32) g))))) else (if x8 ≤ x5 then (if (0 : Int32) = 0 then (if (0 : Int32) = 0 then (bnd (x6 + (1 : Int32)) (fun v29 => (X6_cargo_G38 N a1 a2 fu 0 x3 x4 x5 v29 (0 : Int32) (0 : Int32) (0 : Int32) g))) else (bnd (x6 + (1 : Int32)) (fun v30 => (X6_cargo_G38 N a1 a2 fu 0 x3 x4 x8 v30 (0 : Int32) (0 : Int32) (0 : Int32) g)))) else (if (0 : Int32) = 0 then (bnd (x6 + (1 : Int32)) (fun v31 => (X6_cargo_G38 N a1 a2 fu 0 x3 x6 x5 v31 (0 : Int32) (0 : Int32) (0 : Int32) g))) else (bnd (x6 + (1 : Int32)) (fun v32 => (X6_cargo_G38 N a1 a2 fu 0 x3 x6 x8 v32 (0 : Int32) (0 : Int32) (0 : Int32) g))))) else (if (1 : Int32) = 0 then (if (1 : Int32) = 0 then (bnd (x6 + (1 : Int32)) (fun v33 => (X6_cargo_G38 N a1 a2 fu 0 x3 x4 x5 v33 (0 : Int32) (0 : Int32) (0 : Int32) g))) else (bnd (x6 + (1 : Int32)) (fun v34 => (X6_cargo_G38 N a1 a2 fu 0 x3 x4 x8 v34 (0 : Int32) (0 : Int32) (0 : Int32) g)))) else (if (1 : Int32) = 0 then (bnd (x6 + (1 : Int32)) (fun v35 => (X6_cargo_G38 N a1 a2 fu 0 x3 x6 x5 v35 (0 : Int32) (0 : Int32) (0 : Int32) g))) else (bnd (x6 + (1 : Int32)) (fun v36 => (X6_cargo_G38 N a1 a2 fu 0 x3 x6 x8 v36 (0 : Int32) (0 : Int32) (0 : Int32) g))))))) else (if ¬ ((x6 >>> (x9 &&& 31)) &&& (1 : Int32)) = (1 : Int32) then (bnd (x9 + (1 : Int32)) (fun v37 => (X6_cargo_G38 N a1 a2 fu 1 x3 x4 x5 x6 x7 x8 v37 g))) else (if inR (((4 : Int32) * x9) + (2 : Int32)) 48 then (bnd (x7 + (g.1 4 (((4 : Int32) * x9) + (2 : Int32)).toNatClampNeg)) (fun v38 => (if inR (((4 : Int32) * x9) + (1 : Int32)) 48 then (bnd (x8 + (g.1 4 (((4 : Int32) * x9) + (1 : Int32)).toNatClampNeg)) (fun v39 => (bnd (x9 + (1 : Int32)) (fun v40 => (X6_cargo_G38 N a1 a2 fu 1 x3 x4 x5 x6 v38 v39 v40 g))))) else none))) else none)))
  | _ + 1, _ + 2, _, _, _, _, _, _, _, _ => none

def X6_cargo (N : Nat) (a1 : Int32) (a2 : Int32) (g : Mem) : Option (Int32 × Mem) :=
  (ob (X6_in N a1 (0 : Int32) (999 : Int32) g) (fun v42 u41 => (if v42 = 0 then (some ((-2 : Int32), u41)) else (ob (X6_in N a2 (0 : Int32) (1 : Int32) u41) (fun v44 u43 => (if ¬ v44 = 0 then (ob (X6_placed N (1 : Int32) u43) (fun v46 u45 => (X6_cargo_G38 N a1 a2 N 0 v46 (0 : Int32) (0 : Int32) (1 : Int32) (0 : Int32) (0 : Int32) (0 : Int32) u45))) else (some ((-2 : Int32), u43))))))))

def X6_leftBy_L13 (N : Nat) (a1 : Int32) (a2 : Int32) (a3 : Int32) (a4 : Int32) : Nat → Int32 → Int32 → Int32 → Mem → Option (Int32 × Mem)
  | 0, _, _, _, _ => none
  | fu + 1, x5, x6, x7, g =>
    (if a4 ≤ x7 then (if x6 = 0 then (ob (X6_lays N g) (fun _ u48 => (some ((-1 : Int32), u48)))) else (ob (X6_can N a1 a2 g) (fun v51 u50 => (if v51 = 0 then (ob (X6_lays N u50) (fun _ u52 => (some ((-1 : Int32), u52)))) else (if inR ((2 : Int32) * a1) 12 then (ob (X6_costsOf N a1 a2 u50) (fun v55 u54 => (bnd ((u50.1 3 ((2 : Int32) * a1).toNatClampNeg) - v55) (fun v56 => (ob (X6_lays N u54) (fun _ u57 => (some (v56, u57)))))))) else none))))) else (if x6 = 0 then (if x6 = 0 then (ob (X6_lays N g) (fun _ u59 => (some ((-1 : Int32), u59)))) else (ob (X6_can N a1 a2 g) (fun v62 u61 => (if v62 = 0 then (ob (X6_lays N u61) (fun _ u63 => (some ((-1 : Int32), u63)))) else (if inR ((2 : Int32) * a1) 12 then (ob (X6_costsOf N a1 a2 u61) (fun v66 u65 => (bnd ((u61.1 3 ((2 : Int32) * a1).toNatClampNeg) - v66) (fun v67 => (ob (X6_lays N u65) (fun _ u68 => (some (v67, u68)))))))) else none))))) else (if (12 : Int32) = 0 then none else (ob (X6_within N (x5 - x5 / (12 : Int32) * (12 : Int32)) (0 : Int32) (11 : Int32) g) (fun v71 u70 => (if (12 : Int32) = 0 then none else (bnd (x5 / (12 : Int32)) (fun v72 => (if v71 = a2 then (if (0 : Int32) = 0 then (if (0 : Int32) = 0 then (bnd (x7 + (1 : Int32)) (fun v73 => (X6_leftBy_L13 N a1 a2 a3 a4 fu v72 (0 : Int32) v73 u70))) else (ob (X6_diveOf N a1 v71 u70) (fun _ u74 => (bnd (x7 + (1 : Int32)) (fun v76 => (X6_leftBy_L13 N a1 a2 a3 a4 fu v72 (0 : Int32) v76 u74)))))) else (ob (X6_can N a1 v71 u70) (fun v78 u77 => (if v78 = 0 then (bnd (x7 + (1 : Int32)) (fun v79 => (X6_leftBy_L13 N a1 a2 a3 a4 fu v72 v78 v79 u77))) else (ob (X6_diveOf N a1 v71 u77) (fun _ u80 => (bnd (x7 + (1 : Int32)) (fun v82 => (X6_leftBy_L13 N a1 a2 a3 a4 fu v72 v78 v82 u80))))))))) else (if (1 : Int32) = 0 then (if (1 : Int32) = 0 then (bnd (x7 + (1 : Int32)) (fun v83 => (X6_leftBy_L13 N a1 a2 a3 a4 fu v72 (1 : Int32) v83 u70))) else (ob (X6_diveOf N a1 v71 u70) (fun _ u84 => (bnd (x7 + (1 : Int32)) (fun v86 => (X6_leftBy_L13 N a1 a2 a3 a4 fu v72 (1 : Int32) v86 u84)))))) else (ob (X6_can N a1 v71 u70) (fun v88 u87 => (if v88 = 0 then (bnd (x7 + (1 : Int32)) (fun v89 => (X6_leftBy_L13 N a1 a2 a3 a4 fu v72 v88 v89 u87))) else (ob (X6_diveOf N a1 v71 u87) (fun _ u90 => (bnd (x7 + (1 : Int32)) (fun v92 => (X6_leftBy_L13 N a1 a2 a3 a4 fu v72 v88 v92 u90))))))))))))))))))

def X6_leftBy (N : Nat) (a1 : Int32) (a2 : Int32) (a3 : Int32) (a4 : Int32) (g : Mem) : Option (Int32 × Mem) :=
  (ob (X6_keeps N g) (fun _ u93 => (X6_leftBy_L13 N a1 a2 a3 a4 N a3 (1 : Int32) (0 : Int32) u93)))

def X6_last_L64 (N : Nat) (a1 : Int32) (a2 : Int32) (a3 : Int32) : Nat → Int32 → Int32 → Int32 → Mem → Option (Int32 × Mem)
  | 0, _, _, _, _ => none
  | fu + 1, x4, x5, x6, g =>
    (if x4 ≤ x6 then (some (x5, g)) else (ob (X6_leftBy N a1 a2 x6 a3 g) (fun v14 u13 => (if v14 ≤ x5 then (bnd (x6 + (1 : Int32)) (fun v15 => (X6_last_L64 N a1 a2 a3 fu x4 x5 v15 u13))) else (bnd (x6 + (1 : Int32)) (fun v16 => (X6_last_L64 N a1 a2 a3 fu x4 v14 v16 u13)))))))

def X6_last_L39 (N : Nat) (a1 : Int32) (a2 : Int32) (a3 : Int32) : Nat → Int32 → Int32 → Mem → Option (Int32 × Mem)
  | 0, _, _, _ => none
  | fu + 1, x4, x5, g =>
    (if a3 ≤ x5 then (X6_last_L64 N a1 a2 a3 N x4 (-1 : Int32) (0 : Int32) g) else (bnd (x4 * (12 : Int32)) (fun v17 => (bnd (x5 + (1 : Int32)) (fun v18 => (X6_last_L39 N a1 a2 a3 fu v17 v18 g))))))

def X6_last (N : Nat) (a1 : Int32) (a2 : Int32) (a3 : Int32) (g : Mem) : Option (Int32 × Mem) :=
  (ob (X6_isOne N a1 g) (fun v20 u19 => (if ¬ v20 = 0 then (ob (X6_isCask N a2 u19) (fun v22 u21 => (if ¬ v22 = 0 then (ob (X6_in N a3 (0 : Int32) (3 : Int32) u21) (fun v24 u23 => (if ¬ v24 = 0 then (X6_last_L39 N a1 a2 a3 N (1 : Int32) (0 : Int32) u23) else (some ((-7 : Int32), u23))))) else (some ((-6 : Int32), u21))))) else (some ((-5 : Int32), u19)))))

def X6_best_L19 (N : Nat) (a1 : Int32) : Nat → Int32 → Int32 → Int32 → Mem → Option (Int32 × Mem)
  | 0, _, _, _, _ => none
  | fu + 1, x2, x3, x4, g =>
    (if (g.1 0 0) ≤ x4 then (if ¬ a1 = 0 then (some (x3, g)) else (some (x2, g))) else (ob (X6_canSet N x4 g) (fun v12 u11 => (ob (X6_onesOf N v12 u11) (fun v14 u13 => (if v14 ≤ x3 then (if v14 ≤ x3 then (bnd (x4 + (1 : Int32)) (fun v15 => (X6_best_L19 N a1 fu x2 x3 v15 u13))) else (bnd (x4 + (1 : Int32)) (fun v16 => (X6_best_L19 N a1 fu x2 v14 v16 u13)))) else (if v14 ≤ x3 then (bnd (x4 + (1 : Int32)) (fun v17 => (X6_best_L19 N a1 fu x4 x3 v17 u13))) else (bnd (x4 + (1 : Int32)) (fun v18 => (X6_best_L19 N a1 fu x4 v14 v18 u13))))))))))

def X6_best (N : Nat) (a1 : Int32) (g : Mem) : Option (Int32 × Mem) :=
  (ob (X6_in N a1 (0 : Int32) (1 : Int32) g) (fun v20 u19 => (if ¬ v20 = 0 then (X6_best_L19 N a1 N (-1 : Int32) (0 : Int32) (0 : Int32) u19) else (some ((-2 : Int32), u19)))))

def X6_lowest_L16 (N : Nat) (a1 : Int64) (a2 : Int64) (a3 : Int32) : Nat → Int64 → Int64 → Mem → Option (Int64 × Mem)
  | 0, _, _, _ => none
  | fu + 1, x5l, x7l, g =>
    (if (lg_cmp x7l (0 : Int64)) = 0 then (if ¬ a3 = 0 then (if x5l = 0 then none else (some (a2 / x5l, g))) else (if x5l = 0 then none else (some (a1 / x5l, g)))) else (if x7l = 0 then none else (bnd (x5l - x5l / x7l * x7l) (fun v2 => (X6_lowest_L16 N a1 a2 a3 fu x7l v2 g)))))

def X6_lowest (N : Nat) (a1 : Int64) (a2 : Int64) (a3 : Int32) (g : Mem) : Option (Int64 × Mem) :=
  (if ¬ (lg_cmp a1 (0 : Int64)) = 0 then (X6_lowest_L16 N a1 a2 a3 N a1 a2 g) else (some ((a3).toInt64, g)))

def X6_share_L5 (N : Nat) (a1 : Int32) (a2 : Int32) : Nat → Int32 → Int32 → Mem → Option (Int64 × Mem)
  | 0, _, _, _ => none
  | fu + 1, x3, x4, g =>
    (if (6 : Int32) ≤ x4 then (ob (X6_isSky N a1 g) (fun v10 u9 => (if v10 = 0 then (some ((-4611686018427387904 : Int64), u9)) else (ob (X6_in N a2 (0 : Int32) (1 : Int32) u9) (fun v12 u11 => (if v12 = 0 then (some ((-4611686018427387904 : Int64), u11)) else (if x3 ≤ 0 then (some ((-4611686018427387904 : Int64), u11)) else (if inR a1 6 then (ob (X6_lowest N ((u11.1 5 (a1).toNatClampNeg).toInt64) ((x3).toInt64) a2 u11) (fun v14 u13 => (some (v14, u13)))) else none)))))))) else (if inR x4 6 then (bnd (x3 + (g.1 5 (x4).toNatClampNeg)) (fun v15 => (bnd (x4 + (1 : Int32)) (fun v16 => (X6_share_L5 N a1 a2 fu v15 v16 g))))) else none))

def X6_share (N : Nat) (a1 : Int32) (a2 : Int32) (g : Mem) : Option (Int64 × Mem) :=
  (X6_share_L5 N a1 a2 N (0 : Int32) (0 : Int32) g)

def X6_sheetWrong (N : Nat) (a1 : Int32) (a2 : Int32) (g : Mem) : Option (Int32 × Mem) :=
  (ob (X6_in N a1 (0 : Int32) (3 : Int32) g) (fun v4 u3 => (if ¬ v4 = 0 then (if inR a1 4 then (if ¬ (u3.1 11 (a1).toNatClampNeg) = (-1 : Int32) then (if inR a1 4 then (if (u3.1 12 (a1).toNatClampNeg) ≤ a2 then (some ((0 : Int32), u3)) else (some ((-2 : Int32), u3))) else none) else (some ((-11 : Int32), u3))) else none) else (some ((-2 : Int32), u3)))))

def X6_toldWrong (N : Nat) (a1 : Int32) (a2 : Int32) (g : Mem) : Option (Int32 × Mem) :=
  (ob (X6_sheetWrong N a1 (20 : Int32) g) (fun v6 u5 => (if v6 = 0 then (ob (X6_isSky N a2 u5) (fun v8 u7 => (if v8 = 0 then (some ((-5 : Int32), u7)) else (some ((0 : Int32), u7))))) else (some (v6, u5)))))

def X6_unlike_L9 (N : Nat) (a1 : Int32) (a2 : Int32) : Nat → Int32 → Int32 → Mem → Option (Int32 × Mem)
  | 0, _, _, _ => none
  | fu + 1, x3, x4, g =>
    (if inR a1 4 then (if (g.1 12 (a1).toNatClampNeg) ≤ x4 then (ob (X6_lays N g) (fun _ u11 => (some (x3, u11)))) else (if ¬ x3 = (-1 : Int32) then (ob (X6_lays N g) (fun _ u13 => (some (x3, u13)))) else (ob (X6_hourOf N g) (fun _ u15 => (if inR (((40 : Int32) * a1) + x4) 160 then (if inR a2 6 then (if ¬ (u15.1 13 (((40 : Int32) * a1) + x4).toNatClampNeg) = (u15.1 5 (a2).toNatClampNeg) then (bnd (x4 + (1 : Int32)) (fun v17 => (X6_unlike_L9 N a1 a2 fu x4 v17 u15))) else (bnd (x4 + (1 : Int32)) (fun v18 => (X6_unlike_L9 N a1 a2 fu (-1 : Int32) v18 u15)))) else none) else none))))) else none)

def X6_unlike (N : Nat) (a1 : Int32) (a2 : Int32) (g : Mem) : Option (Int32 × Mem) :=
  (ob (X6_keeps N g) (fun _ u19 => (X6_unlike_L9 N a1 a2 N (-1 : Int32) (0 : Int32) u19)))

def X6_judge (N : Nat) (a1 : Int32) (a2 : Int32) (g : Mem) : Option (Int32 × Mem) :=
  (ob (X6_toldWrong N a1 a2 g) (fun v6 u5 => (if ¬ v6 = 0 then (some (v6, u5)) else (ob (X6_unlike N a1 a2 u5) (fun v8 u7 => (some (v8, u7)))))))

def X6_opened_L19 (N : Nat) (a1 : Int32) (a2 : Int32) : Nat → Int32 → Int32 → Mem → Option (Int32 × Mem)
  | 0, _, _, _ => none
  | fu + 1, x4, x5, g =>
    (if (12 : Int32) ≤ x5 then (some (x4, g)) else (if inR (((4 : Int32) * x5) + (3 : Int32)) 48 then (if ¬ (g.1 4 (((4 : Int32) * x5) + (3 : Int32)).toNatClampNeg) = (1 : Int32) then (bnd (x5 + (1 : Int32)) (fun v18 => (X6_opened_L19 N a1 a2 fu x4 v18 g))) else (if inR ((4 : Int32) * x5) 48 then (bnd (g.1 4 ((4 : Int32) * x5).toNatClampNeg) (fun v19 => (if inR v19 6 then (bnd (g.1 5 (v19).toNatClampNeg) (fun v20 => (ob (X6_opens0 N x5 g) (fun _ u21 => (ob (X6_unlike N a1 a2 u21) (fun v24 u23 => (if ¬ v24 = (-1 : Int32) then (bnd (x4 ||| (0 : Int32)) (fun v25 => (if inR v19 6 then (bnd (stI u23 5 (v19).toNatClampNeg v20) (fun u26 => (if inR (((4 : Int32) * x5) + (3 : Int32)) 48 then (bnd (stI u26 4 (((4 : Int32) * x5) + (3 : Int32)).toNatClampNeg (1 : Int32)) (fun u27 => (bnd (x5 + (1 : Int32)) (fun v28 => (X6_opened_L19 N a1 a2 fu v25 v28 u27))))) else none))) else none))) else (bnd (x4 ||| ((1 : Int32) <<< (x5 &&& 31))) (fun v29 => (if inR v19 6 then (bnd (stI u23 5 (v19).toNatClampNeg v20) (fun u30 => (if inR (((4 : Int32) * x5) + (3 : Int32)) 48 then (bnd (stI u30 4 (((4 : Int32) * x5) + (3 : Int32)).toNatClampNeg (1 : Int32)) (fun u31 => (bnd (x5 + (1 : Int32)) (fun v32 => (X6_opened_L19 N a1 a2 fu v29 v32 u31))))) else none))) else none)))))))))) else none))) else none)) else none))

def X6_opened (N : Nat) (a1 : Int32) (a2 : Int32) (g : Mem) : Option (Int32 × Mem) :=
  (ob (X6_toldWrong N a1 a2 g) (fun v34 u33 => (if v34 = 0 then (X6_opened_L19 N a1 a2 N (0 : Int32) (0 : Int32) u33) else (some (v34, u33)))))

def X6_skies_L45 (N : Nat) (a1 : Int32) (a2 : Int32) (a3 : Int32) : Nat → Int32 → Int32 → Int32 → Int32 → Mem → Option (Int32 × Mem)
  | 0, _, _, _, _, _ => none
  | fu + 1, x5, x6, x7, x8, g =>
    (if (99 : Int32) < x8 then (if inR a2 6 then (bnd (stI g 5 (a2).toNatClampNeg x5) (fun u26 => (if ¬ a3 = 0 then (some (x7, u26)) else (some (x6, u26))))) else none) else (if inR a2 6 then (bnd (stI g 5 (a2).toNatClampNeg x8) (fun u27 => (ob (X6_unlike N a1 a2 u27) (fun v29 u28 => (if ¬ v29 = (-1 : Int32) then (if (0 : Int32) = 0 then (bnd (x6 + (0 : Int32)) (fun v30 => (if (0 : Int32) = 0 then (bnd (x8 + (1 : Int32)) (fun v31 => (X6_skies_L45 N a1 a2 a3 fu x5 v30 x7 v31 u28))) else (if ¬ x7 = (-1 : Int32) then (bnd (x8 + (1 : Int32)) (fun v32 => (X6_skies_L45 N a1 a2 a3 fu x5 v30 x7 v32 u28))) else (bnd (x8 + (1 : Int32)) (fun v33 => (X6_skies_L45 N a1 a2 a3 fu x5 v30 x8 v33 u28))))))) else (bnd (x6 + (1 : Int32)) (fun v34 => (if (0 : Int32) = 0 then (bnd (x8 + (1 : Int32)) (fun v35 => (X6_skies_L45 N a1 a2 a3 fu x5 v34 x7 v35 u28))) else (if ¬ x7 = (-1 : Int32) then (bnd (x8 + (1 : Int32)) (fun v36 => (X6_skies_L45 N a1 a2 a3 fu x5 v34 x7 v36 u28))) else (bnd (x8 + (1 : Int32)) (fun v37 => (X6_skies_L45 N a1 a2 a3 fu x5 v34 x8 v37 u28)))))))) else (if (1 : Int32) = 0 then (bnd (x6 + (0 : Int32)) (fun v38 => (if (1 : Int32) = 0 then (bnd (x8 + (1 : Int32)) (fun v39 => (X6_skies_L45 N a1 a2 a3 fu x5 v38 x7 v39 u28))) else (if ¬ x7 = (-1 : Int32) then (bnd (x8 + (1 : Int32)) (fun v40 => (X6_skies_L45 N a1 a2 a3 fu x5 v38 x7 v40 u28))) else (bnd (x8 + (1 : Int32)) (fun v41 => (X6_skies_L45 N a1 a2 a3 fu x5 v38 x8 v41 u28))))))) else (bnd (x6 + (1 : Int32)) (fun v42 => (if (1 : Int32) = 0 then (bnd (x8 + (1 : Int32)) (fun v43 => (X6_skies_L45 N a1 a2 a3 fu x5 v42 x7 v43 u28))) else (if ¬ x7 = (-1 : Int32) then (bnd (x8 + (1 : Int32)) (fun v44 => (X6_skies_L45 N a1 a2 a3 fu x5 v42 x7 v44 u28))) else (bnd (x8 + (1 : Int32)) (fun v45 => (X6_skies_L45 N a1 a2 a3 fu x5 v42 x8 v45 u28))))))))))))) else none))

def X6_skies (N : Nat) (a1 : Int32) (a2 : Int32) (a3 : Int32) (g : Mem) : Option (Int32 × Mem) :=
  (ob (X6_toldWrong N a1 a2 g) (fun v47 u46 => (if v47 = 0 then (ob (X6_in N a3 (0 : Int32) (1 : Int32) u46) (fun v49 u48 => (if ¬ v49 = 0 then (if inR a2 6 then (bnd (u48.1 5 (a2).toNatClampNeg) (fun v50 => (X6_skies_L45 N a1 a2 a3 N v50 (0 : Int32) (-1 : Int32) (0 : Int32) u48))) else none) else (some ((-7 : Int32), u48))))) else (some (v47, u46)))))

def X6_whose_L19 (N : Nat) (a1 : Int32) : Nat → Int32 → Int32 → Mem → Option (Int32 × Mem)
  | 0, _, _, _ => none
  | fu + 1, x3, x4, g =>
    (if (6 : Int32) ≤ x4 then (some (x3, g)) else (ob (X6_unlike N a1 x4 g) (fun v10 u9 => (if ¬ v10 = (-1 : Int32) then (bnd (x3 ||| (0 : Int32)) (fun v11 => (bnd (x4 + (1 : Int32)) (fun v12 => (X6_whose_L19 N a1 fu v11 v12 u9))))) else (bnd (x3 ||| ((1 : Int32) <<< (x4 &&& 31))) (fun v13 => (bnd (x4 + (1 : Int32)) (fun v14 => (X6_whose_L19 N a1 fu v13 v14 u9)))))))))

def X6_whose (N : Nat) (a1 : Int32) (g : Mem) : Option (Int32 × Mem) :=
  (ob (X6_sheetWrong N a1 (20 : Int32) g) (fun v16 u15 => (if v16 = 0 then (X6_whose_L19 N a1 N (0 : Int32) (0 : Int32) u15) else (some (v16, u15)))))

def X6_laws_L25 (N : Nat) (a1 : Int32) (a2 : Int32) : Nat → Int32 → Int32 → Int32 → Mem → Option (Int32 × Mem)
  | 0, _, _, _, _ => none
  | fu + 1, x4, x5, x6, g =>
    (if (g.1 0 11) ≤ x6 then (bnd (stI g 0 12 x4) (fun u12 => (some (x5, u12)))) else (bnd (stI g 0 12 x6) (fun u13 => (ob (X6_unlike N a1 a2 u13) (fun v15 u14 => (if ¬ v15 = (-1 : Int32) then (bnd (x5 ||| (0 : Int32)) (fun v16 => (bnd (x6 + (1 : Int32)) (fun v17 => (X6_laws_L25 N a1 a2 fu x4 v16 v17 u14))))) else (bnd (x5 ||| ((1 : Int32) <<< (x6 &&& 31))) (fun v18 => (bnd (x6 + (1 : Int32)) (fun v19 => (X6_laws_L25 N a1 a2 fu x4 v18 v19 u14)))))))))))

def X6_laws (N : Nat) (a1 : Int32) (a2 : Int32) (g : Mem) : Option (Int32 × Mem) :=
  (ob (X6_toldWrong N a1 a2 g) (fun v21 u20 => (if v21 = 0 then (bnd (u20.1 0 12) (fun v22 => (X6_laws_L25 N a1 a2 N v22 (0 : Int32) (0 : Int32) u20))) else (some (v21, u20)))))

def X6_film_L56 (N : Nat) (a1 : Int32) (a2 : Int32) (a3 : Int32) : Nat → Int32 → Mem → Option (Int32 × Mem)
  | 0, _, _ => none
  | fu + 1, x4, g =>
    (if (40 : Int32) ≤ x4 then (ob (X6_lays N g) (fun _ u19 => (some (a3, u19)))) else (if inR (((40 : Int32) * a1) + x4) 160 then (bnd (stI g 13 (((40 : Int32) * a1) + x4).toNatClampNeg (0 : Int32)) (fun u21 => (if a3 ≤ x4 then (bnd (x4 + (1 : Int32)) (fun v22 => (X6_film_L56 N a1 a2 a3 fu v22 u21))) else (ob (X6_hourOf N u21) (fun _ u23 => (if inR a2 6 then (if inR (((40 : Int32) * a1) + x4) 160 then (bnd (stI u23 13 (((40 : Int32) * a1) + x4).toNatClampNeg (u23.1 5 (a2).toNatClampNeg)) (fun u25 => (bnd (x4 + (1 : Int32)) (fun v26 => (X6_film_L56 N a1 a2 a3 fu v26 u25))))) else none) else none)))))) else none))

def X6_film (N : Nat) (a1 : Int32) (a2 : Int32) (a3 : Int32) (g : Mem) : Option (Int32 × Mem) :=
  (ob (X6_in N a1 (0 : Int32) (3 : Int32) g) (fun v28 u27 => (if ¬ v28 = 0 then (ob (X6_isSky N a2 u27) (fun v30 u29 => (if ¬ v30 = 0 then (ob (X6_in N a3 (0 : Int32) (20 : Int32) u29) (fun v32 u31 => (if ¬ v32 = 0 then (if inR a1 4 then (bnd (stI u31 11 (a1).toNatClampNeg (0 : Int32)) (fun u33 => (if inR a1 4 then (bnd (stI u33 12 (a1).toNatClampNeg a3) (fun u34 => (ob (X6_keeps N u34) (fun _ u35 => (X6_film_L56 N a1 a2 a3 N (0 : Int32) u35))))) else none))) else none) else (some ((-7 : Int32), u31))))) else (some ((-5 : Int32), u29))))) else (some ((-2 : Int32), u27)))))

def X6_divesWrong (N : Nat) (a1 : Int32) (a2 : Int32) (g : Mem) : Option (Int32 × Mem) :=
  (ob (X6_sheetWrong N a1 (12 : Int32) g) (fun v6 u5 => (if v6 = 0 then (ob (X6_isOne N a2 u5) (fun v8 u7 => (if v8 = 0 then (some ((-5 : Int32), u7)) else (some ((0 : Int32), u7))))) else (some (v6, u5)))))

def X6_divesSo_L2 (N : Nat) (a1 : Int32) (a2 : Int32) : Nat → Int32 → Mem → Option (Int32 × Mem)
  | 0, _, _ => none
  | fu + 1, x3, g =>
    (if inR a1 4 then (if (g.1 12 (a1).toNatClampNeg) ≤ x3 then (some ((1 : Int32), g)) else (if (12 : Int32) ≤ x3 then (some ((1 : Int32), g)) else (if inR (((40 : Int32) * a1) + x3) 160 then (ob (X6_can N a2 x3 g) (fun v6 u5 => (if v6 = 0 then (if (g.1 13 (((40 : Int32) * a1) + x3).toNatClampNeg) = (0 : Int32) then (bnd (x3 + (1 : Int32)) (fun v7 => (X6_divesSo_L2 N a1 a2 fu v7 u5))) else (some ((0 : Int32), u5))) else (if (g.1 13 (((40 : Int32) * a1) + x3).toNatClampNeg) = (1 : Int32) then (bnd (x3 + (1 : Int32)) (fun v8 => (X6_divesSo_L2 N a1 a2 fu v8 u5))) else (some ((0 : Int32), u5)))))) else none))) else none)

def X6_divesSo (N : Nat) (a1 : Int32) (a2 : Int32) (g : Mem) : Option (Int32 × Mem) :=
  (X6_divesSo_L2 N a1 a2 N (0 : Int32) g)

def X6_kinds_L50 (N : Nat) (a1 : Int32) (a2 : Int32) (a3 : Int32) : Nat → Int32 → Int32 → Int32 → Int32 → Mem → Option (Int32 × Mem)
  | 0, _, _, _, _, _ => none
  | fu + 1, x5, x6, x7, x8, g =>
    (if ¬ a3 = 0 then (if (10 : Int32) ≤ x8 then (if inR a2 6 then (bnd (stI g 1 (a2).toNatClampNeg x5) (fun u71 => (if inR a2 6 then (bnd (stI u71 2 (a2).toNatClampNeg x6) (fun u72 => (some (x7, u72)))) else none))) else none) else (if ¬ a3 = 0 then (if inR a2 6 then (bnd (stI g 1 (a2).toNatClampNeg x5) (fun u73 => (if ¬ a3 = (1 : Int32) then (if inR a2 6 then (bnd (stI u73 2 (a2).toNatClampNeg x6) (fun u74 => (ob (X6_divesSo N a1 a2 u74) (fun v76 u75 => (if v76 = 0 then (bnd (x7 ||| (0 : Int32)) (fun v77 => (bnd (x8 + (1 : Int32)) (fun v78 => (X6_kinds_L50 N a1 a2 a3 fu x5 x6 v77 v78 u75))))) else (bnd (x7 ||| ((1 : Int32) <<< (x8 &&& 31))) (fun v79 => (bnd (x8 + (1 : Int32)) (fun v80 => (X6_kinds_L50 N a1 a2 a3 fu x5 x6 v79 v80 u75)))))))))) else none) else (if inR a2 6 then (bnd (stI u73 2 (a2).toNatClampNeg x8) (fun u81 => (ob (X6_divesSo N a1 a2 u81) (fun v83 u82 => (if v83 = 0 then (bnd (x7 ||| (0 : Int32)) (fun v84 => (bnd (x8 + (1 : Int32)) (fun v85 => (X6_kinds_L50 N a1 a2 a3 fu x5 x6 v84 v85 u82))))) else (bnd (x7 ||| ((1 : Int32) <<< (x8 &&& 31))) (fun v86 => (bnd (x8 + (1 : Int32)) (fun v87 => (X6_kinds_L50 N a1 a2 a3 fu x5 x6 v86 v87 u82)))))))))) else none)))) else none) else (if inR a2 6 then (bnd (stI g 1 (a2).toNatClampNeg x8) (fun u88 => (if ¬ a3 = (1 : Int32) then (if inR a2 6 then (bnd (stI u88 2 (a2).toNatClampNeg x6) (fun u89 => (ob (X6_divesSo N a1 a2 u89) (fun v91 u90 => (if v91 = 0 then (bnd (x7 ||| (0 : Int32)) (fun v92 => (bnd (x8 + (1 : Int32)) (fun v93 => (X6_kinds_L50 N a1 a2 a3 fu x5 x6 v92 v93 u90))))) else (bnd (x7 ||| ((1 : Int32) <<< (x8 &&& 31))) (fun v94 => (bnd (x8 + (1 : Int32)) (fun v95 => (X6_kinds_L50 N a1 a2 a3 fu x5 x6 v94 v95 u90)))))))))) else none) else (if inR a2 6 then (bnd (stI u88 2 (a2).toNatClampNeg x8) (fun u96 => (ob (X6_divesSo N a1 a2 u96) (fun v98 u97 => (if v98 = 0 then (bnd (x7 ||| (0 : Int32)) (fun v99 => (bnd (x8 + (1 : Int32)) (fun v100 => (X6_kinds_L50 N a1 a2 a3 fu x5 x6 v99 v100 u97))))) else (bnd (x7 ||| ((1 : Int32) <<< (x8 &&& 31))) (fun v101 => (bnd (x8 + (1 : Int32)) (fun v102 => (X6_kinds_L50 N a1 a2 a3 fu x5 x6 v101 v102 u97)))))))))) else none)))) else none))) else (if (6 : Int32) ≤ x8 then (if inR a2 6 then (bnd (stI g 1 (a2).toNatClampNeg x5) (fun u103 => (if inR a2 6 then (bnd (stI u103 2 (a2).toNatClampNeg x6) (fun u104 => (some (x7, u104)))) else none))) else none) else (if ¬ a3 = 0 then (if inR a2 6 then (bnd (stI g 1 (a2).toNatClampNeg x5) (fun u105 => (if ¬ a3 = (1 : Int32) then (if inR a2 6 then (bnd (stI u105 2 (a2).toNatClampNeg x6) (fun u106 => (ob (X6_divesSo N a1 a2 u106) (fun v108 u107 => (if v108 = 0 then (bnd (x7 ||| (0 : Int32)) (fun v109 => (bnd (x8 + (1 : Int32)) (fun v110 => (X6_kinds_L50 N a1 a2 a3 fu x5 x6 v109 v110 u107))))) else (bnd (x7 ||| ((1 : Int32) <<< (x8 &&& 31))) (fun v111 => (bnd (x8 + (1 : Int32)) (fun v112 => (X6_kinds_L50 N a1 a2 a3 fu x5 x6 v111 v112 u107)))))))))) else none) else (if inR a2 6 then (bnd (stI u105 2 (a2).toNatClampNeg x8) (fun u113 => (ob (X6_divesSo N a1 a2 u113) (fun v115 u114 => (if v115 = 0 then (bnd (x7 ||| (0 : Int32)) (fun v116 => (bnd (x8 + (1 : Int32)) (fun v117 => (X6_kinds_L50 N a1 a2 a3 fu x5 x6 v116 v117 u114))))) else (bnd (x7 ||| ((1 : Int32) <<< (x8 &&& 31))) (fun v118 => (bnd (x8 + (1 : Int32)) (fun v119 => (X6_kinds_L50 N a1 a2 a3 fu x5 x6 v118 v119 u114)))))))))) else none)))) else none) else (if inR a2 6 then (bnd (stI g 1 (a2).toNatClampNeg x8) (fun u120 => (if ¬ a3 = (1 : Int32) then (if inR a2 6 then (bnd (stI u120 2 (a2).toNatClampNeg x6) (fun u121 => (ob (X6_divesSo N a1 a2 u121) (fun v123 u122 => (if v123 = 0 then (bnd (x7 ||| (0 : Int32)) (fun v124 => (bnd (x8 + (1 : Int32)) (fun v125 => (X6_kinds_L50 N a1 a2 a3 fu x5 x6 v124 v125 u122))))) else (bnd (x7 ||| ((1 : Int32) <<< (x8 &&& 31))) (fun v126 => (bnd (x8 + (1 : Int32)) (fun v127 => (X6_kinds_L50 N a1 a2 a3 fu x5 x6 v126 v127 u122)))))))))) else none) else (if inR a2 6 then (bnd (stI u120 2 (a2).toNatClampNeg x8) (fun u128 => (ob (X6_divesSo N a1 a2 u128) (fun v130 u129 => (if v130 = 0 then (bnd (x7 ||| (0 : Int32)) (fun v131 => (bnd (x8 + (1 : Int32)) (fun v132 => (X6_kinds_L50 N a1 a2 a3 fu x5 x6 v131 v132 u129))))) else (bnd (x7 ||| ((1 : Int32) <<< (x8 &&& 31))) (fun v133 => (bnd (x8 + (1 : Int32)) (fun v134 => (X6_kinds_L50 N a1 a2 a3 fu x5 x6 v133 v134 u129)))))))))) else none)))) else none))))

def X6_kinds (N : Nat) (a1 : Int32) (a2 : Int32) (a3 : Int32) (g : Mem) : Option (Int32 × Mem) :=
  (ob (X6_divesWrong N a1 a2 g) (fun v136 u135 => (if v136 = 0 then (ob (X6_in N a3 (0 : Int32) (1 : Int32) u135) (fun v138 u137 => (if ¬ v138 = 0 then (if inR a2 6 then (bnd (u137.1 1 (a2).toNatClampNeg) (fun v139 => (if inR a2 6 then (bnd (u137.1 2 (a2).toNatClampNeg) (fun v140 => (X6_kinds_L50 N a1 a2 a3 N v139 v140 (0 : Int32) (0 : Int32) u137))) else none))) else none) else (some ((-7 : Int32), u137))))) else (some (v136, u135)))))

def X6_breaths_L47 (N : Nat) (a1 : Int32) (a2 : Int32) (a3 : Int32) : Nat → Int32 → Int32 → Int32 → Int32 → Mem → Option (Int32 × Mem)
  | 0, _, _, _, _, _ => none
  | fu + 1, x5, x6, x7, x8, g =>
    (if (99 : Int32) < x8 then (if inR ((2 : Int32) * a2) 12 then (bnd (stI g 3 ((2 : Int32) * a2).toNatClampNeg x5) (fun u18 => (if ¬ a3 = 0 then (some (x7, u18)) else (some (x6, u18))))) else none) else (if inR ((2 : Int32) * a2) 12 then (bnd (stI g 3 ((2 : Int32) * a2).toNatClampNeg x8) (fun u19 => (ob (X6_divesSo N a1 a2 u19) (fun v21 u20 => (if v21 = 0 then (bnd (x6 + (0 : Int32)) (fun v22 => (if v21 = 0 then (bnd (x8 + (1 : Int32)) (fun v23 => (X6_breaths_L47 N a1 a2 a3 fu x5 v22 x7 v23 u20))) else (if ¬ x7 = (-1 : Int32) then (bnd (x8 + (1 : Int32)) (fun v24 => (X6_breaths_L47 N a1 a2 a3 fu x5 v22 x7 v24 u20))) else (bnd (x8 + (1 : Int32)) (fun v25 => (X6_breaths_L47 N a1 a2 a3 fu x5 v22 x8 v25 u20))))))) else (bnd (x6 + (1 : Int32)) (fun v26 => (if v21 = 0 then (bnd (x8 + (1 : Int32)) (fun v27 => (X6_breaths_L47 N a1 a2 a3 fu x5 v26 x7 v27 u20))) else (if ¬ x7 = (-1 : Int32) then (bnd (x8 + (1 : Int32)) (fun v28 => (X6_breaths_L47 N a1 a2 a3 fu x5 v26 x7 v28 u20))) else (bnd (x8 + (1 : Int32)) (fun v29 => (X6_breaths_L47 N a1 a2 a3 fu x5 v26 x8 v29 u20)))))))))))) else none))

def X6_breaths (N : Nat) (a1 : Int32) (a2 : Int32) (a3 : Int32) (g : Mem) : Option (Int32 × Mem) :=
  (ob (X6_divesWrong N a1 a2 g) (fun v31 u30 => (if v31 = 0 then (ob (X6_in N a3 (0 : Int32) (1 : Int32) u30) (fun v33 u32 => (if ¬ v33 = 0 then (if inR ((2 : Int32) * a2) 12 then (bnd (u32.1 3 ((2 : Int32) * a2).toNatClampNeg) (fun v34 => (X6_breaths_L47 N a1 a2 a3 N v34 (0 : Int32) (-1 : Int32) (0 : Int32) u32))) else none) else (some ((-7 : Int32), u32))))) else (some (v31, u30)))))

def X6_storms_L12 (N : Nat) (a1 : Int32) : Nat → Int64 → Int32 → Mem → Option (Int32 × Mem)
  | 0, _, _, _ => none
  | fu + 1, x2l, x4, g =>
    (if (8 : Int32) ≤ x4 then (ob (X6_main0 N g) (fun v22 u21 => (ob (X6_fair N u21) (fun v24 u23 => (bnd (stI u23 0 33 v24) (fun u25 => (ob (X6_lays N u25) (fun _ u26 => (some (v22, u26)))))))))) else (if (2147483647 : Int64) = 0 then none else (bnd ((x2l * (48271 : Int64)) - (x2l * (48271 : Int64)) / (2147483647 : Int64) * (2147483647 : Int64)) (fun v28 => (if (6 : Int64) = 0 then none else (ob (X6_within N ((v28 - v28 / (6 : Int64) * (6 : Int64)).toInt32) (0 : Int32) (5 : Int32) g) (fun v30 u29 => (if (2147483647 : Int64) = 0 then none else (bnd ((v28 * (48271 : Int64)) - (v28 * (48271 : Int64)) / (2147483647 : Int64) * (2147483647 : Int64)) (fun v31 => (if inR v30 6 then (if (30 : Int64) = 0 then none else (ob (X6_within N ((u29.1 5 (v30).toNatClampNeg) + ((v31 - v31 / (30 : Int64) * (30 : Int64)).toInt32)) (0 : Int32) (99 : Int32) u29) (fun v33 u32 => (if inR v30 6 then (bnd (stI u32 5 (v30).toNatClampNeg v33) (fun u34 => (ob (X6_hourOf N u34) (fun _ u35 => (bnd (x4 + (1 : Int32)) (fun v37 => (X6_storms_L12 N a1 fu v31 v37 u35))))))) else none)))) else none)))))))))))

def X6_storms (N : Nat) (a1 : Int32) (g : Mem) : Option (Int32 × Mem) :=
  (bnd (((a1).toInt64) + (1 : Int64)) (fun v38 => (ob (X6_keeps N g) (fun _ u39 => (X6_storms_L12 N a1 N v38 (0 : Int32) u39)))))

def X6_drawn (N : Nat) (a1 : Int32) (a2 : Int32) (g : Mem) : Option (Int32 × Mem) :=
  (ob (X6_in N a1 (0 : Int32) (99999 : Int32) g) (fun v8 u7 => (if v8 = 0 then (some ((-1000 : Int32), u7)) else (ob (X6_in N a2 (0 : Int32) (1 : Int32) u7) (fun v10 u9 => (if ¬ v10 = 0 then (ob (X6_storms N a1 u9) (fun v12 u11 => (if ¬ a2 = 0 then (some (u11.1 0 33, u11)) else (some (v12, u11))))) else (some ((-1000 : Int32), u9))))))))

def X6_odds_L48 (N : Nat) (a1 : Int32) (a2 : Int32) (a3 : Int32) (a4 : Int32) : Nat → Int64 → Int32 → Mem → Option (Int64 × Mem)
  | 0, _, _, _ => none
  | fu + 1, x5l, x7, g =>
    (if a2 ≤ x7 then (ob (X6_lowest N x5l ((a2).toInt64) a4 g) (fun v18 u17 => (some (v18, u17)))) else (ob (X6_storms N (a1 + x7) g) (fun v20 u19 => (if ¬ v20 = a3 then (bnd (x5l + (0 : Int64)) (fun v21 => (bnd (x7 + (1 : Int32)) (fun v22 => (X6_odds_L48 N a1 a2 a3 a4 fu v21 v22 u19))))) else (bnd (x5l + (1 : Int64)) (fun v23 => (bnd (x7 + (1 : Int32)) (fun v24 => (X6_odds_L48 N a1 a2 a3 a4 fu v23 v24 u19)))))))))

def X6_odds (N : Nat) (a1 : Int32) (a2 : Int32) (a3 : Int32) (a4 : Int32) (g : Mem) : Option (Int64 × Mem) :=
  (ob (X6_in N a1 (0 : Int32) (99999 : Int32) g) (fun v26 u25 => (if v26 = 0 then (some ((-4611686018427387904 : Int64), u25)) else (ob (X6_in N a2 (1 : Int32) (40 : Int32) u25) (fun v28 u27 => (if v28 = 0 then (some ((-4611686018427387904 : Int64), u27)) else (ob (X6_isSky N a3 u27) (fun v30 u29 => (if v30 = 0 then (some ((-4611686018427387904 : Int64), u29)) else (ob (X6_in N a4 (0 : Int32) (1 : Int32) u29) (fun v32 u31 => (if ¬ v32 = 0 then (X6_odds_L48 N a1 a2 a3 a4 N (0 : Int64) (0 : Int32) u31) else (some ((-4611686018427387904 : Int64), u31))))))))))))))

def X6_image_L62 (N : Nat) : Nat → Int32 → Mem → Option (Int32 × Mem)
  | 0, _, _ => none
  | fu + 1, x1, g =>
    (if (6 : Int32) ≤ x1 then (if inR (0 : Int32) 3 then (bnd (stI g 10 ((0 : Int32)).toNatClampNeg (g.1 0 0)) (fun u11 => (if inR (1 : Int32) 3 then (bnd (stI u11 10 ((1 : Int32)).toNatClampNeg (u11.1 0 6)) (fun u12 => (if inR (2 : Int32) 3 then (bnd (stI u12 10 ((2 : Int32)).toNatClampNeg (u12.1 0 12)) (fun u13 => (some (u13.1 0 0, u13)))) else none))) else none))) else none) else (if inR x1 6 then (if inR ((60 : Int32) + x1) 66 then (bnd (stI g 9 ((60 : Int32) + x1).toNatClampNeg (g.1 5 (x1).toNatClampNeg)) (fun u14 => (bnd (x1 + (1 : Int32)) (fun v15 => (X6_image_L62 N fu v15 u14))))) else none) else none))

def X6_image_L33 (N : Nat) : Nat → Int32 → Mem → Option (Int32 × Mem)
  | 0, _, _ => none
  | fu + 1, x1, g =>
    (if (48 : Int32) ≤ x1 then (X6_image_L62 N N (0 : Int32) g) else (if inR x1 48 then (if inR ((12 : Int32) + x1) 66 then (bnd (stI g 9 ((12 : Int32) + x1).toNatClampNeg (g.1 4 (x1).toNatClampNeg)) (fun u16 => (bnd (x1 + (1 : Int32)) (fun v17 => (X6_image_L33 N fu v17 u16))))) else none) else none))

def X6_image_L7 (N : Nat) : Nat → Int32 → Mem → Option (Int32 × Mem)
  | 0, _, _ => none
  | fu + 1, x1, g =>
    (if (12 : Int32) ≤ x1 then (X6_image_L33 N N (0 : Int32) g) else (if inR x1 12 then (if inR x1 66 then (bnd (stI g 9 (x1).toNatClampNeg (g.1 3 (x1).toNatClampNeg)) (fun u18 => (bnd (x1 + (1 : Int32)) (fun v19 => (X6_image_L7 N fu v19 u18))))) else none) else none))

def X6_image (N : Nat) (g : Mem) : Option (Int32 × Mem) :=
  (bnd (stI g 0 13 (1 : Int32)) (fun u20 => (X6_image_L7 N N (0 : Int32) u20)))

def X6_back_L67 (N : Nat) : Nat → Int32 → Mem → Option (Int32 × Mem)
  | 0, _, _ => none
  | fu + 1, x1, g =>
    (if (6 : Int32) ≤ x1 then (if inR (0 : Int32) 3 then (bnd (stI g 0 0 (g.1 10 ((0 : Int32)).toNatClampNeg)) (fun u10 => (if inR (1 : Int32) 3 then (bnd (stI u10 0 6 (u10.1 10 ((1 : Int32)).toNatClampNeg)) (fun u11 => (if inR (2 : Int32) 3 then (bnd (stI u11 0 12 (u11.1 10 ((2 : Int32)).toNatClampNeg)) (fun u12 => (some (u12.1 0 0, u12)))) else none))) else none))) else none) else (if inR ((60 : Int32) + x1) 66 then (if inR x1 6 then (bnd (stI g 5 (x1).toNatClampNeg (g.1 9 ((60 : Int32) + x1).toNatClampNeg)) (fun u13 => (bnd (x1 + (1 : Int32)) (fun v14 => (X6_back_L67 N fu v14 u13))))) else none) else none))

def X6_back_L38 (N : Nat) : Nat → Int32 → Mem → Option (Int32 × Mem)
  | 0, _, _ => none
  | fu + 1, x1, g =>
    (if (48 : Int32) ≤ x1 then (X6_back_L67 N N (0 : Int32) g) else (if inR ((12 : Int32) + x1) 66 then (if inR x1 48 then (bnd (stI g 4 (x1).toNatClampNeg (g.1 9 ((12 : Int32) + x1).toNatClampNeg)) (fun u15 => (bnd (x1 + (1 : Int32)) (fun v16 => (X6_back_L38 N fu v16 u15))))) else none) else none))

def X6_back_L12 (N : Nat) : Nat → Int32 → Mem → Option (Int32 × Mem)
  | 0, _, _ => none
  | fu + 1, x1, g =>
    (if (12 : Int32) ≤ x1 then (X6_back_L38 N N (0 : Int32) g) else (if inR x1 66 then (if inR x1 12 then (bnd (stI g 3 (x1).toNatClampNeg (g.1 9 (x1).toNatClampNeg)) (fun u17 => (bnd (x1 + (1 : Int32)) (fun v18 => (X6_back_L12 N fu v18 u17))))) else none) else none))

def X6_back (N : Nat) (g : Mem) : Option (Int32 × Mem) :=
  (if ¬ (g.1 0 13) = 0 then (X6_back_L12 N N (0 : Int32) g) else (some ((-3 : Int32), g)))

def X6_sheet_L70 (N : Nat) (a1 : Int32) (a2 : Int32) (a3 : Int32) : Nat → Int32 → Mem → Option (Int32 × Mem)
  | 0, _, _ => none
  | fu + 1, x4, g =>
    (if (40 : Int32) ≤ x4 then (some ((1 : Int32), g)) else (if inR (((40 : Int32) * a1) + x4) 160 then (bnd (stI g 13 (((40 : Int32) * a1) + x4).toNatClampNeg (0 : Int32)) (fun u19 => (bnd (x4 + (1 : Int32)) (fun v20 => (X6_sheet_L70 N a1 a2 a3 fu v20 u19))))) else none))

def X6_sheet (N : Nat) (a1 : Int32) (a2 : Int32) (a3 : Int32) (g : Mem) : Option (Int32 × Mem) :=
  (ob (X6_in N a1 (0 : Int32) (3 : Int32) g) (fun v22 u21 => (if v22 = 0 then (some ((-2 : Int32), u21)) else (ob (X6_in N a2 (-1 : Int32) (2 : Int32) u21) (fun v24 u23 => (if v24 = 0 then (some ((-2 : Int32), u23)) else (if a2 = (-1 : Int32) then (if a2 = (-1 : Int32) then (if inR a1 4 then (bnd (stI u23 11 (a1).toNatClampNeg a2) (fun u25 => (if ¬ a2 = (-1 : Int32) then (if inR a1 4 then (bnd (stI u25 12 (a1).toNatClampNeg a3) (fun u26 => (X6_sheet_L70 N a1 a2 a3 N (0 : Int32) u26))) else none) else (if inR a1 4 then (bnd (stI u25 12 (a1).toNatClampNeg (0 : Int32)) (fun u27 => (X6_sheet_L70 N a1 a2 a3 N (0 : Int32) u27))) else none)))) else none) else (if 0 ≤ a3 then (if inR a1 4 then (bnd (stI u23 11 (a1).toNatClampNeg a2) (fun u28 => (if ¬ a2 = (-1 : Int32) then (if inR a1 4 then (bnd (stI u28 12 (a1).toNatClampNeg a3) (fun u29 => (X6_sheet_L70 N a1 a2 a3 N (0 : Int32) u29))) else none) else (if inR a1 4 then (bnd (stI u28 12 (a1).toNatClampNeg (0 : Int32)) (fun u30 => (X6_sheet_L70 N a1 a2 a3 N (0 : Int32) u30))) else none)))) else none) else (some ((-14 : Int32), u23)))) else (if a3 ≤ (40 : Int32) then (if a2 = (-1 : Int32) then (if inR a1 4 then (bnd (stI u23 11 (a1).toNatClampNeg a2) (fun u31 => (if ¬ a2 = (-1 : Int32) then (if inR a1 4 then (bnd (stI u31 12 (a1).toNatClampNeg a3) (fun u32 => (X6_sheet_L70 N a1 a2 a3 N (0 : Int32) u32))) else none) else (if inR a1 4 then (bnd (stI u31 12 (a1).toNatClampNeg (0 : Int32)) (fun u33 => (X6_sheet_L70 N a1 a2 a3 N (0 : Int32) u33))) else none)))) else none) else (if 0 ≤ a3 then (if inR a1 4 then (bnd (stI u23 11 (a1).toNatClampNeg a2) (fun u34 => (if ¬ a2 = (-1 : Int32) then (if inR a1 4 then (bnd (stI u34 12 (a1).toNatClampNeg a3) (fun u35 => (X6_sheet_L70 N a1 a2 a3 N (0 : Int32) u35))) else none) else (if inR a1 4 then (bnd (stI u34 12 (a1).toNatClampNeg (0 : Int32)) (fun u36 => (X6_sheet_L70 N a1 a2 a3 N (0 : Int32) u36))) else none)))) else none) else (some ((-14 : Int32), u23)))) else (some ((-2 : Int32), u23))))))))))

def X6_cell (N : Nat) (a1 : Int32) (a2 : Int32) (a3 : Int32) (g : Mem) : Option (Int32 × Mem) :=
  (ob (X6_in N a1 (0 : Int32) (3 : Int32) g) (fun v9 u8 => (if ¬ v9 = 0 then (if inR a1 4 then (if ¬ (u8.1 11 (a1).toNatClampNeg) = (-1 : Int32) then (if inR a1 4 then (ob (X6_in N a2 (0 : Int32) ((u8.1 12 (a1).toNatClampNeg) - (1 : Int32)) u8) (fun v11 u10 => (if ¬ v11 = 0 then (if inR a1 4 then (if ¬ (u10.1 11 (a1).toNatClampNeg) = 0 then (if inR a1 4 then (if ¬ (u10.1 11 (a1).toNatClampNeg) = (1 : Int32) then (if inR (((40 : Int32) * a1) + a2) 160 then (bnd (stI u10 13 (((40 : Int32) * a1) + a2).toNatClampNeg a3) (fun u12 => (some ((1 : Int32), u12)))) else none) else (if inR (((40 : Int32) * a1) + a2) 160 then (bnd (stI u10 13 (((40 : Int32) * a1) + a2).toNatClampNeg ((a3).toInt16.toInt32)) (fun u13 => (some ((1 : Int32), u13)))) else none)) else none) else (if inR (((40 : Int32) * a1) + a2) 160 then (bnd (stI u10 13 (((40 : Int32) * a1) + a2).toNatClampNeg ((a3).toInt8.toInt32)) (fun u14 => (some ((1 : Int32), u14)))) else none)) else none) else (some ((-12 : Int32), u10))))) else none) else (some ((-11 : Int32), u8))) else none) else (some ((-2 : Int32), u8)))))

def X6_copy_L147 (N : Nat) (a1 : Int32) (a2 : Int32) (a3 : Int32) (a4 : Int32) (a5 : Int32) : Nat → Int32 → Int32 → Int32 → Mem → Option (Int32 × Mem)
  | 0, _, _, _, _ => none
  | fu + 1, x6, x7, x8, g =>
    (if a5 ≤ x8 then (some (a5, g)) else (if x7 ≤ x6 then (if inR (x6 + x8) 160 then (if inR (x7 + x8) 160 then (bnd (stI g 13 (x7 + x8).toNatClampNeg (g.1 13 (x6 + x8).toNatClampNeg)) (fun u12 => (bnd (x8 + (1 : Int32)) (fun v13 => (X6_copy_L147 N a1 a2 a3 a4 a5 fu x6 x7 v13 u12))))) else none) else none) else (bnd ((a5 - (1 : Int32)) - x8) (fun v14 => (if inR (x6 + v14) 160 then (if inR (x7 + v14) 160 then (bnd (stI g 13 (x7 + v14).toNatClampNeg (g.1 13 (x6 + v14).toNatClampNeg)) (fun u15 => (bnd (x8 + (1 : Int32)) (fun v16 => (X6_copy_L147 N a1 a2 a3 a4 a5 fu x6 x7 v16 u15))))) else none) else none)))))

def X6_copy (N : Nat) (a1 : Int32) (a2 : Int32) (a3 : Int32) (a4 : Int32) (a5 : Int32) (g : Mem) : Option (Int32 × Mem) :=
  (ob (X6_in N a1 (0 : Int32) (3 : Int32) g) (fun v18 u17 => (if v18 = 0 then (some ((-2 : Int32), u17)) else (ob (X6_in N a3 (0 : Int32) (3 : Int32) u17) (fun v20 u19 => (if ¬ v20 = 0 then (if inR a1 4 then (if (u19.1 11 (a1).toNatClampNeg) = (-1 : Int32) then (some ((-11 : Int32), u19)) else (if inR a3 4 then (if ¬ (u19.1 11 (a3).toNatClampNeg) = (-1 : Int32) then (if inR a1 4 then (if inR a3 4 then (if (u19.1 11 (a1).toNatClampNeg) = (u19.1 11 (a3).toNatClampNeg) then (if a5 < 0 then (some ((-12 : Int32), u19)) else (if a2 < 0 then (some ((-12 : Int32), u19)) else (if a4 < 0 then (some ((-12 : Int32), u19)) else (if inR a1 4 then (if (u19.1 12 (a1).toNatClampNeg) < a2 then (some ((-12 : Int32), u19)) else (if inR a3 4 then (if (u19.1 12 (a3).toNatClampNeg) < a4 then (some ((-12 : Int32), u19)) else (if inR a1 4 then (if ((u19.1 12 (a1).toNatClampNeg) - a2) < a5 then (some ((-12 : Int32), u19)) else (if inR a3 4 then (if a5 ≤ ((u19.1 12 (a3).toNatClampNeg) - a4) then (bnd (((40 : Int32) * a1) + a2) (fun v21 => (bnd (((40 : Int32) * a3) + a4) (fun v22 => (X6_copy_L147 N a1 a2 a3 a4 a5 N v21 v22 (0 : Int32) u19))))) else (some ((-12 : Int32), u19))) else none)) else none)) else none)) else none)))) else (some ((-13 : Int32), u19))) else none) else none) else (some ((-11 : Int32), u19))) else none)) else none) else (some ((-2 : Int32), u19))))))))

def X6_diversBy_L64 (N : Nat) (a1 : Int32) (a2 : Int32) (a3 : Int32) (a4 : Int32) : Nat → Int32 → Int32 → Mem → Option (Int32 × Mem)
  | 0, _, _, _ => none
  | fu + 1, x5, x6, g =>
    (if a4 ≤ x6 then (some (x5, g)) else (bnd (a3 + ((2 : Int32) * x6)) (fun v15 => (if a3 < 0 then (some ((-12 : Int32), g)) else (if v15 < a3 then (some ((-12 : Int32), g)) else (if inR a1 4 then (if v15 ≤ ((g.1 12 (a1).toNatClampNeg) - (2 : Int32)) then (bnd (((40 : Int32) * a1) + v15) (fun v16 => (if inR v16 160 then (if inR (v16 + (1 : Int32)) 160 then (ob (X6_diver N (g.1 13 (v16).toNatClampNeg) (g.1 13 (v16 + (1 : Int32)).toNatClampNeg) g) (fun v18 u17 => (if v18 < 0 then (bnd (x5 + (0 : Int32)) (fun v19 => (bnd (x6 + (1 : Int32)) (fun v20 => (X6_diversBy_L64 N a1 a2 a3 a4 fu v19 v20 u17))))) else (bnd (x5 + (1 : Int32)) (fun v21 => (bnd (x6 + (1 : Int32)) (fun v22 => (X6_diversBy_L64 N a1 a2 a3 a4 fu v21 v22 u17)))))))) else none) else none))) else (some ((-12 : Int32), g))) else none))))))

def X6_diversBy (N : Nat) (a1 : Int32) (a2 : Int32) (a3 : Int32) (a4 : Int32) (g : Mem) : Option (Int32 × Mem) :=
  (ob (X6_in N a1 (0 : Int32) (3 : Int32) g) (fun v24 u23 => (if v24 = 0 then (some ((-2 : Int32), u23)) else (ob (X6_in N a2 (0 : Int32) (2 : Int32) u23) (fun v26 u25 => (if v26 = 0 then (some ((-2 : Int32), u25)) else (ob (X6_in N a4 (0 : Int32) (6 : Int32) u25) (fun v28 u27 => (if ¬ v28 = 0 then (if inR a1 4 then (if ¬ (u27.1 11 (a1).toNatClampNeg) = (-1 : Int32) then (if inR a1 4 then (if (u27.1 11 (a1).toNatClampNeg) = a2 then (X6_diversBy_L64 N a1 a2 a3 a4 N (0 : Int32) (0 : Int32) u27) else (some ((-13 : Int32), u27))) else none) else (some ((-11 : Int32), u27))) else none) else (some ((-2 : Int32), u27)))))))))))

def X6_isUnder (N : Nat) (a1 : Int32) (a2 : Int32) (g : Mem) : Option (Int32 × Mem) :=
  (if a2 = 0 then (some ((1 : Int32), g)) else (if a1 = a2 then (some ((1 : Int32), g)) else (if ¬ a2 = (1 : Int32) then (if ¬ a2 = (2 : Int32) then (some ((0 : Int32), g)) else (if ¬ a1 = (4 : Int32) then (some ((0 : Int32), g)) else (some ((1 : Int32), g)))) else (if a1 = (3 : Int32) then (some ((1 : Int32), g)) else (if ¬ a2 = (2 : Int32) then (some ((0 : Int32), g)) else (if ¬ a1 = (4 : Int32) then (some ((0 : Int32), g)) else (some ((1 : Int32), g))))))))

def X6_taken (N : Nat) (a1 : Int32) (a2 : Int32) (g : Mem) : Option (Int32 × Mem) :=
  (ob (X6_in N a2 (0 : Int32) (6 : Int32) g) (fun v9 u8 => (if ¬ v9 = 0 then (ob (X6_in N a1 (0 : Int32) (17 : Int32) u8) (fun v11 u10 => (if ¬ v11 = 0 then (if a1 < (6 : Int32) then (if a1 < (u10.1 0 0) then (if (6 : Int32) ≤ a2 then (some ((-13 : Int32), u10)) else (if inR a1 6 then (ob (X6_isUnder N (u10.1 1 (a1).toNatClampNeg) a2 u10) (fun v13 u12 => (if v13 = 0 then (some ((-13 : Int32), u12)) else (some (a1, u12))))) else none)) else (some ((-11 : Int32), u10))) else (bnd (a1 - (6 : Int32)) (fun v14 => (if inR (((4 : Int32) * v14) + (3 : Int32)) 48 then (if ¬ (u10.1 4 (((4 : Int32) * v14) + (3 : Int32)).toNatClampNeg) = (2 : Int32) then (if ¬ a2 = (6 : Int32) then (some ((-13 : Int32), u10)) else (if inR (((4 : Int32) * v14) + (1 : Int32)) 48 then (some (u10.1 4 (((4 : Int32) * v14) + (1 : Int32)).toNatClampNeg, u10)) else none)) else (some ((-11 : Int32), u10))) else none)))) else (some ((-12 : Int32), u10))))) else (some ((-2 : Int32), u8)))))
