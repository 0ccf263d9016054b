/-! THE LAW'S OPS  -/
section C81
variable {sc : Nat × (Nat → Int32)} {m : Nat → Int → Int} {r : Nat → Nat → Value} {T : jx_H} {d : Nat} {Q : Option Value → jx_H → Prop} {i : Int}
def lwK (sc : Nat × (Nat → Int32)) (d : Nat) (i : Int) (T : jx_H) (Q : Option Value → jx_H → Prop) : Prop := ∀ (A' : aT) (m' : Nat → Int → Int) (r' : Nat → Nat → Value) (T' : jx_H), iC A' m' r' T' → iG A' m' → tG T T' → je sc d 213 1127 [.retAddr 0, .ref 0, .ref 45, .int (jI i)] [] (jh m' r' T') Q
set_option maxRecDepth 20000 in
theorem lw_letter {A : aT} (I : iC A m r T) (J : iG A m) (hi : 0 ≤ i ∧ i + 5 ≤ (sc.1 : Int)) (hs : sc.1 ≤ 2560) (hd : 20 ≤ d) (K : lwK sc d i T Q) : je sc d 213 172 [.retAddr 0, .ref 0, .ref 45, .int (jI i)] [] (jh m r T) Q := by
  refine je_ps jb_law 4 (pc' := 176) (ls' := [_, _, _, _]) (st' := [_, _, _, _]) rfl ?_
  refine je_iadd jb_law rfl (pc' := 177) rfl ?_
  refine je_iald0 jb_law rfl (pc' := 178) rfl (by first | omega | exact (hM _ _).1 | exact (hM _ _).2) (by first | omega | exact (hM _ _).1 | exact (hM _ _).2) (by first | omega | exact (hM _ _).1 | exact (hM _ _).2) ?_
  refine je_cv jb_law rfl (pc' := 181) rfl (jh_at (a := 0) rfl) (by rfl) (by first | decide | exact Nat.ble_eq_true_of_le (by omega)) (cl_letter I (sv_i sc _)) ?_
  rintro _ _ ⟨m1, r1, T1, rfl, rfl, I1, k1, t1⟩
  show je _ _ _ _ _ [_] _ _
  refine je_ps jb_law 4 (pc' := 185) (ls' := [_, _, _, _]) (st' := [_, _, _, _, _]) rfl ?_
  refine je_iadd jb_law rfl (pc' := 186) rfl ?_
  refine je_iald0 jb_law rfl (pc' := 187) rfl (by first | omega | exact (hM _ _).1 | exact (hM _ _).2) (by first | omega | exact (hM _ _).1 | exact (hM _ _).2) (by first | omega | exact (hM _ _).1 | exact (hM _ _).2) ?_
  refine je_cv jb_law rfl (pc' := 190) rfl (jh_at (a := 45) rfl) (by rfl) (by first | decide | exact Nat.ble_eq_true_of_le (by omega)) (gl_letter I.1 (J.g k1) ⟨I.q.2.2.1, I.q.2.2.2⟩ (sv_i sc _)) ?_
  rintro _ _ ⟨m2, rfl, rfl, J2, k2⟩
  show je _ _ _ _ _ [_, _] _ _
  refine je_icmpsame jb_law rfl (t := 1127) rfl ?_
  exact K _ _ _ _ (I1.k k2) J2 t1
set_option maxRecDepth 20000 in
theorem lw_word {A : aT} (I : iC A m r T) (J : iG A m) (hi : 0 ≤ i ∧ i + 5 ≤ (sc.1 : Int)) (hs : sc.1 ≤ 2560) (hd : 20 ≤ d) (K : lwK sc d i T Q) : je sc d 213 195 [.retAddr 0, .ref 0, .ref 45, .int (jI i)] [] (jh m r T) Q := by
  refine je_ps jb_law 1 (pc' := 196) (ls' := [_, _, _, _]) (st' := [_]) rfl ?_
  refine je_cv jb_law rfl (pc' := 199) rfl (jh_at (a := 0) rfl) (by rfl) (by first | decide | exact Nat.ble_eq_true_of_le (by omega)) (cl_word I ) ?_
  rintro _ _ ⟨m1, r1, T1, rfl, rfl, I1, k1, t1⟩
  show je _ _ _ _ _ [_] _ _
  refine je_ps jb_law 1 (pc' := 200) (ls' := [_, _, _, _]) (st' := [_, _]) rfl ?_
  refine je_cv jb_law rfl (pc' := 203) rfl (jh_at (a := 45) rfl) (by rfl) (by first | decide | exact Nat.ble_eq_true_of_le (by omega)) (gl_word I.1 (J.g k1) ⟨I.q.2.2.1, I.q.2.2.2⟩ ) ?_
  rintro _ _ ⟨m2, rfl, rfl, J2, k2⟩
  show je _ _ _ _ _ [_, _] _ _
  refine je_icmpsame jb_law rfl (t := 1127) rfl ?_
  exact K _ _ _ _ (I1.k k2) J2 t1
set_option maxRecDepth 20000 in
theorem lw_street {A : aT} (I : iC A m r T) (J : iG A m) (hi : 0 ≤ i ∧ i + 5 ≤ (sc.1 : Int)) (hs : sc.1 ≤ 2560) (hd : 20 ≤ d) (K : lwK sc d i T Q) : je sc d 213 208 [.retAddr 0, .ref 0, .ref 45, .int (jI i)] [] (jh m r T) Q := by
  refine je_ps jb_law 4 (pc' := 212) (ls' := [_, _, _, _]) (st' := [_, _, _, _]) rfl ?_
  refine je_iadd jb_law rfl (pc' := 213) rfl ?_
  refine je_iald0 jb_law rfl (pc' := 214) rfl (by first | omega | exact (hM _ _).1 | exact (hM _ _).2) (by first | omega | exact (hM _ _).1 | exact (hM _ _).2) (by first | omega | exact (hM _ _).1 | exact (hM _ _).2) ?_
  refine je_ps jb_law 3 (pc' := 217) (ls' := [_, _, _, _]) (st' := [_, _, _, _, _]) rfl ?_
  refine je_iadd jb_law rfl (pc' := 218) rfl ?_
  refine je_iald0 jb_law rfl (pc' := 219) rfl (by first | omega | exact (hM _ _).1 | exact (hM _ _).2) (by first | omega | exact (hM _ _).1 | exact (hM _ _).2) (by first | omega | exact (hM _ _).1 | exact (hM _ _).2) ?_
  refine je_ps jb_law 3 (pc' := 222) (ls' := [_, _, _, _]) (st' := [_, _, _, _, _, _]) rfl ?_
  refine je_iadd jb_law rfl (pc' := 223) rfl ?_
  refine je_iald0 jb_law rfl (pc' := 224) rfl (by first | omega | exact (hM _ _).1 | exact (hM _ _).2) (by first | omega | exact (hM _ _).1 | exact (hM _ _).2) (by first | omega | exact (hM _ _).1 | exact (hM _ _).2) ?_
  refine je_cv jb_law rfl (pc' := 227) rfl (jh_at (a := 0) rfl) (by rfl) (by first | decide | exact Nat.ble_eq_true_of_le (by omega)) (cl_street I (sv_i sc _) (sv_i sc _) (sv_i sc _)) ?_
  rintro _ _ ⟨m1, r1, T1, rfl, rfl, I1, k1, t1⟩
  show je _ _ _ _ _ [_] _ _
  refine je_ps jb_law 4 (pc' := 231) (ls' := [_, _, _, _]) (st' := [_, _, _, _, _]) rfl ?_
  refine je_iadd jb_law rfl (pc' := 232) rfl ?_
  refine je_iald0 jb_law rfl (pc' := 233) rfl (by first | omega | exact (hM _ _).1 | exact (hM _ _).2) (by first | omega | exact (hM _ _).1 | exact (hM _ _).2) (by first | omega | exact (hM _ _).1 | exact (hM _ _).2) ?_
  refine je_ps jb_law 3 (pc' := 236) (ls' := [_, _, _, _]) (st' := [_, _, _, _, _, _]) rfl ?_
  refine je_iadd jb_law rfl (pc' := 237) rfl ?_
  refine je_iald0 jb_law rfl (pc' := 238) rfl (by first | omega | exact (hM _ _).1 | exact (hM _ _).2) (by first | omega | exact (hM _ _).1 | exact (hM _ _).2) (by first | omega | exact (hM _ _).1 | exact (hM _ _).2) ?_
  refine je_ps jb_law 3 (pc' := 241) (ls' := [_, _, _, _]) (st' := [_, _, _, _, _, _, _]) rfl ?_
  refine je_iadd jb_law rfl (pc' := 242) rfl ?_
  refine je_iald0 jb_law rfl (pc' := 243) rfl (by first | omega | exact (hM _ _).1 | exact (hM _ _).2) (by first | omega | exact (hM _ _).1 | exact (hM _ _).2) (by first | omega | exact (hM _ _).1 | exact (hM _ _).2) ?_
  refine je_cv jb_law rfl (pc' := 246) rfl (jh_at (a := 45) rfl) (by rfl) (by first | decide | exact Nat.ble_eq_true_of_le (by omega)) (gl_street I.1 (J.g k1) (sv_i sc _) (sv_i sc _) (sv_i sc _)) ?_
  rintro _ _ ⟨m2, rfl, rfl, J2, k2⟩
  show je _ _ _ _ _ [_, _] _ _
  refine je_icmpsame jb_law rfl (t := 1127) rfl ?_
  exact K _ _ _ _ (I1.k k2) J2 t1
set_option maxRecDepth 20000 in
theorem lw_drop {A : aT} (I : iC A m r T) (J : iG A m) (hi : 0 ≤ i ∧ i + 5 ≤ (sc.1 : Int)) (hs : sc.1 ≤ 2560) (hd : 20 ≤ d) (K : lwK sc d i T Q) : je sc d 213 251 [.retAddr 0, .ref 0, .ref 45, .int (jI i)] [] (jh m r T) Q := by
  refine je_ps jb_law 1 (pc' := 252) (ls' := [_, _, _, _]) (st' := [_]) rfl ?_
  refine je_cv jb_law rfl (pc' := 255) rfl (jh_at (a := 0) rfl) (by rfl) (by first | decide | exact Nat.ble_eq_true_of_le (by omega)) (cl_drop I ) ?_
  rintro _ _ ⟨m1, r1, T1, rfl, rfl, I1, k1, t1⟩
  show je _ _ _ _ _ [_] _ _
  refine je_ps jb_law 1 (pc' := 256) (ls' := [_, _, _, _]) (st' := [_, _]) rfl ?_
  refine je_cv jb_law rfl (pc' := 259) rfl (jh_at (a := 45) rfl) (by rfl) (by first | decide | exact Nat.ble_eq_true_of_le (by omega)) (gl_drop I.1 (J.g k1) ) ?_
  rintro _ _ ⟨m2, rfl, rfl, J2, k2⟩
  show je _ _ _ _ _ [_, _] _ _
  refine je_icmpsame jb_law rfl (t := 1127) rfl ?_
  exact K _ _ _ _ (I1.k k2) J2 t1
set_option maxRecDepth 20000 in
theorem lw_of {A : aT} (I : iC A m r T) (J : iG A m) (hi : 0 ≤ i ∧ i + 5 ≤ (sc.1 : Int)) (hs : sc.1 ≤ 2560) (hd : 20 ≤ d) (K : lwK sc d i T Q) : je sc d 213 264 [.retAddr 0, .ref 0, .ref 45, .int (jI i)] [] (jh m r T) Q := by
  refine je_ps jb_law 4 (pc' := 268) (ls' := [_, _, _, _]) (st' := [_, _, _, _]) rfl ?_
  refine je_iadd jb_law rfl (pc' := 269) rfl ?_
  refine je_iald0 jb_law rfl (pc' := 270) rfl (by first | omega | exact (hM _ _).1 | exact (hM _ _).2) (by first | omega | exact (hM _ _).1 | exact (hM _ _).2) (by first | omega | exact (hM _ _).1 | exact (hM _ _).2) ?_
  refine je_ps jb_law 3 (pc' := 273) (ls' := [_, _, _, _]) (st' := [_, _, _, _, _]) rfl ?_
  refine je_iadd jb_law rfl (pc' := 274) rfl ?_
  refine je_iald0 jb_law rfl (pc' := 275) rfl (by first | omega | exact (hM _ _).1 | exact (hM _ _).2) (by first | omega | exact (hM _ _).1 | exact (hM _ _).2) (by first | omega | exact (hM _ _).1 | exact (hM _ _).2) ?_
  refine je_cv jb_law rfl (pc' := 278) rfl (jh_at (a := 0) rfl) (by rfl) (by first | decide | exact Nat.ble_eq_true_of_le (by omega)) (cl_of I (sv_i sc _) (sv_i sc _)) ?_
  rintro _ _ ⟨m1, r1, T1, rfl, rfl, I1, k1, t1⟩
  show je _ _ _ _ _ [_] _ _
  refine je_ps jb_law 4 (pc' := 282) (ls' := [_, _, _, _]) (st' := [_, _, _, _, _]) rfl ?_
  refine je_iadd jb_law rfl (pc' := 283) rfl ?_
  refine je_iald0 jb_law rfl (pc' := 284) rfl (by first | omega | exact (hM _ _).1 | exact (hM _ _).2) (by first | omega | exact (hM _ _).1 | exact (hM _ _).2) (by first | omega | exact (hM _ _).1 | exact (hM _ _).2) ?_
  refine je_ps jb_law 3 (pc' := 287) (ls' := [_, _, _, _]) (st' := [_, _, _, _, _, _]) rfl ?_
  refine je_iadd jb_law rfl (pc' := 288) rfl ?_
  refine je_iald0 jb_law rfl (pc' := 289) rfl (by first | omega | exact (hM _ _).1 | exact (hM _ _).2) (by first | omega | exact (hM _ _).1 | exact (hM _ _).2) (by first | omega | exact (hM _ _).1 | exact (hM _ _).2) ?_
  refine je_cv jb_law rfl (pc' := 292) rfl (jh_at (a := 45) rfl) (by rfl) (by first | decide | exact Nat.ble_eq_true_of_le (by omega)) (gl_of I.1 (J.g k1) (sv_i sc _) (sv_i sc _)) ?_
  rintro _ _ ⟨m2, rfl, rfl, J2, k2⟩
  show je _ _ _ _ _ [_, _] _ _
  refine je_icmpsame jb_law rfl (t := 1127) rfl ?_
  exact K _ _ _ _ (I1.k k2) J2 t1
set_option maxRecDepth 20000 in
theorem lw_lamp {A : aT} (I : iC A m r T) (J : iG A m) (hi : 0 ≤ i ∧ i + 5 ≤ (sc.1 : Int)) (hs : sc.1 ≤ 2560) (hd : 20 ≤ d) (K : lwK sc d i T Q) : je sc d 213 297 [.retAddr 0, .ref 0, .ref 45, .int (jI i)] [] (jh m r T) Q := by
  refine je_ps jb_law 4 (pc' := 301) (ls' := [_, _, _, _]) (st' := [_, _, _, _]) rfl ?_
  refine je_iadd jb_law rfl (pc' := 302) rfl ?_
  refine je_iald0 jb_law rfl (pc' := 303) rfl (by first | omega | exact (hM _ _).1 | exact (hM _ _).2) (by first | omega | exact (hM _ _).1 | exact (hM _ _).2) (by first | omega | exact (hM _ _).1 | exact (hM _ _).2) ?_
  refine je_ps jb_law 3 (pc' := 306) (ls' := [_, _, _, _]) (st' := [_, _, _, _, _]) rfl ?_
  refine je_iadd jb_law rfl (pc' := 307) rfl ?_
  refine je_iald0 jb_law rfl (pc' := 308) rfl (by first | omega | exact (hM _ _).1 | exact (hM _ _).2) (by first | omega | exact (hM _ _).1 | exact (hM _ _).2) (by first | omega | exact (hM _ _).1 | exact (hM _ _).2) ?_
  refine je_cv jb_law rfl (pc' := 311) rfl (jh_at (a := 0) rfl) (by rfl) (by first | decide | exact Nat.ble_eq_true_of_le (by omega)) (cl_lamp I (sv_i sc _) (sv_i sc _)) ?_
  rintro _ _ ⟨m1, r1, T1, rfl, rfl, I1, k1, t1⟩
  show je _ _ _ _ _ [_] _ _
  refine je_ps jb_law 4 (pc' := 315) (ls' := [_, _, _, _]) (st' := [_, _, _, _, _]) rfl ?_
  refine je_iadd jb_law rfl (pc' := 316) rfl ?_
  refine je_iald0 jb_law rfl (pc' := 317) rfl (by first | omega | exact (hM _ _).1 | exact (hM _ _).2) (by first | omega | exact (hM _ _).1 | exact (hM _ _).2) (by first | omega | exact (hM _ _).1 | exact (hM _ _).2) ?_
  refine je_ps jb_law 3 (pc' := 320) (ls' := [_, _, _, _]) (st' := [_, _, _, _, _, _]) rfl ?_
  refine je_iadd jb_law rfl (pc' := 321) rfl ?_
  refine je_iald0 jb_law rfl (pc' := 322) rfl (by first | omega | exact (hM _ _).1 | exact (hM _ _).2) (by first | omega | exact (hM _ _).1 | exact (hM _ _).2) (by first | omega | exact (hM _ _).1 | exact (hM _ _).2) ?_
  refine je_cv jb_law rfl (pc' := 325) rfl (jh_at (a := 45) rfl) (by rfl) (by first | decide | exact Nat.ble_eq_true_of_le (by omega)) (gl_lamp I.1 (J.g k1) (sv_i sc _) (sv_i sc _)) ?_
  rintro _ _ ⟨m2, rfl, rfl, J2, k2⟩
  show je _ _ _ _ _ [_, _] _ _
  refine je_icmpsame jb_law rfl (t := 1127) rfl ?_
  exact K _ _ _ _ (I1.k k2) J2 t1
set_option maxRecDepth 20000 in
theorem lw_times {A : aT} (I : iC A m r T) (J : iG A m) (hi : 0 ≤ i ∧ i + 5 ≤ (sc.1 : Int)) (hs : sc.1 ≤ 2560) (hd : 20 ≤ d) (K : lwK sc d i T Q) : je sc d 213 330 [.retAddr 0, .ref 0, .ref 45, .int (jI i)] [] (jh m r T) Q := by
  refine je_ps jb_law 4 (pc' := 334) (ls' := [_, _, _, _]) (st' := [_, _, _, _]) rfl ?_
  refine je_iadd jb_law rfl (pc' := 335) rfl ?_
  refine je_iald0 jb_law rfl (pc' := 336) rfl (by first | omega | exact (hM _ _).1 | exact (hM _ _).2) (by first | omega | exact (hM _ _).1 | exact (hM _ _).2) (by first | omega | exact (hM _ _).1 | exact (hM _ _).2) ?_
  refine je_ps jb_law 3 (pc' := 339) (ls' := [_, _, _, _]) (st' := [_, _, _, _, _]) rfl ?_
  refine je_iadd jb_law rfl (pc' := 340) rfl ?_
  refine je_iald0 jb_law rfl (pc' := 341) rfl (by first | omega | exact (hM _ _).1 | exact (hM _ _).2) (by first | omega | exact (hM _ _).1 | exact (hM _ _).2) (by first | omega | exact (hM _ _).1 | exact (hM _ _).2) ?_
  refine je_cv jb_law rfl (pc' := 344) rfl (jh_at (a := 0) rfl) (by rfl) (by first | decide | exact Nat.ble_eq_true_of_le (by omega)) (cl_times I (sv_i sc _) (sv_i sc _)) ?_
  rintro _ _ ⟨m1, r1, T1, rfl, rfl, I1, k1, t1⟩
  show je _ _ _ _ _ [_] _ _
  refine je_ps jb_law 4 (pc' := 348) (ls' := [_, _, _, _]) (st' := [_, _, _, _, _]) rfl ?_
  refine je_iadd jb_law rfl (pc' := 349) rfl ?_
  refine je_iald0 jb_law rfl (pc' := 350) rfl (by first | omega | exact (hM _ _).1 | exact (hM _ _).2) (by first | omega | exact (hM _ _).1 | exact (hM _ _).2) (by first | omega | exact (hM _ _).1 | exact (hM _ _).2) ?_
  refine je_ps jb_law 3 (pc' := 353) (ls' := [_, _, _, _]) (st' := [_, _, _, _, _, _]) rfl ?_
  refine je_iadd jb_law rfl (pc' := 354) rfl ?_
  refine je_iald0 jb_law rfl (pc' := 355) rfl (by first | omega | exact (hM _ _).1 | exact (hM _ _).2) (by first | omega | exact (hM _ _).1 | exact (hM _ _).2) (by first | omega | exact (hM _ _).1 | exact (hM _ _).2) ?_
  refine je_cv jb_law rfl (pc' := 358) rfl (jh_at (a := 45) rfl) (by rfl) (by first | decide | exact Nat.ble_eq_true_of_le (by omega)) (gl_times I.1 (J.g k1) (sv_i sc _) (sv_i sc _)) ?_
  rintro _ _ ⟨m2, rfl, rfl, J2, k2⟩
  show je _ _ _ _ _ [_, _] _ _
  refine je_icmpsame jb_law rfl (t := 1127) rfl ?_
  exact K _ _ _ _ (I1.k k2) J2 t1
set_option maxRecDepth 20000 in
theorem lw_inverse {A : aT} (I : iC A m r T) (J : iG A m) (hi : 0 ≤ i ∧ i + 5 ≤ (sc.1 : Int)) (hs : sc.1 ≤ 2560) (hd : 20 ≤ d) (K : lwK sc d i T Q) : je sc d 213 363 [.retAddr 0, .ref 0, .ref 45, .int (jI i)] [] (jh m r T) Q := by
  refine je_ps jb_law 4 (pc' := 367) (ls' := [_, _, _, _]) (st' := [_, _, _, _]) rfl ?_
  refine je_iadd jb_law rfl (pc' := 368) rfl ?_
  refine je_iald0 jb_law rfl (pc' := 369) rfl (by first | omega | exact (hM _ _).1 | exact (hM _ _).2) (by first | omega | exact (hM _ _).1 | exact (hM _ _).2) (by first | omega | exact (hM _ _).1 | exact (hM _ _).2) ?_
  refine je_cv jb_law rfl (pc' := 372) rfl (jh_at (a := 0) rfl) (by rfl) (by first | decide | exact Nat.ble_eq_true_of_le (by omega)) (cl_inverse I (sv_i sc _)) ?_
  rintro _ _ ⟨m1, r1, T1, rfl, rfl, I1, k1, t1⟩
  show je _ _ _ _ _ [_] _ _
  refine je_ps jb_law 4 (pc' := 376) (ls' := [_, _, _, _]) (st' := [_, _, _, _, _]) rfl ?_
  refine je_iadd jb_law rfl (pc' := 377) rfl ?_
  refine je_iald0 jb_law rfl (pc' := 378) rfl (by first | omega | exact (hM _ _).1 | exact (hM _ _).2) (by first | omega | exact (hM _ _).1 | exact (hM _ _).2) (by first | omega | exact (hM _ _).1 | exact (hM _ _).2) ?_
  refine je_cv jb_law rfl (pc' := 381) rfl (jh_at (a := 45) rfl) (by rfl) (by first | decide | exact Nat.ble_eq_true_of_le (by omega)) (gl_inverse I.1 (J.g k1) (sv_i sc _)) ?_
  rintro _ _ ⟨m2, rfl, rfl, J2, k2⟩
  show je _ _ _ _ _ [_, _] _ _
  refine je_icmpsame jb_law rfl (t := 1127) rfl ?_
  exact K _ _ _ _ (I1.k k2) J2 t1
set_option maxRecDepth 20000 in
theorem lw_power {A : aT} (I : iC A m r T) (J : iG A m) (hi : 0 ≤ i ∧ i + 5 ≤ (sc.1 : Int)) (hs : sc.1 ≤ 2560) (hd : 20 ≤ d) (K : lwK sc d i T Q) : je sc d 213 386 [.retAddr 0, .ref 0, .ref 45, .int (jI i)] [] (jh m r T) Q := by
  refine je_ps jb_law 4 (pc' := 390) (ls' := [_, _, _, _]) (st' := [_, _, _, _]) rfl ?_
  refine je_iadd jb_law rfl (pc' := 391) rfl ?_
  refine je_iald0 jb_law rfl (pc' := 392) rfl (by first | omega | exact (hM _ _).1 | exact (hM _ _).2) (by first | omega | exact (hM _ _).1 | exact (hM _ _).2) (by first | omega | exact (hM _ _).1 | exact (hM _ _).2) ?_
  refine je_ps jb_law 3 (pc' := 395) (ls' := [_, _, _, _]) (st' := [_, _, _, _, _]) rfl ?_
  refine je_iadd jb_law rfl (pc' := 396) rfl ?_
  refine je_iald0 jb_law rfl (pc' := 397) rfl (by first | omega | exact (hM _ _).1 | exact (hM _ _).2) (by first | omega | exact (hM _ _).1 | exact (hM _ _).2) (by first | omega | exact (hM _ _).1 | exact (hM _ _).2) ?_
  refine je_cv jb_law rfl (pc' := 400) rfl (jh_at (a := 0) rfl) (by rfl) (by first | decide | exact Nat.ble_eq_true_of_le (by omega)) (cl_power I (sv_i sc _) (sv_i sc _)) ?_
  rintro _ _ ⟨m1, r1, T1, rfl, rfl, I1, k1, t1⟩
  show je _ _ _ _ _ [_] _ _
  refine je_ps jb_law 4 (pc' := 404) (ls' := [_, _, _, _]) (st' := [_, _, _, _, _]) rfl ?_
  refine je_iadd jb_law rfl (pc' := 405) rfl ?_
  refine je_iald0 jb_law rfl (pc' := 406) rfl (by first | omega | exact (hM _ _).1 | exact (hM _ _).2) (by first | omega | exact (hM _ _).1 | exact (hM _ _).2) (by first | omega | exact (hM _ _).1 | exact (hM _ _).2) ?_
  refine je_ps jb_law 3 (pc' := 409) (ls' := [_, _, _, _]) (st' := [_, _, _, _, _, _]) rfl ?_
  refine je_iadd jb_law rfl (pc' := 410) rfl ?_
  refine je_iald0 jb_law rfl (pc' := 411) rfl (by first | omega | exact (hM _ _).1 | exact (hM _ _).2) (by first | omega | exact (hM _ _).1 | exact (hM _ _).2) (by first | omega | exact (hM _ _).1 | exact (hM _ _).2) ?_
  refine je_cv jb_law rfl (pc' := 414) rfl (jh_at (a := 45) rfl) (by rfl) (by first | decide | exact Nat.ble_eq_true_of_le (by omega)) (gl_power I.1 (J.g k1) (sv_i sc _) (sv_i sc _)) ?_
  rintro _ _ ⟨m2, rfl, rfl, J2, k2⟩
  show je _ _ _ _ _ [_, _] _ _
  refine je_icmpsame jb_law rfl (t := 1127) rfl ?_
  exact K _ _ _ _ (I1.k k2) J2 t1
set_option maxRecDepth 20000 in
theorem lw_conjugate {A : aT} (I : iC A m r T) (J : iG A m) (hi : 0 ≤ i ∧ i + 5 ≤ (sc.1 : Int)) (hs : sc.1 ≤ 2560) (hd : 20 ≤ d) (K : lwK sc d i T Q) : je sc d 213 419 [.retAddr 0, .ref 0, .ref 45, .int (jI i)] [] (jh m r T) Q := by
  refine je_ps jb_law 4 (pc' := 423) (ls' := [_, _, _, _]) (st' := [_, _, _, _]) rfl ?_
  refine je_iadd jb_law rfl (pc' := 424) rfl ?_
  refine je_iald0 jb_law rfl (pc' := 425) rfl (by first | omega | exact (hM _ _).1 | exact (hM _ _).2) (by first | omega | exact (hM _ _).1 | exact (hM _ _).2) (by first | omega | exact (hM _ _).1 | exact (hM _ _).2) ?_
  refine je_ps jb_law 3 (pc' := 428) (ls' := [_, _, _, _]) (st' := [_, _, _, _, _]) rfl ?_
  refine je_iadd jb_law rfl (pc' := 429) rfl ?_
  refine je_iald0 jb_law rfl (pc' := 430) rfl (by first | omega | exact (hM _ _).1 | exact (hM _ _).2) (by first | omega | exact (hM _ _).1 | exact (hM _ _).2) (by first | omega | exact (hM _ _).1 | exact (hM _ _).2) ?_
  refine je_cv jb_law rfl (pc' := 433) rfl (jh_at (a := 0) rfl) (by rfl) (by first | decide | exact Nat.ble_eq_true_of_le (by omega)) (cl_conjugate I (sv_i sc _) (sv_i sc _)) ?_
  rintro _ _ ⟨m1, r1, T1, rfl, rfl, I1, k1, t1⟩
  show je _ _ _ _ _ [_] _ _
  refine je_ps jb_law 4 (pc' := 437) (ls' := [_, _, _, _]) (st' := [_, _, _, _, _]) rfl ?_
  refine je_iadd jb_law rfl (pc' := 438) rfl ?_
  refine je_iald0 jb_law rfl (pc' := 439) rfl (by first | omega | exact (hM _ _).1 | exact (hM _ _).2) (by first | omega | exact (hM _ _).1 | exact (hM _ _).2) (by first | omega | exact (hM _ _).1 | exact (hM _ _).2) ?_
  refine je_ps jb_law 3 (pc' := 442) (ls' := [_, _, _, _]) (st' := [_, _, _, _, _, _]) rfl ?_
  refine je_iadd jb_law rfl (pc' := 443) rfl ?_
  refine je_iald0 jb_law rfl (pc' := 444) rfl (by first | omega | exact (hM _ _).1 | exact (hM _ _).2) (by first | omega | exact (hM _ _).1 | exact (hM _ _).2) (by first | omega | exact (hM _ _).1 | exact (hM _ _).2) ?_
  refine je_cv jb_law rfl (pc' := 447) rfl (jh_at (a := 45) rfl) (by rfl) (by first | decide | exact Nat.ble_eq_true_of_le (by omega)) (gl_conjugate I.1 (J.g k1) (sv_i sc _) (sv_i sc _)) ?_
  rintro _ _ ⟨m2, rfl, rfl, J2, k2⟩
  show je _ _ _ _ _ [_, _] _ _
  refine je_icmpsame jb_law rfl (t := 1127) rfl ?_
  exact K _ _ _ _ (I1.k k2) J2 t1
set_option maxRecDepth 20000 in
theorem lw_distance {A : aT} (I : iC A m r T) (J : iG A m) (hi : 0 ≤ i ∧ i + 5 ≤ (sc.1 : Int)) (hs : sc.1 ≤ 2560) (hd : 20 ≤ d) (K : lwK sc d i T Q) : je sc d 213 452 [.retAddr 0, .ref 0, .ref 45, .int (jI i)] [] (jh m r T) Q := by
  refine je_ps jb_law 4 (pc' := 456) (ls' := [_, _, _, _]) (st' := [_, _, _, _]) rfl ?_
  refine je_iadd jb_law rfl (pc' := 457) rfl ?_
  refine je_iald0 jb_law rfl (pc' := 458) rfl (by first | omega | exact (hM _ _).1 | exact (hM _ _).2) (by first | omega | exact (hM _ _).1 | exact (hM _ _).2) (by first | omega | exact (hM _ _).1 | exact (hM _ _).2) ?_
  refine je_ps jb_law 3 (pc' := 461) (ls' := [_, _, _, _]) (st' := [_, _, _, _, _]) rfl ?_
  refine je_iadd jb_law rfl (pc' := 462) rfl ?_
  refine je_iald0 jb_law rfl (pc' := 463) rfl (by first | omega | exact (hM _ _).1 | exact (hM _ _).2) (by first | omega | exact (hM _ _).1 | exact (hM _ _).2) (by first | omega | exact (hM _ _).1 | exact (hM _ _).2) ?_
  refine je_cv jb_law rfl (pc' := 466) rfl (jh_at (a := 0) rfl) (by rfl) (by first | decide | exact Nat.ble_eq_true_of_le (by omega)) (cl_distance I (sv_i sc _) (sv_i sc _)) ?_
  rintro _ _ ⟨m1, r1, T1, rfl, rfl, I1, k1, t1⟩
  show je _ _ _ _ _ [_] _ _
  refine je_ps jb_law 4 (pc' := 470) (ls' := [_, _, _, _]) (st' := [_, _, _, _, _]) rfl ?_
  refine je_iadd jb_law rfl (pc' := 471) rfl ?_
  refine je_iald0 jb_law rfl (pc' := 472) rfl (by first | omega | exact (hM _ _).1 | exact (hM _ _).2) (by first | omega | exact (hM _ _).1 | exact (hM _ _).2) (by first | omega | exact (hM _ _).1 | exact (hM _ _).2) ?_
  refine je_ps jb_law 3 (pc' := 475) (ls' := [_, _, _, _]) (st' := [_, _, _, _, _, _]) rfl ?_
  refine je_iadd jb_law rfl (pc' := 476) rfl ?_
  refine je_iald0 jb_law rfl (pc' := 477) rfl (by first | omega | exact (hM _ _).1 | exact (hM _ _).2) (by first | omega | exact (hM _ _).1 | exact (hM _ _).2) (by first | omega | exact (hM _ _).1 | exact (hM _ _).2) ?_
  refine je_cv jb_law rfl (pc' := 480) rfl (jh_at (a := 45) rfl) (by rfl) (by first | decide | exact Nat.ble_eq_true_of_le (by omega)) (gl_distance I.1 (J.g k1) (sv_i sc _) (sv_i sc _)) ?_
  rintro _ _ ⟨m2, rfl, rfl, J2, k2⟩
  show je _ _ _ _ _ [_, _] _ _
  refine je_icmpsame jb_law rfl (t := 1127) rfl ?_
  exact K _ _ _ _ (I1.k k2) J2 t1
set_option maxRecDepth 20000 in
theorem lw_like {A : aT} (I : iC A m r T) (J : iG A m) (hi : 0 ≤ i ∧ i + 5 ≤ (sc.1 : Int)) (hs : sc.1 ≤ 2560) (hd : 20 ≤ d) (K : lwK sc d i T Q) : je sc d 213 485 [.retAddr 0, .ref 0, .ref 45, .int (jI i)] [] (jh m r T) Q := by
  refine je_ps jb_law 4 (pc' := 489) (ls' := [_, _, _, _]) (st' := [_, _, _, _]) rfl ?_
  refine je_iadd jb_law rfl (pc' := 490) rfl ?_
  refine je_iald0 jb_law rfl (pc' := 491) rfl (by first | omega | exact (hM _ _).1 | exact (hM _ _).2) (by first | omega | exact (hM _ _).1 | exact (hM _ _).2) (by first | omega | exact (hM _ _).1 | exact (hM _ _).2) ?_
  refine je_ps jb_law 3 (pc' := 494) (ls' := [_, _, _, _]) (st' := [_, _, _, _, _]) rfl ?_
  refine je_iadd jb_law rfl (pc' := 495) rfl ?_
  refine je_iald0 jb_law rfl (pc' := 496) rfl (by first | omega | exact (hM _ _).1 | exact (hM _ _).2) (by first | omega | exact (hM _ _).1 | exact (hM _ _).2) (by first | omega | exact (hM _ _).1 | exact (hM _ _).2) ?_
  refine je_cv jb_law rfl (pc' := 499) rfl (jh_at (a := 0) rfl) (by rfl) (by first | decide | exact Nat.ble_eq_true_of_le (by omega)) (cl_like I (sv_i sc _) (sv_i sc _)) ?_
  rintro _ _ ⟨m1, r1, T1, rfl, rfl, I1, k1, t1⟩
  show je _ _ _ _ _ [_] _ _
  refine je_ps jb_law 4 (pc' := 503) (ls' := [_, _, _, _]) (st' := [_, _, _, _, _]) rfl ?_
  refine je_iadd jb_law rfl (pc' := 504) rfl ?_
  refine je_iald0 jb_law rfl (pc' := 505) rfl (by first | omega | exact (hM _ _).1 | exact (hM _ _).2) (by first | omega | exact (hM _ _).1 | exact (hM _ _).2) (by first | omega | exact (hM _ _).1 | exact (hM _ _).2) ?_
  refine je_ps jb_law 3 (pc' := 508) (ls' := [_, _, _, _]) (st' := [_, _, _, _, _, _]) rfl ?_
  refine je_iadd jb_law rfl (pc' := 509) rfl ?_
  refine je_iald0 jb_law rfl (pc' := 510) rfl (by first | omega | exact (hM _ _).1 | exact (hM _ _).2) (by first | omega | exact (hM _ _).1 | exact (hM _ _).2) (by first | omega | exact (hM _ _).1 | exact (hM _ _).2) ?_
  refine je_cv jb_law rfl (pc' := 513) rfl (jh_at (a := 45) rfl) (by rfl) (by first | decide | exact Nat.ble_eq_true_of_le (by omega)) (gl_like I.1 (J.g k1) (sv_i sc _) (sv_i sc _)) ?_
  rintro _ _ ⟨m2, rfl, rfl, J2, k2⟩
  show je _ _ _ _ _ [_, _] _ _
  refine je_icmpsame jb_law rfl (t := 1127) rfl ?_
  exact K _ _ _ _ (I1.k k2) J2 t1
set_option maxRecDepth 20000 in
theorem lw_sums {A : aT} (I : iC A m r T) (J : iG A m) (hi : 0 ≤ i ∧ i + 5 ≤ (sc.1 : Int)) (hs : sc.1 ≤ 2560) (hd : 20 ≤ d) (K : lwK sc d i T Q) : je sc d 213 518 [.retAddr 0, .ref 0, .ref 45, .int (jI i)] [] (jh m r T) Q := by
  refine je_ps jb_law 4 (pc' := 522) (ls' := [_, _, _, _]) (st' := [_, _, _, _]) rfl ?_
  refine je_iadd jb_law rfl (pc' := 523) rfl ?_
  refine je_iald0 jb_law rfl (pc' := 524) rfl (by first | omega | exact (hM _ _).1 | exact (hM _ _).2) (by first | omega | exact (hM _ _).1 | exact (hM _ _).2) (by first | omega | exact (hM _ _).1 | exact (hM _ _).2) ?_
  refine je_ps jb_law 3 (pc' := 527) (ls' := [_, _, _, _]) (st' := [_, _, _, _, _]) rfl ?_
  refine je_iadd jb_law rfl (pc' := 528) rfl ?_
  refine je_iald0 jb_law rfl (pc' := 529) rfl (by first | omega | exact (hM _ _).1 | exact (hM _ _).2) (by first | omega | exact (hM _ _).1 | exact (hM _ _).2) (by first | omega | exact (hM _ _).1 | exact (hM _ _).2) ?_
  refine je_cv jb_law rfl (pc' := 532) rfl (jh_at (a := 0) rfl) (by rfl) (by first | decide | exact Nat.ble_eq_true_of_le (by omega)) (cl_sums I (sv_i sc _) (sv_i sc _)) ?_
  rintro _ _ ⟨m1, r1, T1, rfl, rfl, I1, k1, t1⟩
  show je _ _ _ _ _ [_] _ _
  refine je_ps jb_law 4 (pc' := 536) (ls' := [_, _, _, _]) (st' := [_, _, _, _, _]) rfl ?_
  refine je_iadd jb_law rfl (pc' := 537) rfl ?_
  refine je_iald0 jb_law rfl (pc' := 538) rfl (by first | omega | exact (hM _ _).1 | exact (hM _ _).2) (by first | omega | exact (hM _ _).1 | exact (hM _ _).2) (by first | omega | exact (hM _ _).1 | exact (hM _ _).2) ?_
  refine je_ps jb_law 3 (pc' := 541) (ls' := [_, _, _, _]) (st' := [_, _, _, _, _, _]) rfl ?_
  refine je_iadd jb_law rfl (pc' := 542) rfl ?_
  refine je_iald0 jb_law rfl (pc' := 543) rfl (by first | omega | exact (hM _ _).1 | exact (hM _ _).2) (by first | omega | exact (hM _ _).1 | exact (hM _ _).2) (by first | omega | exact (hM _ _).1 | exact (hM _ _).2) ?_
  refine je_cv jb_law rfl (pc' := 546) rfl (jh_at (a := 45) rfl) (by rfl) (by first | decide | exact Nat.ble_eq_true_of_le (by omega)) (gl_sums I.1 (J.g k1) (sv_i sc _) (sv_i sc _)) ?_
  rintro _ _ ⟨m2, rfl, rfl, J2, k2⟩
  show je _ _ _ _ _ [_, _] _ _
  refine je_icmpsame jb_law rfl (t := 1127) rfl ?_
  exact K _ _ _ _ (I1.k k2) J2 t1
set_option maxRecDepth 20000 in
theorem lw_sphere {A : aT} (I : iC A m r T) (J : iG A m) (hi : 0 ≤ i ∧ i + 5 ≤ (sc.1 : Int)) (hs : sc.1 ≤ 2560) (hd : 20 ≤ d) (K : lwK sc d i T Q) : je sc d 213 551 [.retAddr 0, .ref 0, .ref 45, .int (jI i)] [] (jh m r T) Q := by
  refine je_ps jb_law 4 (pc' := 555) (ls' := [_, _, _, _]) (st' := [_, _, _, _]) rfl ?_
  refine je_iadd jb_law rfl (pc' := 556) rfl ?_
  refine je_iald0 jb_law rfl (pc' := 557) rfl (by first | omega | exact (hM _ _).1 | exact (hM _ _).2) (by first | omega | exact (hM _ _).1 | exact (hM _ _).2) (by first | omega | exact (hM _ _).1 | exact (hM _ _).2) ?_
  refine je_cv jb_law rfl (pc' := 560) rfl (jh_at (a := 0) rfl) (by rfl) (by first | decide | exact Nat.ble_eq_true_of_le (by omega)) (cl_sphere I (sv_i sc _)) ?_
  rintro _ _ ⟨m1, r1, T1, rfl, rfl, I1, k1, t1⟩
  show je _ _ _ _ _ [_] _ _
  refine je_ps jb_law 4 (pc' := 564) (ls' := [_, _, _, _]) (st' := [_, _, _, _, _]) rfl ?_
  refine je_iadd jb_law rfl (pc' := 565) rfl ?_
  refine je_iald0 jb_law rfl (pc' := 566) rfl (by first | omega | exact (hM _ _).1 | exact (hM _ _).2) (by first | omega | exact (hM _ _).1 | exact (hM _ _).2) (by first | omega | exact (hM _ _).1 | exact (hM _ _).2) ?_
  refine je_cv jb_law rfl (pc' := 569) rfl (jh_at (a := 45) rfl) (by rfl) (by first | decide | exact Nat.ble_eq_true_of_le (by omega)) (gl_sphere I.1 (J.g k1) (sv_i sc _)) ?_
  rintro _ _ ⟨m2, rfl, rfl, J2, k2⟩
  show je _ _ _ _ _ [_, _] _ _
  refine je_icmpsame jb_law rfl (t := 1127) rfl ?_
  exact K _ _ _ _ (I1.k k2) J2 t1
set_option maxRecDepth 20000 in
theorem lw_written {A : aT} (I : iC A m r T) (J : iG A m) (hi : 0 ≤ i ∧ i + 5 ≤ (sc.1 : Int)) (hs : sc.1 ≤ 2560) (hd : 20 ≤ d) (K : lwK sc d i T Q) : je sc d 213 574 [.retAddr 0, .ref 0, .ref 45, .int (jI i)] [] (jh m r T) Q := by
  refine je_ps jb_law 4 (pc' := 578) (ls' := [_, _, _, _]) (st' := [_, _, _, _]) rfl ?_
  refine je_iadd jb_law rfl (pc' := 579) rfl ?_
  refine je_iald0 jb_law rfl (pc' := 580) rfl (by first | omega | exact (hM _ _).1 | exact (hM _ _).2) (by first | omega | exact (hM _ _).1 | exact (hM _ _).2) (by first | omega | exact (hM _ _).1 | exact (hM _ _).2) ?_
  refine je_ps jb_law 3 (pc' := 583) (ls' := [_, _, _, _]) (st' := [_, _, _, _, _]) rfl ?_
  refine je_iadd jb_law rfl (pc' := 584) rfl ?_
  refine je_iald0 jb_law rfl (pc' := 585) rfl (by first | omega | exact (hM _ _).1 | exact (hM _ _).2) (by first | omega | exact (hM _ _).1 | exact (hM _ _).2) (by first | omega | exact (hM _ _).1 | exact (hM _ _).2) ?_
  refine je_cv jb_law rfl (pc' := 588) rfl (jh_at (a := 0) rfl) (by rfl) (by first | decide | exact Nat.ble_eq_true_of_le (by omega)) (cl_written I (sv_i sc _) (sv_i sc _)) ?_
  rintro _ _ ⟨m1, r1, T1, rfl, rfl, I1, k1, t1⟩
  show je _ _ _ _ _ [_] _ _
  refine je_ps jb_law 4 (pc' := 592) (ls' := [_, _, _, _]) (st' := [_, _, _, _, _]) rfl ?_
  refine je_iadd jb_law rfl (pc' := 593) rfl ?_
  refine je_iald0 jb_law rfl (pc' := 594) rfl (by first | omega | exact (hM _ _).1 | exact (hM _ _).2) (by first | omega | exact (hM _ _).1 | exact (hM _ _).2) (by first | omega | exact (hM _ _).1 | exact (hM _ _).2) ?_
  refine je_ps jb_law 3 (pc' := 597) (ls' := [_, _, _, _]) (st' := [_, _, _, _, _, _]) rfl ?_
  refine je_iadd jb_law rfl (pc' := 598) rfl ?_
  refine je_iald0 jb_law rfl (pc' := 599) rfl (by first | omega | exact (hM _ _).1 | exact (hM _ _).2) (by first | omega | exact (hM _ _).1 | exact (hM _ _).2) (by first | omega | exact (hM _ _).1 | exact (hM _ _).2) ?_
  refine je_cv jb_law rfl (pc' := 602) rfl (jh_at (a := 45) rfl) (by rfl) (by first | decide | exact Nat.ble_eq_true_of_le (by omega)) (gl_written I.1 (J.g k1) (sv_i sc _) (sv_i sc _)) ?_
  rintro _ _ ⟨m2, rfl, rfl, J2, k2⟩
  show je _ _ _ _ _ [_, _] _ _
  refine je_icmpsame jb_law rfl (t := 1127) rfl ?_
  exact K _ _ _ _ (I1.k k2) J2 t1
set_option maxRecDepth 20000 in
theorem lw_odds {A : aT} (I : iC A m r T) (J : iG A m) (hi : 0 ≤ i ∧ i + 5 ≤ (sc.1 : Int)) (hs : sc.1 ≤ 2560) (hd : 20 ≤ d) (K : lwK sc d i T Q) : je sc d 213 607 [.retAddr 0, .ref 0, .ref 45, .int (jI i)] [] (jh m r T) Q := by
  refine je_ps jb_law 4 (pc' := 611) (ls' := [_, _, _, _]) (st' := [_, _, _, _]) rfl ?_
  refine je_iadd jb_law rfl (pc' := 612) rfl ?_
  refine je_iald0 jb_law rfl (pc' := 613) rfl (by first | omega | exact (hM _ _).1 | exact (hM _ _).2) (by first | omega | exact (hM _ _).1 | exact (hM _ _).2) (by first | omega | exact (hM _ _).1 | exact (hM _ _).2) ?_
  refine je_ps jb_law 3 (pc' := 616) (ls' := [_, _, _, _]) (st' := [_, _, _, _, _]) rfl ?_
  refine je_iadd jb_law rfl (pc' := 617) rfl ?_
  refine je_iald0 jb_law rfl (pc' := 618) rfl (by first | omega | exact (hM _ _).1 | exact (hM _ _).2) (by first | omega | exact (hM _ _).1 | exact (hM _ _).2) (by first | omega | exact (hM _ _).1 | exact (hM _ _).2) ?_
  refine je_cv jb_law rfl (pc' := 621) rfl (jh_at (a := 0) rfl) (by rfl) (by first | decide | exact Nat.ble_eq_true_of_le (by omega)) (cl_odds I (sv_i sc _) (sv_i sc _)) ?_
  rintro _ _ ⟨m1, r1, T1, rfl, rfl, I1, k1, t1⟩
  show je _ _ _ _ _ [_] _ _
  refine je_ps jb_law 4 (pc' := 625) (ls' := [_, _, _, _]) (st' := [_, _, _, _, _]) rfl ?_
  refine je_iadd jb_law rfl (pc' := 626) rfl ?_
  refine je_iald0 jb_law rfl (pc' := 627) rfl (by first | omega | exact (hM _ _).1 | exact (hM _ _).2) (by first | omega | exact (hM _ _).1 | exact (hM _ _).2) (by first | omega | exact (hM _ _).1 | exact (hM _ _).2) ?_
  refine je_ps jb_law 3 (pc' := 630) (ls' := [_, _, _, _]) (st' := [_, _, _, _, _, _]) rfl ?_
  refine je_iadd jb_law rfl (pc' := 631) rfl ?_
  refine je_iald0 jb_law rfl (pc' := 632) rfl (by first | omega | exact (hM _ _).1 | exact (hM _ _).2) (by first | omega | exact (hM _ _).1 | exact (hM _ _).2) (by first | omega | exact (hM _ _).1 | exact (hM _ _).2) ?_
  refine je_cv jb_law rfl (pc' := 635) rfl (jh_at (a := 45) rfl) (by rfl) (by first | decide | exact Nat.ble_eq_true_of_le (by omega)) (gl_odds I.1 (J.g k1) (sv_i sc _) (sv_i sc _)) ?_
  rintro _ _ ⟨m2, rfl, rfl, J2, k2⟩
  show je _ _ _ _ _ [_, _] _ _
  refine je_lcmpsame jb_law rfl (pc' := 636) rfl ?_
  refine je_ifeq jb_law rfl (t := 1127) rfl (pc' := 639) rfl (by first | omega | exact (hM _ _).1 | exact (hM _ _).2) (by first | omega | exact (hM _ _).1 | exact (hM _ _).2) (fun c636 => ?_) (fun c636 => ?_)
  · exact K _ _ _ _ (I1.k k2) J2 t1
  · first | (exfalso; omega) | (cases c636; done) | (exfalso; simp_all; done)
set_option maxRecDepth 20000 in
theorem lw_lots {A : aT} (I : iC A m r T) (J : iG A m) (hi : 0 ≤ i ∧ i + 5 ≤ (sc.1 : Int)) (hs : sc.1 ≤ 2560) (hd : 20 ≤ d) (K : lwK sc d i T Q) : je sc d 213 641 [.retAddr 0, .ref 0, .ref 45, .int (jI i)] [] (jh m r T) Q := by
  refine je_ps jb_law 4 (pc' := 645) (ls' := [_, _, _, _]) (st' := [_, _, _, _]) rfl ?_
  refine je_iadd jb_law rfl (pc' := 646) rfl ?_
  refine je_iald0 jb_law rfl (pc' := 647) rfl (by first | omega | exact (hM _ _).1 | exact (hM _ _).2) (by first | omega | exact (hM _ _).1 | exact (hM _ _).2) (by first | omega | exact (hM _ _).1 | exact (hM _ _).2) ?_
  refine je_ps jb_law 3 (pc' := 650) (ls' := [_, _, _, _]) (st' := [_, _, _, _, _]) rfl ?_
  refine je_iadd jb_law rfl (pc' := 651) rfl ?_
  refine je_iald0 jb_law rfl (pc' := 652) rfl (by first | omega | exact (hM _ _).1 | exact (hM _ _).2) (by first | omega | exact (hM _ _).1 | exact (hM _ _).2) (by first | omega | exact (hM _ _).1 | exact (hM _ _).2) ?_
  refine je_ps jb_law 3 (pc' := 655) (ls' := [_, _, _, _]) (st' := [_, _, _, _, _, _]) rfl ?_
  refine je_iadd jb_law rfl (pc' := 656) rfl ?_
  refine je_iald0 jb_law rfl (pc' := 657) rfl (by first | omega | exact (hM _ _).1 | exact (hM _ _).2) (by first | omega | exact (hM _ _).1 | exact (hM _ _).2) (by first | omega | exact (hM _ _).1 | exact (hM _ _).2) ?_
  refine je_ps jb_law 3 (pc' := 660) (ls' := [_, _, _, _]) (st' := [_, _, _, _, _, _, _]) rfl ?_
  refine je_iadd jb_law rfl (pc' := 661) rfl ?_
  refine je_iald0 jb_law rfl (pc' := 662) rfl (by first | omega | exact (hM _ _).1 | exact (hM _ _).2) (by first | omega | exact (hM _ _).1 | exact (hM _ _).2) (by first | omega | exact (hM _ _).1 | exact (hM _ _).2) ?_
  refine je_cv jb_law rfl (pc' := 665) rfl (jh_at (a := 0) rfl) (by rfl) (by first | decide | exact Nat.ble_eq_true_of_le (by omega)) (cl_lots I (sv_i sc _) (sv_i sc _) (sv_i sc _) (sv_i sc _)) ?_
  rintro _ _ ⟨m1, r1, T1, rfl, rfl, I1, k1, t1⟩
  show je _ _ _ _ _ [_] _ _
  refine je_ps jb_law 4 (pc' := 669) (ls' := [_, _, _, _]) (st' := [_, _, _, _, _]) rfl ?_
  refine je_iadd jb_law rfl (pc' := 670) rfl ?_
  refine je_iald0 jb_law rfl (pc' := 671) rfl (by first | omega | exact (hM _ _).1 | exact (hM _ _).2) (by first | omega | exact (hM _ _).1 | exact (hM _ _).2) (by first | omega | exact (hM _ _).1 | exact (hM _ _).2) ?_
  refine je_ps jb_law 3 (pc' := 674) (ls' := [_, _, _, _]) (st' := [_, _, _, _, _, _]) rfl ?_
  refine je_iadd jb_law rfl (pc' := 675) rfl ?_
  refine je_iald0 jb_law rfl (pc' := 676) rfl (by first | omega | exact (hM _ _).1 | exact (hM _ _).2) (by first | omega | exact (hM _ _).1 | exact (hM _ _).2) (by first | omega | exact (hM _ _).1 | exact (hM _ _).2) ?_
  refine je_ps jb_law 3 (pc' := 679) (ls' := [_, _, _, _]) (st' := [_, _, _, _, _, _, _]) rfl ?_
  refine je_iadd jb_law rfl (pc' := 680) rfl ?_
  refine je_iald0 jb_law rfl (pc' := 681) rfl (by first | omega | exact (hM _ _).1 | exact (hM _ _).2) (by first | omega | exact (hM _ _).1 | exact (hM _ _).2) (by first | omega | exact (hM _ _).1 | exact (hM _ _).2) ?_
  refine je_ps jb_law 3 (pc' := 684) (ls' := [_, _, _, _]) (st' := [_, _, _, _, _, _, _, _]) rfl ?_
  refine je_iadd jb_law rfl (pc' := 685) rfl ?_
  refine je_iald0 jb_law rfl (pc' := 686) rfl (by first | omega | exact (hM _ _).1 | exact (hM _ _).2) (by first | omega | exact (hM _ _).1 | exact (hM _ _).2) (by first | omega | exact (hM _ _).1 | exact (hM _ _).2) ?_
  refine je_cv jb_law rfl (pc' := 689) rfl (jh_at (a := 45) rfl) (by rfl) (by first | decide | exact Nat.ble_eq_true_of_le (by omega)) (gl_lots I.1 (J.g k1) (sv_i sc _) (sv_i sc _) (sv_i sc _) (sv_i sc _)) ?_
  rintro _ _ ⟨m2, rfl, rfl, J2, k2⟩
  show je _ _ _ _ _ [_, _] _ _
  refine je_icmpsame jb_law rfl (t := 1127) rfl ?_
  exact K _ _ _ _ (I1.k k2) J2 t1
set_option maxRecDepth 20000 in
theorem lw_helper {A : aT} (I : iC A m r T) (J : iG A m) (hi : 0 ≤ i ∧ i + 5 ≤ (sc.1 : Int)) (hs : sc.1 ≤ 2560) (hd : 20 ≤ d) (K : lwK sc d i T Q) : je sc d 213 694 [.retAddr 0, .ref 0, .ref 45, .int (jI i)] [] (jh m r T) Q := by
  refine je_ps jb_law 4 (pc' := 698) (ls' := [_, _, _, _]) (st' := [_, _, _, _]) rfl ?_
  refine je_iadd jb_law rfl (pc' := 699) rfl ?_
  refine je_iald0 jb_law rfl (pc' := 700) rfl (by first | omega | exact (hM _ _).1 | exact (hM _ _).2) (by first | omega | exact (hM _ _).1 | exact (hM _ _).2) (by first | omega | exact (hM _ _).1 | exact (hM _ _).2) ?_
  refine je_ps jb_law 3 (pc' := 703) (ls' := [_, _, _, _]) (st' := [_, _, _, _, _]) rfl ?_
  refine je_iadd jb_law rfl (pc' := 704) rfl ?_
  refine je_iald0 jb_law rfl (pc' := 705) rfl (by first | omega | exact (hM _ _).1 | exact (hM _ _).2) (by first | omega | exact (hM _ _).1 | exact (hM _ _).2) (by first | omega | exact (hM _ _).1 | exact (hM _ _).2) ?_
  refine je_cv jb_law rfl (pc' := 708) rfl (jh_at (a := 0) rfl) (by rfl) (by first | decide | exact Nat.ble_eq_true_of_le (by omega)) (cl_helper I (sv_i sc _) (sv_i sc _)) ?_
  rintro _ _ ⟨m1, r1, T1, rfl, rfl, I1, k1, t1⟩
  show je _ _ _ _ _ [_] _ _
  refine je_ps jb_law 4 (pc' := 712) (ls' := [_, _, _, _]) (st' := [_, _, _, _, _]) rfl ?_
  refine je_iadd jb_law rfl (pc' := 713) rfl ?_
  refine je_iald0 jb_law rfl (pc' := 714) rfl (by first | omega | exact (hM _ _).1 | exact (hM _ _).2) (by first | omega | exact (hM _ _).1 | exact (hM _ _).2) (by first | omega | exact (hM _ _).1 | exact (hM _ _).2) ?_
  refine je_ps jb_law 3 (pc' := 717) (ls' := [_, _, _, _]) (st' := [_, _, _, _, _, _]) rfl ?_
  refine je_iadd jb_law rfl (pc' := 718) rfl ?_
  refine je_iald0 jb_law rfl (pc' := 719) rfl (by first | omega | exact (hM _ _).1 | exact (hM _ _).2) (by first | omega | exact (hM _ _).1 | exact (hM _ _).2) (by first | omega | exact (hM _ _).1 | exact (hM _ _).2) ?_
  refine je_cv jb_law rfl (pc' := 722) rfl (jh_at (a := 45) rfl) (by rfl) (by first | decide | exact Nat.ble_eq_true_of_le (by omega)) (gl_helper I.1 (J.g k1) (sv_i sc _) (sv_i sc _)) ?_
  rintro _ _ ⟨m2, rfl, rfl, J2, k2⟩
  show je _ _ _ _ _ [_, _] _ _
  refine je_icmpsame jb_law rfl (t := 1127) rfl ?_
  exact K _ _ _ _ (I1.k k2) J2 t1
set_option maxRecDepth 20000 in
theorem lw_helps {A : aT} (I : iC A m r T) (J : iG A m) (hi : 0 ≤ i ∧ i + 5 ≤ (sc.1 : Int)) (hs : sc.1 ≤ 2560) (hd : 20 ≤ d) (K : lwK sc d i T Q) : je sc d 213 727 [.retAddr 0, .ref 0, .ref 45, .int (jI i)] [] (jh m r T) Q := by
  refine je_ps jb_law 4 (pc' := 731) (ls' := [_, _, _, _]) (st' := [_, _, _, _]) rfl ?_
  refine je_iadd jb_law rfl (pc' := 732) rfl ?_
  refine je_iald0 jb_law rfl (pc' := 733) rfl (by first | omega | exact (hM _ _).1 | exact (hM _ _).2) (by first | omega | exact (hM _ _).1 | exact (hM _ _).2) (by first | omega | exact (hM _ _).1 | exact (hM _ _).2) ?_
  refine je_ps jb_law 3 (pc' := 736) (ls' := [_, _, _, _]) (st' := [_, _, _, _, _]) rfl ?_
  refine je_iadd jb_law rfl (pc' := 737) rfl ?_
  refine je_iald0 jb_law rfl (pc' := 738) rfl (by first | omega | exact (hM _ _).1 | exact (hM _ _).2) (by first | omega | exact (hM _ _).1 | exact (hM _ _).2) (by first | omega | exact (hM _ _).1 | exact (hM _ _).2) ?_
  refine je_cv jb_law rfl (pc' := 741) rfl (jh_at (a := 0) rfl) (by rfl) (by first | decide | exact Nat.ble_eq_true_of_le (by omega)) (cl_helps I (sv_i sc _) (sv_i sc _)) ?_
  rintro _ _ ⟨m1, r1, T1, rfl, rfl, I1, k1, t1⟩
  show je _ _ _ _ _ [_] _ _
  refine je_ps jb_law 4 (pc' := 745) (ls' := [_, _, _, _]) (st' := [_, _, _, _, _]) rfl ?_
  refine je_iadd jb_law rfl (pc' := 746) rfl ?_
  refine je_iald0 jb_law rfl (pc' := 747) rfl (by first | omega | exact (hM _ _).1 | exact (hM _ _).2) (by first | omega | exact (hM _ _).1 | exact (hM _ _).2) (by first | omega | exact (hM _ _).1 | exact (hM _ _).2) ?_
  refine je_ps jb_law 3 (pc' := 750) (ls' := [_, _, _, _]) (st' := [_, _, _, _, _, _]) rfl ?_
  refine je_iadd jb_law rfl (pc' := 751) rfl ?_
  refine je_iald0 jb_law rfl (pc' := 752) rfl (by first | omega | exact (hM _ _).1 | exact (hM _ _).2) (by first | omega | exact (hM _ _).1 | exact (hM _ _).2) (by first | omega | exact (hM _ _).1 | exact (hM _ _).2) ?_
  refine je_cv jb_law rfl (pc' := 755) rfl (jh_at (a := 45) rfl) (by rfl) (by first | decide | exact Nat.ble_eq_true_of_le (by omega)) (gl_helps I.1 (J.g k1) (sv_i sc _) (sv_i sc _)) ?_
  rintro _ _ ⟨m2, rfl, rfl, J2, k2⟩
  show je _ _ _ _ _ [_, _] _ _
  refine je_icmpsame jb_law rfl (t := 1127) rfl ?_
  exact K _ _ _ _ (I1.k k2) J2 t1
set_option maxRecDepth 20000 in
theorem lw_taken {A : aT} (I : iC A m r T) (J : iG A m) (hi : 0 ≤ i ∧ i + 5 ≤ (sc.1 : Int)) (hs : sc.1 ≤ 2560) (hd : 20 ≤ d) (K : lwK sc d i T Q) : je sc d 213 760 [.retAddr 0, .ref 0, .ref 45, .int (jI i)] [] (jh m r T) Q := by
  refine je_ps jb_law 4 (pc' := 764) (ls' := [_, _, _, _]) (st' := [_, _, _, _]) rfl ?_
  refine je_iadd jb_law rfl (pc' := 765) rfl ?_
  refine je_iald0 jb_law rfl (pc' := 766) rfl (by first | omega | exact (hM _ _).1 | exact (hM _ _).2) (by first | omega | exact (hM _ _).1 | exact (hM _ _).2) (by first | omega | exact (hM _ _).1 | exact (hM _ _).2) ?_
  refine je_ps jb_law 3 (pc' := 769) (ls' := [_, _, _, _]) (st' := [_, _, _, _, _]) rfl ?_
  refine je_iadd jb_law rfl (pc' := 770) rfl ?_
  refine je_iald0 jb_law rfl (pc' := 771) rfl (by first | omega | exact (hM _ _).1 | exact (hM _ _).2) (by first | omega | exact (hM _ _).1 | exact (hM _ _).2) (by first | omega | exact (hM _ _).1 | exact (hM _ _).2) ?_
  refine je_cv jb_law rfl (pc' := 774) rfl (jh_at (a := 0) rfl) (by rfl) (by first | decide | exact Nat.ble_eq_true_of_le (by omega)) (cl_taken I (sv_i sc _) (sv_i sc _)) ?_
  rintro _ _ ⟨m1, r1, T1, rfl, rfl, I1, k1, t1⟩
  show je _ _ _ _ _ [_] _ _
  refine je_ps jb_law 4 (pc' := 778) (ls' := [_, _, _, _]) (st' := [_, _, _, _, _]) rfl ?_
  refine je_iadd jb_law rfl (pc' := 779) rfl ?_
  refine je_iald0 jb_law rfl (pc' := 780) rfl (by first | omega | exact (hM _ _).1 | exact (hM _ _).2) (by first | omega | exact (hM _ _).1 | exact (hM _ _).2) (by first | omega | exact (hM _ _).1 | exact (hM _ _).2) ?_
  refine je_ps jb_law 3 (pc' := 783) (ls' := [_, _, _, _]) (st' := [_, _, _, _, _, _]) rfl ?_
  refine je_iadd jb_law rfl (pc' := 784) rfl ?_
  refine je_iald0 jb_law rfl (pc' := 785) rfl (by first | omega | exact (hM _ _).1 | exact (hM _ _).2) (by first | omega | exact (hM _ _).1 | exact (hM _ _).2) (by first | omega | exact (hM _ _).1 | exact (hM _ _).2) ?_
  refine je_cv jb_law rfl (pc' := 788) rfl (jh_at (a := 45) rfl) (by rfl) (by first | decide | exact Nat.ble_eq_true_of_le (by omega)) (gl_taken I.1 (J.g k1) (sv_i sc _) (sv_i sc _)) ?_
  rintro _ _ ⟨m2, rfl, rfl, J2, k2⟩
  show je _ _ _ _ _ [_, _] _ _
  refine je_icmpsame jb_law rfl (t := 1127) rfl ?_
  exact K _ _ _ _ (I1.k k2) J2 t1
set_option maxRecDepth 20000 in
theorem lw_done {A : aT} (I : iC A m r T) (J : iG A m) (hi : 0 ≤ i ∧ i + 5 ≤ (sc.1 : Int)) (hs : sc.1 ≤ 2560) (hd : 20 ≤ d) (K : lwK sc d i T Q) : je sc d 213 793 [.retAddr 0, .ref 0, .ref 45, .int (jI i)] [] (jh m r T) Q := by
  refine je_ps jb_law 4 (pc' := 797) (ls' := [_, _, _, _]) (st' := [_, _, _, _]) rfl ?_
  refine je_iadd jb_law rfl (pc' := 798) rfl ?_
  refine je_iald0 jb_law rfl (pc' := 799) rfl (by first | omega | exact (hM _ _).1 | exact (hM _ _).2) (by first | omega | exact (hM _ _).1 | exact (hM _ _).2) (by first | omega | exact (hM _ _).1 | exact (hM _ _).2) ?_
  refine je_ps jb_law 3 (pc' := 802) (ls' := [_, _, _, _]) (st' := [_, _, _, _, _]) rfl ?_
  refine je_iadd jb_law rfl (pc' := 803) rfl ?_
  refine je_iald0 jb_law rfl (pc' := 804) rfl (by first | omega | exact (hM _ _).1 | exact (hM _ _).2) (by first | omega | exact (hM _ _).1 | exact (hM _ _).2) (by first | omega | exact (hM _ _).1 | exact (hM _ _).2) ?_
  refine je_cv jb_law rfl (pc' := 807) rfl (jh_at (a := 0) rfl) (by rfl) (by first | decide | exact Nat.ble_eq_true_of_le (by omega)) (cl_done I (sv_i sc _) (sv_i sc _)) ?_
  rintro _ _ ⟨m1, r1, T1, rfl, rfl, I1, k1, t1⟩
  show je _ _ _ _ _ [_] _ _
  refine je_ps jb_law 4 (pc' := 811) (ls' := [_, _, _, _]) (st' := [_, _, _, _, _]) rfl ?_
  refine je_iadd jb_law rfl (pc' := 812) rfl ?_
  refine je_iald0 jb_law rfl (pc' := 813) rfl (by first | omega | exact (hM _ _).1 | exact (hM _ _).2) (by first | omega | exact (hM _ _).1 | exact (hM _ _).2) (by first | omega | exact (hM _ _).1 | exact (hM _ _).2) ?_
  refine je_ps jb_law 3 (pc' := 816) (ls' := [_, _, _, _]) (st' := [_, _, _, _, _, _]) rfl ?_
  refine je_iadd jb_law rfl (pc' := 817) rfl ?_
  refine je_iald0 jb_law rfl (pc' := 818) rfl (by first | omega | exact (hM _ _).1 | exact (hM _ _).2) (by first | omega | exact (hM _ _).1 | exact (hM _ _).2) (by first | omega | exact (hM _ _).1 | exact (hM _ _).2) ?_
  refine je_cv jb_law rfl (pc' := 821) rfl (jh_at (a := 45) rfl) (by rfl) (by first | decide | exact Nat.ble_eq_true_of_le (by omega)) (gl_done I.1 (J.g k1) (sv_i sc _) (sv_i sc _)) ?_
  rintro _ _ ⟨m2, rfl, rfl, J2, k2⟩
  show je _ _ _ _ _ [_, _] _ _
  refine je_icmpsame jb_law rfl (t := 1127) rfl ?_
  exact K _ _ _ _ (I1.k k2) J2 t1
set_option maxRecDepth 20000 in
theorem lw_step {A : aT} (I : iC A m r T) (J : iG A m) (hi : 0 ≤ i ∧ i + 5 ≤ (sc.1 : Int)) (hs : sc.1 ≤ 2560) (hd : 20 ≤ d) (K : lwK sc d i T Q) : je sc d 213 826 [.retAddr 0, .ref 0, .ref 45, .int (jI i)] [] (jh m r T) Q := by
  refine je_ps jb_law 4 (pc' := 830) (ls' := [_, _, _, _]) (st' := [_, _, _, _]) rfl ?_
  refine je_iadd jb_law rfl (pc' := 831) rfl ?_
  refine je_iald0 jb_law rfl (pc' := 832) rfl (by first | omega | exact (hM _ _).1 | exact (hM _ _).2) (by first | omega | exact (hM _ _).1 | exact (hM _ _).2) (by first | omega | exact (hM _ _).1 | exact (hM _ _).2) ?_
  refine je_ps jb_law 3 (pc' := 835) (ls' := [_, _, _, _]) (st' := [_, _, _, _, _]) rfl ?_
  refine je_iadd jb_law rfl (pc' := 836) rfl ?_
  refine je_iald0 jb_law rfl (pc' := 837) rfl (by first | omega | exact (hM _ _).1 | exact (hM _ _).2) (by first | omega | exact (hM _ _).1 | exact (hM _ _).2) (by first | omega | exact (hM _ _).1 | exact (hM _ _).2) ?_
  refine je_cv jb_law rfl (pc' := 840) rfl (jh_at (a := 0) rfl) (by rfl) (by first | decide | exact Nat.ble_eq_true_of_le (by omega)) (cl_step I (sv_i sc _) (sv_i sc _)) ?_
  rintro _ _ ⟨m1, r1, T1, rfl, rfl, I1, k1, t1⟩
  show je _ _ _ _ _ [_] _ _
  refine je_ps jb_law 4 (pc' := 844) (ls' := [_, _, _, _]) (st' := [_, _, _, _, _]) rfl ?_
  refine je_iadd jb_law rfl (pc' := 845) rfl ?_
  refine je_iald0 jb_law rfl (pc' := 846) rfl (by first | omega | exact (hM _ _).1 | exact (hM _ _).2) (by first | omega | exact (hM _ _).1 | exact (hM _ _).2) (by first | omega | exact (hM _ _).1 | exact (hM _ _).2) ?_
  refine je_ps jb_law 3 (pc' := 849) (ls' := [_, _, _, _]) (st' := [_, _, _, _, _, _]) rfl ?_
  refine je_iadd jb_law rfl (pc' := 850) rfl ?_
  refine je_iald0 jb_law rfl (pc' := 851) rfl (by first | omega | exact (hM _ _).1 | exact (hM _ _).2) (by first | omega | exact (hM _ _).1 | exact (hM _ _).2) (by first | omega | exact (hM _ _).1 | exact (hM _ _).2) ?_
  refine je_cv jb_law rfl (pc' := 854) rfl (jh_at (a := 45) rfl) (by rfl) (by first | decide | exact Nat.ble_eq_true_of_le (by omega)) (gl_step I.1 (J.g k1) (sv_i sc _) (sv_i sc _)) ?_
  rintro _ _ ⟨m2, rfl, rfl, J2, k2⟩
  show je _ _ _ _ _ [_, _] _ _
  refine je_icmpsame jb_law rfl (t := 1127) rfl ?_
  exact K _ _ _ _ (I1.k k2) J2 t1
set_option maxRecDepth 20000 in
theorem lw_list {A : aT} (I : iC A m r T) (J : iG A m) (hi : 0 ≤ i ∧ i + 5 ≤ (sc.1 : Int)) (hs : sc.1 ≤ 2560) (hd : 20 ≤ d) (K : lwK sc d i T Q) : je sc d 213 859 [.retAddr 0, .ref 0, .ref 45, .int (jI i)] [] (jh m r T) Q := by
  refine je_ps jb_law 4 (pc' := 863) (ls' := [_, _, _, _]) (st' := [_, _, _, _]) rfl ?_
  refine je_iadd jb_law rfl (pc' := 864) rfl ?_
  refine je_iald0 jb_law rfl (pc' := 865) rfl (by first | omega | exact (hM _ _).1 | exact (hM _ _).2) (by first | omega | exact (hM _ _).1 | exact (hM _ _).2) (by first | omega | exact (hM _ _).1 | exact (hM _ _).2) ?_
  refine je_ps jb_law 3 (pc' := 868) (ls' := [_, _, _, _]) (st' := [_, _, _, _, _]) rfl ?_
  refine je_iadd jb_law rfl (pc' := 869) rfl ?_
  refine je_iald0 jb_law rfl (pc' := 870) rfl (by first | omega | exact (hM _ _).1 | exact (hM _ _).2) (by first | omega | exact (hM _ _).1 | exact (hM _ _).2) (by first | omega | exact (hM _ _).1 | exact (hM _ _).2) ?_
  refine je_cv jb_law rfl (pc' := 873) rfl (jh_at (a := 0) rfl) (by rfl) (by first | decide | exact Nat.ble_eq_true_of_le (by omega)) (cl_list I (sv_i sc _) (sv_i sc _)) ?_
  rintro _ _ ⟨m1, r1, T1, rfl, rfl, I1, k1, t1⟩
  show je _ _ _ _ _ [_] _ _
  refine je_ps jb_law 4 (pc' := 877) (ls' := [_, _, _, _]) (st' := [_, _, _, _, _]) rfl ?_
  refine je_iadd jb_law rfl (pc' := 878) rfl ?_
  refine je_iald0 jb_law rfl (pc' := 879) rfl (by first | omega | exact (hM _ _).1 | exact (hM _ _).2) (by first | omega | exact (hM _ _).1 | exact (hM _ _).2) (by first | omega | exact (hM _ _).1 | exact (hM _ _).2) ?_
  refine je_ps jb_law 3 (pc' := 882) (ls' := [_, _, _, _]) (st' := [_, _, _, _, _, _]) rfl ?_
  refine je_iadd jb_law rfl (pc' := 883) rfl ?_
  refine je_iald0 jb_law rfl (pc' := 884) rfl (by first | omega | exact (hM _ _).1 | exact (hM _ _).2) (by first | omega | exact (hM _ _).1 | exact (hM _ _).2) (by first | omega | exact (hM _ _).1 | exact (hM _ _).2) ?_
  refine je_cv jb_law rfl (pc' := 887) rfl (jh_at (a := 45) rfl) (by rfl) (by first | decide | exact Nat.ble_eq_true_of_le (by omega)) (gl_list I.1 (J.g k1) (sv_i sc _) (sv_i sc _)) ?_
  rintro _ _ ⟨m2, rfl, rfl, J2, k2⟩
  show je _ _ _ _ _ [_, _] _ _
  refine je_icmpsame jb_law rfl (t := 1127) rfl ?_
  exact K _ _ _ _ (I1.k k2) J2 t1
set_option maxRecDepth 20000 in
theorem lw_put {A : aT} (I : iC A m r T) (J : iG A m) (hi : 0 ≤ i ∧ i + 5 ≤ (sc.1 : Int)) (hs : sc.1 ≤ 2560) (hd : 20 ≤ d) (K : lwK sc d i T Q) : je sc d 213 892 [.retAddr 0, .ref 0, .ref 45, .int (jI i)] [] (jh m r T) Q := by
  refine je_ps jb_law 4 (pc' := 896) (ls' := [_, _, _, _]) (st' := [_, _, _, _]) rfl ?_
  refine je_iadd jb_law rfl (pc' := 897) rfl ?_
  refine je_iald0 jb_law rfl (pc' := 898) rfl (by first | omega | exact (hM _ _).1 | exact (hM _ _).2) (by first | omega | exact (hM _ _).1 | exact (hM _ _).2) (by first | omega | exact (hM _ _).1 | exact (hM _ _).2) ?_
  refine je_ps jb_law 3 (pc' := 901) (ls' := [_, _, _, _]) (st' := [_, _, _, _, _]) rfl ?_
  refine je_iadd jb_law rfl (pc' := 902) rfl ?_
  refine je_iald0 jb_law rfl (pc' := 903) rfl (by first | omega | exact (hM _ _).1 | exact (hM _ _).2) (by first | omega | exact (hM _ _).1 | exact (hM _ _).2) (by first | omega | exact (hM _ _).1 | exact (hM _ _).2) ?_
  refine je_ps jb_law 3 (pc' := 906) (ls' := [_, _, _, _]) (st' := [_, _, _, _, _, _]) rfl ?_
  refine je_iadd jb_law rfl (pc' := 907) rfl ?_
  refine je_iald0 jb_law rfl (pc' := 908) rfl (by first | omega | exact (hM _ _).1 | exact (hM _ _).2) (by first | omega | exact (hM _ _).1 | exact (hM _ _).2) (by first | omega | exact (hM _ _).1 | exact (hM _ _).2) ?_
  refine je_cv jb_law rfl (pc' := 911) rfl (jh_at (a := 0) rfl) (by rfl) (by first | decide | exact Nat.ble_eq_true_of_le (by omega)) (cl_put I (sv_i sc _) (sv_i sc _) (sv_i sc _)) ?_
  rintro _ _ ⟨m1, r1, T1, rfl, rfl, I1, k1, t1⟩
  show je _ _ _ _ _ [_] _ _
  refine je_ps jb_law 4 (pc' := 915) (ls' := [_, _, _, _]) (st' := [_, _, _, _, _]) rfl ?_
  refine je_iadd jb_law rfl (pc' := 916) rfl ?_
  refine je_iald0 jb_law rfl (pc' := 917) rfl (by first | omega | exact (hM _ _).1 | exact (hM _ _).2) (by first | omega | exact (hM _ _).1 | exact (hM _ _).2) (by first | omega | exact (hM _ _).1 | exact (hM _ _).2) ?_
  refine je_ps jb_law 3 (pc' := 920) (ls' := [_, _, _, _]) (st' := [_, _, _, _, _, _]) rfl ?_
  refine je_iadd jb_law rfl (pc' := 921) rfl ?_
  refine je_iald0 jb_law rfl (pc' := 922) rfl (by first | omega | exact (hM _ _).1 | exact (hM _ _).2) (by first | omega | exact (hM _ _).1 | exact (hM _ _).2) (by first | omega | exact (hM _ _).1 | exact (hM _ _).2) ?_
  refine je_ps jb_law 3 (pc' := 925) (ls' := [_, _, _, _]) (st' := [_, _, _, _, _, _, _]) rfl ?_
  refine je_iadd jb_law rfl (pc' := 926) rfl ?_
  refine je_iald0 jb_law rfl (pc' := 927) rfl (by first | omega | exact (hM _ _).1 | exact (hM _ _).2) (by first | omega | exact (hM _ _).1 | exact (hM _ _).2) (by first | omega | exact (hM _ _).1 | exact (hM _ _).2) ?_
  refine je_cv jb_law rfl (pc' := 930) rfl (jh_at (a := 45) rfl) (by rfl) (by first | decide | exact Nat.ble_eq_true_of_le (by omega)) (gl_put I.1 (J.g k1) (sv_i sc _) (sv_i sc _) (sv_i sc _)) ?_
  rintro _ _ ⟨m2, rfl, rfl, J2, k2⟩
  show je _ _ _ _ _ [_, _] _ _
  refine je_icmpsame jb_law rfl (t := 1127) rfl ?_
  exact K _ _ _ _ (I1.k k2) J2 t1
set_option maxRecDepth 20000 in
theorem lw_look {A : aT} (I : iC A m r T) (J : iG A m) (hi : 0 ≤ i ∧ i + 5 ≤ (sc.1 : Int)) (hs : sc.1 ≤ 2560) (hd : 20 ≤ d) (K : lwK sc d i T Q) : je sc d 213 935 [.retAddr 0, .ref 0, .ref 45, .int (jI i)] [] (jh m r T) Q := by
  refine je_ps jb_law 4 (pc' := 939) (ls' := [_, _, _, _]) (st' := [_, _, _, _]) rfl ?_
  refine je_iadd jb_law rfl (pc' := 940) rfl ?_
  refine je_iald0 jb_law rfl (pc' := 941) rfl (by first | omega | exact (hM _ _).1 | exact (hM _ _).2) (by first | omega | exact (hM _ _).1 | exact (hM _ _).2) (by first | omega | exact (hM _ _).1 | exact (hM _ _).2) ?_
  refine je_ps jb_law 3 (pc' := 944) (ls' := [_, _, _, _]) (st' := [_, _, _, _, _]) rfl ?_
  refine je_iadd jb_law rfl (pc' := 945) rfl ?_
  refine je_iald0 jb_law rfl (pc' := 946) rfl (by first | omega | exact (hM _ _).1 | exact (hM _ _).2) (by first | omega | exact (hM _ _).1 | exact (hM _ _).2) (by first | omega | exact (hM _ _).1 | exact (hM _ _).2) ?_
  refine je_cv jb_law rfl (pc' := 949) rfl (jh_at (a := 0) rfl) (by rfl) (by first | decide | exact Nat.ble_eq_true_of_le (by omega)) (cl_look I (sv_i sc _) (sv_i sc _)) ?_
  rintro _ _ ⟨m1, r1, T1, rfl, rfl, I1, k1, t1⟩
  show je _ _ _ _ _ [_] _ _
  refine je_ps jb_law 4 (pc' := 953) (ls' := [_, _, _, _]) (st' := [_, _, _, _, _]) rfl ?_
  refine je_iadd jb_law rfl (pc' := 954) rfl ?_
  refine je_iald0 jb_law rfl (pc' := 955) rfl (by first | omega | exact (hM _ _).1 | exact (hM _ _).2) (by first | omega | exact (hM _ _).1 | exact (hM _ _).2) (by first | omega | exact (hM _ _).1 | exact (hM _ _).2) ?_
  refine je_ps jb_law 3 (pc' := 958) (ls' := [_, _, _, _]) (st' := [_, _, _, _, _, _]) rfl ?_
  refine je_iadd jb_law rfl (pc' := 959) rfl ?_
  refine je_iald0 jb_law rfl (pc' := 960) rfl (by first | omega | exact (hM _ _).1 | exact (hM _ _).2) (by first | omega | exact (hM _ _).1 | exact (hM _ _).2) (by first | omega | exact (hM _ _).1 | exact (hM _ _).2) ?_
  refine je_cv jb_law rfl (pc' := 963) rfl (jh_at (a := 45) rfl) (by rfl) (by first | decide | exact Nat.ble_eq_true_of_le (by omega)) (gl_look I.1 (J.g k1) (sv_i sc _) (sv_i sc _)) ?_
  rintro _ _ ⟨m2, rfl, rfl, J2, k2⟩
  show je _ _ _ _ _ [_, _] _ _
  refine je_lcmpsame jb_law rfl (pc' := 964) rfl ?_
  refine je_ifeq jb_law rfl (t := 1127) rfl (pc' := 967) rfl (by first | omega | exact (hM _ _).1 | exact (hM _ _).2) (by first | omega | exact (hM _ _).1 | exact (hM _ _).2) (fun c964 => ?_) (fun c964 => ?_)
  · exact K _ _ _ _ (I1.k k2) J2 t1
  · first | (exfalso; omega) | (cases c964; done) | (exfalso; simp_all; done)
set_option maxRecDepth 20000 in
theorem lw_lays {A : aT} (I : iC A m r T) (J : iG A m) (hi : 0 ≤ i ∧ i + 5 ≤ (sc.1 : Int)) (hs : sc.1 ≤ 2560) (hd : 20 ≤ d) (K : lwK sc d i T Q) : je sc d 213 969 [.retAddr 0, .ref 0, .ref 45, .int (jI i)] [] (jh m r T) Q := by
  refine je_ps jb_law 4 (pc' := 973) (ls' := [_, _, _, _]) (st' := [_, _, _, _]) rfl ?_
  refine je_iadd jb_law rfl (pc' := 974) rfl ?_
  refine je_iald0 jb_law rfl (pc' := 975) rfl (by first | omega | exact (hM _ _).1 | exact (hM _ _).2) (by first | omega | exact (hM _ _).1 | exact (hM _ _).2) (by first | omega | exact (hM _ _).1 | exact (hM _ _).2) ?_
  refine je_ps jb_law 3 (pc' := 978) (ls' := [_, _, _, _]) (st' := [_, _, _, _, _]) rfl ?_
  refine je_iadd jb_law rfl (pc' := 979) rfl ?_
  refine je_iald0 jb_law rfl (pc' := 980) rfl (by first | omega | exact (hM _ _).1 | exact (hM _ _).2) (by first | omega | exact (hM _ _).1 | exact (hM _ _).2) (by first | omega | exact (hM _ _).1 | exact (hM _ _).2) ?_
  refine je_ps jb_law 3 (pc' := 983) (ls' := [_, _, _, _]) (st' := [_, _, _, _, _, _]) rfl ?_
  refine je_iadd jb_law rfl (pc' := 984) rfl ?_
  refine je_iald0 jb_law rfl (pc' := 985) rfl (by first | omega | exact (hM _ _).1 | exact (hM _ _).2) (by first | omega | exact (hM _ _).1 | exact (hM _ _).2) (by first | omega | exact (hM _ _).1 | exact (hM _ _).2) ?_
  refine je_cv jb_law rfl (pc' := 988) rfl (jh_at (a := 0) rfl) (by rfl) (by first | decide | exact Nat.ble_eq_true_of_le (by omega)) (cl_lays I (sv_i sc _) (sv_i sc _) (sv_i sc _)) ?_
  rintro _ _ ⟨m1, r1, T1, rfl, rfl, I1, k1, t1⟩
  show je _ _ _ _ _ [_] _ _
  refine je_ps jb_law 4 (pc' := 992) (ls' := [_, _, _, _]) (st' := [_, _, _, _, _]) rfl ?_
  refine je_iadd jb_law rfl (pc' := 993) rfl ?_
  refine je_iald0 jb_law rfl (pc' := 994) rfl (by first | omega | exact (hM _ _).1 | exact (hM _ _).2) (by first | omega | exact (hM _ _).1 | exact (hM _ _).2) (by first | omega | exact (hM _ _).1 | exact (hM _ _).2) ?_
  refine je_ps jb_law 3 (pc' := 997) (ls' := [_, _, _, _]) (st' := [_, _, _, _, _, _]) rfl ?_
  refine je_iadd jb_law rfl (pc' := 998) rfl ?_
  refine je_iald0 jb_law rfl (pc' := 999) rfl (by first | omega | exact (hM _ _).1 | exact (hM _ _).2) (by first | omega | exact (hM _ _).1 | exact (hM _ _).2) (by first | omega | exact (hM _ _).1 | exact (hM _ _).2) ?_
  refine je_ps jb_law 3 (pc' := 1002) (ls' := [_, _, _, _]) (st' := [_, _, _, _, _, _, _]) rfl ?_
  refine je_iadd jb_law rfl (pc' := 1003) rfl ?_
  refine je_iald0 jb_law rfl (pc' := 1004) rfl (by first | omega | exact (hM _ _).1 | exact (hM _ _).2) (by first | omega | exact (hM _ _).1 | exact (hM _ _).2) (by first | omega | exact (hM _ _).1 | exact (hM _ _).2) ?_
  refine je_cv jb_law rfl (pc' := 1007) rfl (jh_at (a := 45) rfl) (by rfl) (by first | decide | exact Nat.ble_eq_true_of_le (by omega)) (gl_lays I.1 (J.g k1) (sv_i sc _) (sv_i sc _) (sv_i sc _)) ?_
  rintro _ _ ⟨m2, rfl, rfl, J2, k2⟩
  show je _ _ _ _ _ [_, _] _ _
  refine je_icmpsame jb_law rfl (t := 1127) rfl ?_
  exact K _ _ _ _ (I1.k k2) J2 t1
set_option maxRecDepth 20000 in
theorem lw_from {A : aT} (I : iC A m r T) (J : iG A m) (hi : 0 ≤ i ∧ i + 5 ≤ (sc.1 : Int)) (hs : sc.1 ≤ 2560) (hd : 20 ≤ d) (K : lwK sc d i T Q) : je sc d 213 1012 [.retAddr 0, .ref 0, .ref 45, .int (jI i)] [] (jh m r T) Q := by
  refine je_ps jb_law 4 (pc' := 1016) (ls' := [_, _, _, _]) (st' := [_, _, _, _]) rfl ?_
  refine je_iadd jb_law rfl (pc' := 1017) rfl ?_
  refine je_iald0 jb_law rfl (pc' := 1018) rfl (by first | omega | exact (hM _ _).1 | exact (hM _ _).2) (by first | omega | exact (hM _ _).1 | exact (hM _ _).2) (by first | omega | exact (hM _ _).1 | exact (hM _ _).2) ?_
  refine je_ps jb_law 3 (pc' := 1021) (ls' := [_, _, _, _]) (st' := [_, _, _, _, _]) rfl ?_
  refine je_iadd jb_law rfl (pc' := 1022) rfl ?_
  refine je_iald0 jb_law rfl (pc' := 1023) rfl (by first | omega | exact (hM _ _).1 | exact (hM _ _).2) (by first | omega | exact (hM _ _).1 | exact (hM _ _).2) (by first | omega | exact (hM _ _).1 | exact (hM _ _).2) ?_
  refine je_cv jb_law rfl (pc' := 1026) rfl (jh_at (a := 0) rfl) (by rfl) (by first | decide | exact Nat.ble_eq_true_of_le (by omega)) (cl_from I (sv_i sc _) (sv_i sc _)) ?_
  rintro _ _ ⟨m1, r1, T1, rfl, rfl, I1, k1, t1⟩
  show je _ _ _ _ _ [_] _ _
  refine je_ps jb_law 4 (pc' := 1030) (ls' := [_, _, _, _]) (st' := [_, _, _, _, _]) rfl ?_
  refine je_iadd jb_law rfl (pc' := 1031) rfl ?_
  refine je_iald0 jb_law rfl (pc' := 1032) rfl (by first | omega | exact (hM _ _).1 | exact (hM _ _).2) (by first | omega | exact (hM _ _).1 | exact (hM _ _).2) (by first | omega | exact (hM _ _).1 | exact (hM _ _).2) ?_
  refine je_ps jb_law 3 (pc' := 1035) (ls' := [_, _, _, _]) (st' := [_, _, _, _, _, _]) rfl ?_
  refine je_iadd jb_law rfl (pc' := 1036) rfl ?_
  refine je_iald0 jb_law rfl (pc' := 1037) rfl (by first | omega | exact (hM _ _).1 | exact (hM _ _).2) (by first | omega | exact (hM _ _).1 | exact (hM _ _).2) (by first | omega | exact (hM _ _).1 | exact (hM _ _).2) ?_
  refine je_cv jb_law rfl (pc' := 1040) rfl (jh_at (a := 45) rfl) (by rfl) (by first | decide | exact Nat.ble_eq_true_of_le (by omega)) (gl_from I.1 (J.g k1) (sv_i sc _) (sv_i sc _)) ?_
  rintro _ _ ⟨m2, rfl, rfl, J2, k2⟩
  show je _ _ _ _ _ [_, _] _ _
  refine je_icmpsame jb_law rfl (t := 1127) rfl ?_
  exact K _ _ _ _ (I1.k k2) J2 t1
set_option maxRecDepth 20000 in
theorem lw_judge {A : aT} (I : iC A m r T) (J : iG A m) (hi : 0 ≤ i ∧ i + 5 ≤ (sc.1 : Int)) (hs : sc.1 ≤ 2560) (hd : 20 ≤ d) (K : lwK sc d i T Q) : je sc d 213 1045 [.retAddr 0, .ref 0, .ref 45, .int (jI i)] [] (jh m r T) Q := by
  refine je_ps jb_law 4 (pc' := 1049) (ls' := [_, _, _, _]) (st' := [_, _, _, _]) rfl ?_
  refine je_iadd jb_law rfl (pc' := 1050) rfl ?_
  refine je_iald0 jb_law rfl (pc' := 1051) rfl (by first | omega | exact (hM _ _).1 | exact (hM _ _).2) (by first | omega | exact (hM _ _).1 | exact (hM _ _).2) (by first | omega | exact (hM _ _).1 | exact (hM _ _).2) ?_
  refine je_ps jb_law 3 (pc' := 1054) (ls' := [_, _, _, _]) (st' := [_, _, _, _, _]) rfl ?_
  refine je_iadd jb_law rfl (pc' := 1055) rfl ?_
  refine je_iald0 jb_law rfl (pc' := 1056) rfl (by first | omega | exact (hM _ _).1 | exact (hM _ _).2) (by first | omega | exact (hM _ _).1 | exact (hM _ _).2) (by first | omega | exact (hM _ _).1 | exact (hM _ _).2) ?_
  refine je_cv jb_law rfl (pc' := 1059) rfl (jh_at (a := 0) rfl) (by rfl) (by first | decide | exact Nat.ble_eq_true_of_le (by omega)) (cl_judge I (sv_i sc _) (sv_i sc _)) ?_
  rintro _ _ ⟨m1, r1, T1, rfl, rfl, I1, k1, t1⟩
  show je _ _ _ _ _ [_] _ _
  refine je_ps jb_law 4 (pc' := 1063) (ls' := [_, _, _, _]) (st' := [_, _, _, _, _]) rfl ?_
  refine je_iadd jb_law rfl (pc' := 1064) rfl ?_
  refine je_iald0 jb_law rfl (pc' := 1065) rfl (by first | omega | exact (hM _ _).1 | exact (hM _ _).2) (by first | omega | exact (hM _ _).1 | exact (hM _ _).2) (by first | omega | exact (hM _ _).1 | exact (hM _ _).2) ?_
  refine je_ps jb_law 3 (pc' := 1068) (ls' := [_, _, _, _]) (st' := [_, _, _, _, _, _]) rfl ?_
  refine je_iadd jb_law rfl (pc' := 1069) rfl ?_
  refine je_iald0 jb_law rfl (pc' := 1070) rfl (by first | omega | exact (hM _ _).1 | exact (hM _ _).2) (by first | omega | exact (hM _ _).1 | exact (hM _ _).2) (by first | omega | exact (hM _ _).1 | exact (hM _ _).2) ?_
  refine je_cv jb_law rfl (pc' := 1073) rfl (jh_at (a := 45) rfl) (by rfl) (by first | decide | exact Nat.ble_eq_true_of_le (by omega)) (gl_judge I.1 (J.g k1) (sv_i sc _) (sv_i sc _)) ?_
  rintro _ _ ⟨m2, rfl, rfl, J2, k2⟩
  show je _ _ _ _ _ [_, _] _ _
  refine je_icmpsame jb_law rfl (t := 1127) rfl ?_
  exact K _ _ _ _ (I1.k k2) J2 t1
set_option maxRecDepth 20000 in
theorem lw_image {A : aT} (I : iC A m r T) (J : iG A m) (hi : 0 ≤ i ∧ i + 5 ≤ (sc.1 : Int)) (hs : sc.1 ≤ 2560) (hd : 20 ≤ d) (K : lwK sc d i T Q) : je sc d 213 1078 [.retAddr 0, .ref 0, .ref 45, .int (jI i)] [] (jh m r T) Q := by
  refine je_ps jb_law 1 (pc' := 1079) (ls' := [_, _, _, _]) (st' := [_]) rfl ?_
  refine je_cv jb_law rfl (pc' := 1082) rfl (jh_at (a := 0) rfl) (by rfl) (by first | decide | exact Nat.ble_eq_true_of_le (by omega)) (cl_image I ) ?_
  rintro _ _ ⟨m1, r1, T1, rfl, rfl, I1, k1, t1⟩
  show je _ _ _ _ _ [_] _ _
  refine je_ps jb_law 1 (pc' := 1083) (ls' := [_, _, _, _]) (st' := [_, _]) rfl ?_
  refine je_cv jb_law rfl (pc' := 1086) rfl (jh_at (a := 45) rfl) (by rfl) (by first | decide | exact Nat.ble_eq_true_of_le (by omega)) (gl_image I.1 (J.g k1) ) ?_
  rintro _ _ ⟨m2, rfl, rfl, J2, k2⟩
  show je _ _ _ _ _ [_, _] _ _
  refine je_icmpsame jb_law rfl (t := 1127) rfl ?_
  exact K _ _ _ _ (I1.k k2) J2 t1
set_option maxRecDepth 20000 in
theorem lw_on {A : aT} (I : iC A m r T) (J : iG A m) (hi : 0 ≤ i ∧ i + 5 ≤ (sc.1 : Int)) (hs : sc.1 ≤ 2560) (hd : 20 ≤ d) (K : lwK sc d i T Q) : je sc d 213 1091 [.retAddr 0, .ref 0, .ref 45, .int (jI i)] [] (jh m r T) Q := by
  refine je_ps jb_law 1 (pc' := 1092) (ls' := [_, _, _, _]) (st' := [_]) rfl ?_
  refine je_cv jb_law rfl (pc' := 1095) rfl (jh_at (a := 0) rfl) (by rfl) (by first | decide | exact Nat.ble_eq_true_of_le (by omega)) (cl_on I ) ?_
  rintro _ _ ⟨m1, r1, T1, rfl, rfl, I1, k1, t1⟩
  show je _ _ _ _ _ [_] _ _
  refine je_ps jb_law 1 (pc' := 1096) (ls' := [_, _, _, _]) (st' := [_, _]) rfl ?_
  refine je_cv jb_law rfl (pc' := 1099) rfl (jh_at (a := 45) rfl) (by rfl) (by first | decide | exact Nat.ble_eq_true_of_le (by omega)) (gl_on I.1 (J.g k1) ) ?_
  rintro _ _ ⟨m2, rfl, rfl, J2, k2⟩
  show je _ _ _ _ _ [_, _] _ _
  refine je_icmpsame jb_law rfl (t := 1127) rfl ?_
  exact K _ _ _ _ (I1.k k2) J2 t1
set_option maxRecDepth 20000 in
theorem lw_count {A : aT} (I : iC A m r T) (J : iG A m) (hi : 0 ≤ i ∧ i + 5 ≤ (sc.1 : Int)) (hs : sc.1 ≤ 2560) (hd : 20 ≤ d) (K : lwK sc d i T Q) : je sc d 213 1104 [.retAddr 0, .ref 0, .ref 45, .int (jI i)] [] (jh m r T) Q := by
  refine je_ps jb_law 4 (pc' := 1108) (ls' := [_, _, _, _]) (st' := [_, _, _, _]) rfl ?_
  refine je_iadd jb_law rfl (pc' := 1109) rfl ?_
  refine je_iald0 jb_law rfl (pc' := 1110) rfl (by first | omega | exact (hM _ _).1 | exact (hM _ _).2) (by first | omega | exact (hM _ _).1 | exact (hM _ _).2) (by first | omega | exact (hM _ _).1 | exact (hM _ _).2) ?_
  refine je_cv jb_law rfl (pc' := 1113) rfl (jh_at (a := 0) rfl) (by rfl) (by first | decide | exact Nat.ble_eq_true_of_le (by omega)) (cl_count I (sv_i sc _)) ?_
  rintro _ _ ⟨m1, r1, T1, rfl, rfl, I1, k1, t1⟩
  show je _ _ _ _ _ [_] _ _
  refine je_ps jb_law 4 (pc' := 1117) (ls' := [_, _, _, _]) (st' := [_, _, _, _, _]) rfl ?_
  refine je_iadd jb_law rfl (pc' := 1118) rfl ?_
  refine je_iald0 jb_law rfl (pc' := 1119) rfl (by first | omega | exact (hM _ _).1 | exact (hM _ _).2) (by first | omega | exact (hM _ _).1 | exact (hM _ _).2) (by first | omega | exact (hM _ _).1 | exact (hM _ _).2) ?_
  refine je_cv jb_law rfl (pc' := 1122) rfl (jh_at (a := 45) rfl) (by rfl) (by first | decide | exact Nat.ble_eq_true_of_le (by omega)) (gl_count I.1 (J.g k1) (sv_i sc _)) ?_
  rintro _ _ ⟨m2, rfl, rfl, J2, k2⟩
  show je _ _ _ _ _ [_, _] _ _
  refine je_icmpsame jb_law rfl (t := 1127) rfl ?_
  exact K _ _ _ _ (I1.k k2) J2 t1
end C81
