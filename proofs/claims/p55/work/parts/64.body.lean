/-- the law's body, from its first instruction to its last -/
theorem law_body {p : Program} {l : Launch} {e : Env} {s : State} {m : MethodId} {args : Array Value} {below : List Frame} {meth : Method} {c : Code} {rt : Option FieldType} {Q : State → Prop} {G : va_G} {cy : Nat → ClassId} {A : Nat → Prop} (C : fz_C p c s m args 20 cL_law wsL_law RL meth rt G cy A) (hl9 : l.stackTraces = false) (hL : cy 10 < 2 ^ 31) (kk : ∀ (ws : va_W) (lo : List (Nat × Value)), J p l e room_1 s m args below meth c Q G A 20 ws 1653 125348 1236 lo [.int 1]) : J p l e room_1 s m args below meth c Q G A 20 [] 0 0 0 [(0, .ref (cy 9))] [] := by
  refine law_A C hl9 (fun hg => ?_)
  refine law_B C hL (fun hx hx6 hxl hf1 hy hy6 hyl hf2 hr6 hrl hf3 => ?_)
  refine law_C C hl9 hg hx hx6 hxl hf1 hy hy6 hyl hf2 hr6 hrl hf3 (fun hz hz6 hzl hb0 hb1 hb2 => ?_)
  refine law_D C hg hx hx6 hxl hf1 hy hy6 hyl hf2 hz hz6 hzl hb0 hb1 hb2 (fun hpr hpl hf6 hb3 hb4 hb5 => ?_)
  refine law_E C hg hx hx6 hxl hf1 hy hy6 hyl hf2 hz hz6 hzl hb0 hb1 hb2 hpr hpl hf6 hb3 hb4 hb5 ?_
  refine law_E2 C hl9 hg hx hx6 hxl hf1 hy hy6 hyl hf2 hz hz6 hzl hb0 hb1 hb2 hpr hpl hf6 hb3 hb4 hb5 ?_
  refine law_F C hL hg hx hx6 hxl hf1 hy hy6 hyl hf2 hz hz6 hzl hb0 hb1 hb2 hpr hpl hf6 hb3 hb4 hb5 (fun hs hmm hf9 => ?_)
  refine law_G C hl9 hg hx hx6 hxl hf1 hy hy6 hyl hf2 hz hz6 hzl hb0 hb1 hb2 hpr hpl hf6 hb3 hb4 hb5 hs hmm hf9 (fun hpw hpw6 hpwl hb6 => ?_)
  refine law_H C hg hx hx6 hxl hf1 hy hy6 hyl hf2 hz hz6 hzl hb0 hb1 hb2 hpr hpl hf6 hb3 hb4 hb5 hpw hpw6 hpwl hb6 (fun he hc => ?_)
  refine law_I C hg hx hx6 hxl hf1 hy hy6 hyl hf2 hz hz6 hzl hb0 hb1 hb2 hpr hpl hf6 hb3 hb4 hb5 hpw hpw6 hpwl hb6 he hc (fun hp => ?_)
  refine law_J C hl9 hg hx hx6 hxl hf1 hy hy6 hyl hf2 hz hz6 hzl hb0 hb1 hb2 hpr hpl hf6 hb3 hb4 hb5 hpw hpw6 hpwl hb6 he hc hp ?_
  refine law_K C hg hx hx6 hxl hf1 hy hy6 hyl hf2 hz hz6 hzl hb0 hb1 hb2 hpr hpl hf6 hb3 hb4 hb5 hpw hpw6 hpwl hb6 ?_
  refine law_L C hg hx hx6 hxl hf1 hy hy6 hyl hf2 hz hz6 hzl hb0 hb1 hb2 hpr hpl hf6 hb3 hb4 hb5 hpw hpw6 hpwl hb6 (fun har => ?_)
  refine law_M C hl9 hg hx hx6 hxl hf1 hy hy6 hyl hf2 hz hz6 hzl hb0 hb1 hb2 hpr hpl hf6 hb3 hb4 hb5 hpw hpw6 hpwl hb6 har ?_
  intros
  refine law_N C hg hx hx6 hxl hf1 hy hy6 hyl hf2 hz hz6 hzl hb0 hb1 hb2 hpr hpl hf6 hb3 hb4 hb5 hpw hpw6 hpwl hb6 (fun hmv hml hb7 => ?_)
  refine law_O (x2 := 0) (x6 := 0) C hg hx hx6 hxl hf1 hy hy6 hyl hf2 hz hz6 hzl hb0 hb1 hb2 hpr hpl hf6 hb3 hb4 hb5 hpw hpw6 hpwl hb6 hmv hml hb7 (fun hwr hw6 hwl hxr hwx6 hwxl hb8 hb9 hb10 hb11 => ?_)
  refine law_P (x2 := 0) (x6 := 0) C hl9 hg hx hx6 hxl hf1 hy hy6 hyl hf2 hz hz6 hzl hb0 hb1 hb2 hpr hpl hf6 hb3 hb4 hb5 hpw hpw6 hpwl hb6 hmv hml hb7 hwr hw6 hwl hxr hwx6 hwxl hb8 hb9 hb10 hb11 he hc (fun hlr hl6 hll hb12 => ?_)
  refine law_Q (x1 := 0) (x2 := 0) (x6 := 0) C hg hx hx6 hxl hf1 hy hy6 hyl hf2 hz hz6 hzl hb0 hb1 hb2 hpr hpl hf6 hb3 hb4 hb5 hpw hpw6 hpwl hb6 hmv hml hb7 hwr hw6 hwl hxr hwx6 hwxl hb8 hb9 hb10 hb11 hlr hl6 hll hb12 ?_
  exact kk _ _
