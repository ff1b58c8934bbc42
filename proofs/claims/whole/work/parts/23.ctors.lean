section
variable {p : Program} {l : Launch} {e : Env} {s : State} {m : MethodId} {args : Array Value} {below : List Frame} {meth : Method} {c : Code} {D : va_G} {cI cO : ClassId} {A : Nat → Prop} {a : Nat → Nat} {d : Nat}
/-! X6_init -/
abbrev rmX6_init : Room := { frames := 5, cells := 104, slots := 2123, locals := 122 }
theorem dsX6_init : xDesc yX6_init 0 := by decide +kernel
theorem uX6_init_m1 : Cond.methodLink RX6 1 objectInit ∈ wsX6_init := by decide +kernel
theorem uX6_init_oi : Cond.instanceMethod objectInit ∈ wsX6_init := by decide +kernel
theorem uX6_init_oc : Cond.code objectInit ⟨#[0xb1]⟩ 1 none ∈ wsX6_init := by decide +kernel
theorem uX6_init_l7 : Cond.classLink RX6 7 RX5 ∈ wsX6_init := by decide +kernel
theorem uX6_init_t5 : Cond.instantiable RX5 17 ∈ wsX6_init := by decide +kernel
theorem uX6_init_i5 : Cond.initialized RX5 ∈ wsX6_init := by decide +kernel
theorem hinX6_init_X5 : ∀ w ∈ wsX50, w ∈ wsX6_init := by decide +kernel
theorem uX6_init_yi5 : Cond.initialized yX5_init.cls ∈ wsX6_init := by decide +kernel
theorem uX6_init_ym5 : Cond.instanceMethod yX5_init ∈ wsX6_init := by decide +kernel
theorem uX6_init_m9 : Cond.methodLink RX6 9 yX5_init ∈ wsX6_init := by decide +kernel
theorem uX6_init_f10 : Cond.fieldLink RX6 10 "PigNinths" "now" "LPigNinths$World;" ∈ wsX6_init := by decide +kernel
theorem hinX6_init_X6 : ∀ w ∈ wsX60, w ∈ wsX6_init := by decide +kernel
theorem uX6_init_l16 : Cond.classLink RX6 16 RX1 ∈ wsX6_init := by decide +kernel
theorem uX6_init_t1 : Cond.instantiable RX1 2 ∈ wsX6_init := by decide +kernel
theorem uX6_init_i1 : Cond.initialized RX1 ∈ wsX6_init := by decide +kernel
theorem hinX6_init_X1 : ∀ w ∈ wsX10, w ∈ wsX6_init := by decide +kernel
theorem uX6_init_yi1 : Cond.initialized yX1_init.cls ∈ wsX6_init := by decide +kernel
theorem uX6_init_ym1 : Cond.instanceMethod yX1_init ∈ wsX6_init := by decide +kernel
theorem uX6_init_m18 : Cond.methodLink RX6 18 yX1_init ∈ wsX6_init := by decide +kernel
theorem uX6_init_f21 : Cond.fieldLink RX6 21 "PigNinths" "tape" "LPigNinths$Row;" ∈ wsX6_init := by decide +kernel
theorem uX6_init_f25 : Cond.fieldLink RX6 25 "PigNinths" "waiting" "LPigNinths$Row;" ∈ wsX6_init := by decide +kernel
theorem uX6_init_f28 : Cond.fieldLink RX6 28 "PigNinths" "keptWorld" "LPigNinths$World;" ∈ wsX6_init := by decide +kernel
theorem uX6_init_f31 : Cond.fieldLink RX6 31 "PigNinths" "keptTape" "LPigNinths$Row;" ∈ wsX6_init := by decide +kernel
theorem uX6_init_f34 : Cond.fieldLink RX6 34 "PigNinths" "keptWaiting" "LPigNinths$Row;" ∈ wsX6_init := by decide +kernel
theorem uX6_init_f37 : Cond.fieldLink RX6 37 "PigNinths" "images" "I" ∈ wsX6_init := by decide +kernel
theorem uX6_init_f41 : Cond.fieldLink RX6 41 "PigNinths" "side" "LPigNinths$World;" ∈ wsX6_init := by decide +kernel
theorem uX6_init_f44 : Cond.fieldLink RX6 44 "PigNinths" "trial" "LPigNinths$World;" ∈ wsX6_init := by decide +kernel
theorem uX6_init_ac : Cond.arrayClass .int ∈ wsX6_init := by decide +kernel
theorem uX6_init_f47 : Cond.fieldLink RX6 47 "PigNinths" "best" "[I" ∈ wsX6_init := by decide +kernel
theorem uX6_init_f51 : Cond.fieldLink RX6 51 "PigNinths" "finds" "[I" ∈ wsX6_init := by decide +kernel
theorem uX6_init_l54 : Cond.classLink RX6 54 RX0 ∈ wsX6_init := by decide +kernel
theorem uX6_init_t0 : Cond.instantiable RX0 4 ∈ wsX6_init := by decide +kernel
theorem uX6_init_i0 : Cond.initialized RX0 ∈ wsX6_init := by decide +kernel
theorem hinX6_init_X0 : ∀ w ∈ wsX00, w ∈ wsX6_init := by decide +kernel
theorem uX6_init_yi0 : Cond.initialized yX0_init.cls ∈ wsX6_init := by decide +kernel
theorem uX6_init_ym0 : Cond.instanceMethod yX0_init ∈ wsX6_init := by decide +kernel
theorem uX6_init_f57 : Cond.fieldLink RX6 57 "PigNinths" "reader" "LPigNinths$Reader;" ∈ wsX6_init := by decide +kernel
theorem uX6_init_l61 : Cond.classLink RX6 61 RX4 ∈ wsX6_init := by decide +kernel
theorem uX6_init_t4 : Cond.instantiable RX4 5 ∈ wsX6_init := by decide +kernel
theorem uX6_init_i4 : Cond.initialized RX4 ∈ wsX6_init := by decide +kernel
theorem hinX6_init_X4 : ∀ w ∈ wsX40, w ∈ wsX6_init := by decide +kernel
theorem uX6_init_yi4 : Cond.initialized yX4_init.cls ∈ wsX6_init := by decide +kernel
theorem uX6_init_ym4 : Cond.instanceMethod yX4_init ∈ wsX6_init := by decide +kernel
theorem uX6_init_f64 : Cond.fieldLink RX6 64 "PigNinths" "voices" "LPigNinths$Voices;" ∈ wsX6_init := by decide +kernel
theorem uX6_init_l68 : Cond.classLink RX6 68 RX2 ∈ wsX6_init := by decide +kernel
theorem uX6_init_f70 : Cond.fieldLink RX6 70 "PigNinths" "sheets" "[LPigNinths$Sheet;" ∈ wsX6_init := by decide +kernel
theorem uX6_init_f74 : Cond.fieldLink RX6 74 "PigNinths" "errors" "[I" ∈ wsX6_init := by decide +kernel
theorem uX6_init_t2 : Cond.instantiable RX2 3 ∈ wsX6_init := by decide +kernel
theorem uX6_init_i2 : Cond.initialized RX2 ∈ wsX6_init := by decide +kernel
theorem hinX6_init_X2 : ∀ w ∈ wsX20, w ∈ wsX6_init := by decide +kernel
theorem uX6_init_yi2 : Cond.initialized yX2_init.cls ∈ wsX6_init := by decide +kernel
theorem uX6_init_ym2 : Cond.instanceMethod yX2_init ∈ wsX6_init := by decide +kernel
def qX6_init (Q : xF → xA → Prop) : Prop := qX5_init (fun F9_6 G9_6 => qX1_init_60 (fun F22_12 G22_12 => qX1_init_24 (fun F35_18 G35_18 => qX5_init (fun F46_23 G46_23 => qX1_init_60 (fun F59_29 G59_29 => qX1_init_24 (fun F72_35 G72_35 => qX5_init (fun F88_43 G88_43 => qX5_init (fun F99_48 G99_48 => qX0_init (fun F125_61 G125_61 => qX4_init (fun F136_66 G136_66 => qX2_init (fun F174_86 G174_86 => qX2_init (fun F174_98 G174_98 => qX2_init (fun F174_110 G174_110 => qX2_init (fun F174_122 G174_122 => (∀ F0 : xF, F0 = (xcat 7 F9_6 (xcat 7 F46_23 (xcat 7 F88_43 (xcat 7 F99_48 (xcat 1 (fun k => ([(0 : Int32)] : List Int32).getD k 0) (xcat 1 F22_12 (xcat 1 F35_18 (xcat 1 F59_29 (xcat 1 F72_35 (xcat 4 F125_61 (xcat 5 F136_66 (xcat 2 F174_86 (xcat 2 F174_98 (xcat 2 F174_110 F174_122)))))))))))))) → (∀ G0 : xA, G0 = (xcat 14 G9_6 (xcat 14 G46_23 (xcat 14 G88_43 (xcat 14 G99_48 (xcat 1 G22_12 (xcat 1 G35_18 (xcat 1 G59_29 (xcat 1 G72_35 (xcat 3 (fun k => ([(fun _ => 0), (fun _ => 0), (fun _ => 0)] : List (Nat → Int32)).getD k (fun _ => 0)) (xcat 2 G125_61 (xcat 1 G136_66 (xcat 1 G174_86 (xcat 1 G174_98 (xcat 1 G174_110 G174_122)))))))))))))) → Q F0 G0))))))))))))))))
set_option maxHeartbeats 4000000 in
set_option maxRecDepth 100000 in
theorem mX6_init (l : Launch) (D : va_G) (cI cO : ClassId) (b : Nat) : MC l yX6_init wsX6_init rmX6_init D (xtys cI cO) [.ref b] b [(b, .inr (6, [.null, .null, .null, .null, .null, .null, .int 0, .null, .null, .null, .null, .null, .null, .null, .null]))] 104 2123 (fun a F G => w6 cI cO a F G) qX6_init := sorry
end
