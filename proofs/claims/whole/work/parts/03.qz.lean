/-- oak keeps I, and both answer alike -/
def oX_oak (I : xF → xA → xF → xA → Prop) : Prop := ∀ (x1 : Int32) (x2 : Int32) (x3 : Int32) (F : xF) (G : xA) (F' : xF) (G' : xA), I F G F' G' → qX6_oak x1 x2 x3 F G (fun r F1 G1 => qX7_oak x1 x2 x3 F' G' (fun r' F2 G2 => r = r' ∧ I F1 G1 F2 G2))
/-- oakIs keeps I, and both answer alike -/
def oX_oakIs (I : xF → xA → xF → xA → Prop) : Prop := ∀ (x1 : Int32) (x2 : Int32) (F : xF) (G : xA) (F' : xF) (G' : xA), I F G F' G' → qX6_oakIs x1 x2 F G (fun r F1 G1 => qX7_oakIs x1 x2 F' G' (fun r' F2 G2 => r = r' ∧ I F1 G1 F2 G2))
/-- rain keeps I, and both answer alike -/
def oX_rain (I : xF → xA → xF → xA → Prop) : Prop := ∀ (x1 : Int32) (F : xF) (G : xA) (F' : xF) (G' : xA), I F G F' G' → qX6_rain x1 F G (fun r F1 G1 => qX7_rain x1 F' G' (fun r' F2 G2 => r = r' ∧ I F1 G1 F2 G2))
/-- farmer keeps I, and both answer alike -/
def oX_farmer (I : xF → xA → xF → xA → Prop) : Prop := ∀ (x1 : Int32) (x2 : Int32) (F : xF) (G : xA) (F' : xF) (G' : xA), I F G F' G' → qX6_farmer x1 x2 F G (fun r F1 G1 => qX7_farmer x1 x2 F' G' (fun r' F2 G2 => r = r' ∧ I F1 G1 F2 G2))
/-- farmerIs keeps I, and both answer alike -/
def oX_farmerIs (I : xF → xA → xF → xA → Prop) : Prop := ∀ (x1 : Int32) (x2 : Int32) (F : xF) (G : xA) (F' : xF) (G' : xA), I F G F' G' → qX6_farmerIs x1 x2 F G (fun r F1 G1 => qX7_farmerIs x1 x2 F' G' (fun r' F2 G2 => r = r' ∧ I F1 G1 F2 G2))
/-- as keeps I, and both answer alike -/
def oX_as (I : xF → xA → xF → xA → Prop) : Prop := ∀ (x1 : Int32) (x2 : Int32) (F : xF) (G : xA) (F' : xF) (G' : xA), I F G F' G' → qX6_as x1 x2 F G (fun r F1 G1 => qX7_as x1 x2 F' G' (fun r' F2 G2 => r = r' ∧ I F1 G1 F2 G2))
/-- trade keeps I, and both answer alike -/
def oX_trade (I : xF → xA → xF → xA → Prop) : Prop := ∀ (x1 : Int32) (x2 : Int32) (F : xF) (G : xA) (F' : xF) (G' : xA), I F G F' G' → qX6_trade x1 x2 F G (fun r F1 G1 => qX7_trade x1 x2 F' G' (fun r' F2 G2 => r = r' ∧ I F1 G1 F2 G2))
/-- leash keeps I, and both answer alike -/
def oX_leash (I : xF → xA → xF → xA → Prop) : Prop := ∀ (x1 : Int32) (x2 : Int32) (x3 : Int32) (F : xF) (G : xA) (F' : xF) (G' : xA), I F G F' G' → qX6_leash x1 x2 x3 F G (fun r F1 G1 => qX7_leash x1 x2 x3 F' G' (fun r' F2 G2 => r = r' ∧ I F1 G1 F2 G2))
/-- pig keeps I, and both answer alike -/
def oX_pig (I : xF → xA → xF → xA → Prop) : Prop := ∀ (x1 : Int32) (x2 : Int32) (F : xF) (G : xA) (F' : xF) (G' : xA), I F G F' G' → qX6_pig x1 x2 F G (fun r F1 G1 => qX7_pig x1 x2 F' G' (fun r' F2 G2 => r = r' ∧ I F1 G1 F2 G2))
/-- feed keeps I, and both answer alike -/
def oX_feed (I : xF → xA → xF → xA → Prop) : Prop := ∀ (x1 : Int64) (x3 : Int32) (F : xF) (G : xA) (F' : xF) (G' : xA), I F G F' G' → qX6_feed x1 x3 F G (fun r F1 G1 => qX7_feed x1 x3 F' G' (fun r' F2 G2 => r = r' ∧ I F1 G1 F2 G2))
/-- text keeps I, and both answer alike -/
def oX_text (I : xF → xA → xF → xA → Prop) : Prop := ∀ (x1 : Int32) (F : xF) (G : xA) (F' : xF) (G' : xA), I F G F' G' → qX6_text x1 F G (fun r F1 G1 => qX7_text x1 F' G' (fun r' F2 G2 => r = r' ∧ I F1 G1 F2 G2))
/-- untell keeps I, and both answer alike -/
def oX_untell (I : xF → xA → xF → xA → Prop) : Prop := ∀ (x1 : Int32) (F : xF) (G : xA) (F' : xF) (G' : xA), I F G F' G' → qX6_untell x1 F G (fun r F1 G1 => qX7_untell x1 F' G' (fun r' F2 G2 => r = r' ∧ I F1 G1 F2 G2))
/-- days keeps I, and both answer alike -/
def oX_days (I : xF → xA → xF → xA → Prop) : Prop := ∀ (x1 : Int32) (F : xF) (G : xA) (F' : xF) (G' : xA), I F G F' G' → qX6_days x1 F G (fun r F1 G1 => qX7_days x1 F' G' (fun r' F2 G2 => r = r' ∧ I F1 G1 F2 G2))
/-- draws keeps I, and both answer alike -/
def oX_draws (I : xF → xA → xF → xA → Prop) : Prop := ∀ (x1 : Int32) (F : xF) (G : xA) (F' : xF) (G' : xA), I F G F' G' → qX6_draws x1 F G (fun r F1 G1 => qX7_draws x1 F' G' (fun r' F2 G2 => r = r' ∧ I F1 G1 F2 G2))
/-- seed keeps I, and both answer alike -/
def oX_seed (I : xF → xA → xF → xA → Prop) : Prop := ∀ (x1 : Int32) (F : xF) (G : xA) (F' : xF) (G' : xA), I F G F' G' → qX6_seed x1 F G (fun r F1 G1 => qX7_seed x1 F' G' (fun r' F2 G2 => r = r' ∧ I F1 G1 F2 G2))
/-- then keeps I, and both answer alike -/
def oX_then (I : xF → xA → xF → xA → Prop) : Prop := ∀ (x1 : Int32) (x2 : Int32) (x3 : Int32) (F : xF) (G : xA) (F' : xF) (G' : xA), I F G F' G' → qX6_then x1 x2 x3 F G (fun r F1 G1 => qX7_then x1 x2 x3 F' G' (fun r' F2 G2 => r = r' ∧ I F1 G1 F2 G2))
/-- ahead keeps I, and both answer alike -/
def oX_ahead (I : xF → xA → xF → xA → Prop) : Prop := ∀ (x1 : Int32) (x2 : Int32) (F : xF) (G : xA) (F' : xF) (G' : xA), I F G F' G' → qX6_ahead x1 x2 F G (fun r F1 G1 => qX7_ahead x1 x2 F' G' (fun r' F2 G2 => r = r' ∧ I F1 G1 F2 G2))
/-- bestLeash keeps I, and both answer alike -/
def oX_bestLeash (I : xF → xA → xF → xA → Prop) : Prop := ∀ (x1 : Int32) (F : xF) (G : xA) (F' : xF) (G' : xA), I F G F' G' → qX6_bestLeash x1 F G (fun r F1 G1 => qX7_bestLeash x1 F' G' (fun r' F2 G2 => r = r' ∧ I F1 G1 F2 G2))
/-- bestFeed keeps I, and both answer alike -/
def oX_bestFeed (I : xF → xA → xF → xA → Prop) : Prop := ∀ (x1 : Int32) (F : xF) (G : xA) (F' : xF) (G' : xA), I F G F' G' → qX6_bestFeed x1 F G (fun r F1 G1 => qX7_bestFeed x1 F' G' (fun r' F2 G2 => r = r' ∧ I F1 G1 F2 G2))
/-- gain keeps I, and both answer alike -/
def oX_gain (I : xF → xA → xF → xA → Prop) : Prop := ∀ (x1 : Int32) (x2 : Int32) (F : xF) (G : xA) (F' : xF) (G' : xA), I F G F' G' → qX6_gain x1 x2 F G (fun r F1 G1 => qX7_gain x1 x2 F' G' (fun r' F2 G2 => r = r' ∧ I F1 G1 F2 G2))
/-- bestTrade keeps I, and both answer alike -/
def oX_bestTrade (I : xF → xA → xF → xA → Prop) : Prop := ∀ (F : xF) (G : xA) (F' : xF) (G' : xA), I F G F' G' → qX6_bestTrade F G (fun r F1 G1 => qX7_bestTrade F' G' (fun r' F2 G2 => r = r' ∧ I F1 G1 F2 G2))
/-- share keeps I, and both answer alike -/
def oX_share (I : xF → xA → xF → xA → Prop) : Prop := ∀ (x1 : Int32) (x2 : Int32) (x3 : Int32) (F : xF) (G : xA) (F' : xF) (G' : xA), I F G F' G' → qX6_share x1 x2 x3 F G (fun r F1 G1 => qX7_share x1 x2 x3 F' G' (fun r' F2 G2 => r = r' ∧ I F1 G1 F2 G2))
/-- whoHid keeps I, and both answer alike -/
def oX_whoHid (I : xF → xA → xF → xA → Prop) : Prop := ∀ (x1 : Int32) (x2 : Int32) (x3 : Int32) (F : xF) (G : xA) (F' : xF) (G' : xA), I F G F' G' → qX6_whoHid x1 x2 x3 F G (fun r F1 G1 => qX7_whoHid x1 x2 x3 F' G' (fun r' F2 G2 => r = r' ∧ I F1 G1 F2 G2))
/-- voice keeps I, and both answer alike -/
def oX_voice (I : xF → xA → xF → xA → Prop) : Prop := ∀ (x1 : Int32) (x2 : Int32) (x3 : Int32) (F : xF) (G : xA) (F' : xF) (G' : xA), I F G F' G' → qX6_voice x1 x2 x3 F G (fun r F1 G1 => qX7_voice x1 x2 x3 F' G' (fun r' F2 G2 => r = r' ∧ I F1 G1 F2 G2))
/-- body keeps I, and both answer alike -/
def oX_body (I : xF → xA → xF → xA → Prop) : Prop := ∀ (x1 : Int32) (F : xF) (G : xA) (F' : xF) (G' : xA), I F G F' G' → qX6_body x1 F G (fun r F1 G1 => qX7_body x1 F' G' (fun r' F2 G2 => r = r' ∧ I F1 G1 F2 G2))
/-- sheet keeps I, and both answer alike -/
def oX_sheet (I : xF → xA → xF → xA → Prop) : Prop := ∀ (x1 : Int32) (x2 : Int32) (x3 : Int32) (F : xF) (G : xA) (F' : xF) (G' : xA), I F G F' G' → qX6_sheet x1 x2 x3 F G (fun r F1 G1 => qX7_sheet x1 x2 x3 F' G' (fun r' F2 G2 => r = r' ∧ I F1 G1 F2 G2))
/-- put keeps I, and both answer alike -/
def oX_put (I : xF → xA → xF → xA → Prop) : Prop := ∀ (x1 : Int32) (x2 : Int32) (x3 : Int32) (F : xF) (G : xA) (F' : xF) (G' : xA), I F G F' G' → qX6_put x1 x2 x3 F G (fun r F1 G1 => qX7_put x1 x2 x3 F' G' (fun r' F2 G2 => r = r' ∧ I F1 G1 F2 G2))
/-- move keeps I, and both answer alike -/
def oX_move (I : xF → xA → xF → xA → Prop) : Prop := ∀ (x1 : Int32) (x2 : Int32) (x3 : Int32) (x4 : Int32) (x5 : Int32) (F : xF) (G : xA) (F' : xF) (G' : xA), I F G F' G' → qX6_move x1 x2 x3 x4 x5 F G (fun r F1 G1 => qX7_move x1 x2 x3 x4 x5 F' G' (fun r' F2 G2 => r = r' ∧ I F1 G1 F2 G2))
/-- unders keeps I, and both answer alike -/
def oX_unders (I : xF → xA → xF → xA → Prop) : Prop := ∀ (x1 : Int32) (F : xF) (G : xA) (F' : xF) (G' : xA), I F G F' G' → qX6_unders x1 F G (fun r F1 G1 => qX7_unders x1 F' G' (fun r' F2 G2 => r = r' ∧ I F1 G1 F2 G2))
/-- judge keeps I, and both answer alike -/
def oX_judge (I : xF → xA → xF → xA → Prop) : Prop := ∀ (x1 : Int32) (F : xF) (G : xA) (F' : xF) (G' : xA), I F G F' G' → qX6_judge x1 F G (fun r F1 G1 => qX7_judge x1 F' G' (fun r' F2 G2 => r = r' ∧ I F1 G1 F2 G2))
/-- image keeps I, and both answer alike -/
def oX_image (I : xF → xA → xF → xA → Prop) : Prop := ∀ (F : xF) (G : xA) (F' : xF) (G' : xA), I F G F' G' → qX6_image F G (fun r F1 G1 => qX7_image F' G' (fun r' F2 G2 => r = r' ∧ I F1 G1 F2 G2))
/-- restore keeps I, and both answer alike -/
def oX_restore (I : xF → xA → xF → xA → Prop) : Prop := ∀ (F : xF) (G : xA) (F' : xF) (G' : xA), I F G F' G' → qX6_restore F G (fun r F1 G1 => qX7_restore F' G' (fun r' F2 G2 => r = r' ∧ I F1 G1 F2 G2))
/-- tell keeps I, and both answer alike -/
def oX_tell (I : xF → xA → xF → xA → Prop) : Prop := ∀ (x1 : Int32) (F : xF) (G : xA) (F' : xF) (G' : xA), I F G F' G' → qX6_tell x1 F G (fun r F1 G1 => qX7_tell x1 F' G' (fun r' F2 G2 => r = r' ∧ I F1 G1 F2 G2))
/-- check keeps I, and both answer alike -/
def oX_check (I : xF → xA → xF → xA → Prop) : Prop := ∀ (F : xF) (G : xA) (F' : xF) (G' : xA), I F G F' G' → qX6_check F G (fun r F1 G1 => qX7_check F' G' (fun r' F2 G2 => r = r' ∧ I F1 G1 F2 G2))
/-- count keeps I, and both answer alike -/
def oX_count (I : xF → xA → xF → xA → Prop) : Prop := ∀ (x1 : Int32) (F : xF) (G : xA) (F' : xF) (G' : xA), I F G F' G' → qX6_count x1 F G (fun r F1 G1 => qX7_count x1 F' G' (fun r' F2 G2 => r = r' ∧ I F1 G1 F2 G2))
/-- told keeps I, and both answer alike -/
def oX_told (I : xF → xA → xF → xA → Prop) : Prop := ∀ (x1 : Int32) (F : xF) (G : xA) (F' : xF) (G' : xA), I F G F' G' → qX6_told x1 F G (fun r F1 G1 => qX7_told x1 F' G' (fun r' F2 G2 => r = r' ∧ I F1 G1 F2 G2))
