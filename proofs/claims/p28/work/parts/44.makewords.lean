/-! ===== the words of the makings ===== -/
abbrev blRX2 : List KV := [vN, vI 0]
abbrev blRX4 : List KV := [vN, vN, vN]
abbrev blRX5 : List KV := [vN, vI 0]
abbrev blRX6 : List KV := [vN, vN, vN, vN, vN, vI 0, vI 0, vI 0]
abbrev blRX7 : List KV := [vN]
abbrev blRX9 : List KV := [vN, vN, vN, vN, vN, vN, vI 0, vI 0, vI 0, vI 0]
theorem wOI : Cond.instanceMethod Lib.objectInit ∈ k_tb := k_t (i := 18) (by decide +kernel) rfl
theorem wOC : Cond.code Lib.objectInit ⟨#[0xb1]⟩ 1 none ∈ k_tb := k_t (i := 19) (by decide +kernel) rfl
theorem wA_int : Cond.arrayClass (newarray.typeOf .int) ∈ k_tb := k_t (i := 51) (by decide +kernel) rfl
theorem wA_boolean : Cond.arrayClass (newarray.typeOf .boolean) ∈ k_tb := k_t (i := 52) (by decide +kernel) rfl
theorem wA_long : Cond.arrayClass (newarray.typeOf .long) ∈ k_tb := k_t (i := 98) (by decide +kernel) rfl
theorem sRX2_3 : Cond.methodLink RX2 3 Lib.objectInit ∈ k_tb := k_t (i := 58) (by decide +kernel) rfl
theorem nRX2_9 : Cond.classLink RX2 9 RX6 ∈ k_tb := k_t (i := 59) (by decide +kernel) rfl
theorem qRX2_11 : KPF RX2 11 0 0 (.array (.object RX6)) true := ⟨RX2, TX2, 2, tyX2, rfl, by decide, kwRX2, k_t (i := 62) (by decide +kernel) rfl, tyX2_ok, nmX2, rfl, fun _ => rfl, by decide +kernel⟩
theorem qRX2_17 : KPF RX2 17 0 1 .int false := ⟨RX2, TX2, 2, tyX2, rfl, by decide, kwRX2, k_t (i := 63) (by decide +kernel) rfl, tyX2_ok, nmX2, rfl, (fun z => by cases z), by decide +kernel⟩
theorem sRX4_3 : Cond.methodLink RX4 3 Lib.objectInit ∈ k_tb := k_t (i := 87) (by decide +kernel) rfl
theorem nRX4_9 : KN RX4 9 4 blRX7 := ⟨RX7, TX7, 1, tyX7, rfl, kwRX7, tyX7_ok, k_t (i := 88) (by decide +kernel) rfl, k_t (i := 89) (by decide +kernel) rfl, k_t (i := 6) (by decide +kernel) rfl, fun b j hj => by rcases (show j = 0 by omega) with rfl <;> rfl, rfl⟩
theorem qRX4_12 : KPF RX4 12 1 0 (.object RX7) true := ⟨RX4, TX4, 3, tyX4, rfl, by decide, kwRX4, k_t (i := 99) (by decide +kernel) rfl, tyX4_ok, nmX4, rfl, fun _ => rfl, by decide +kernel⟩
theorem qRX4_18 : KPF RX4 18 1 1 (.object RX7) false := ⟨RX4, TX4, 3, tyX4, rfl, by decide, kwRX4, k_t (i := 100) (by decide +kernel) rfl, tyX4_ok, nmX4, rfl, (fun z => by cases z), by decide +kernel⟩
theorem qRX4_21 : KPF RX4 21 1 2 (.object RX7) false := ⟨RX4, TX4, 3, tyX4, rfl, by decide, kwRX4, k_t (i := 101) (by decide +kernel) rfl, tyX4_ok, nmX4, rfl, (fun z => by cases z), by decide +kernel⟩
theorem sRX5_3 : Cond.methodLink RX5 3 Lib.objectInit ∈ k_tb := k_t (i := 74) (by decide +kernel) rfl
theorem qRX5_11 : KPF RX5 11 2 0 (.array .int) true := ⟨RX5, TX5, 2, tyX5, rfl, by decide, kwRX5, k_t (i := 75) (by decide +kernel) rfl, tyX5_ok, nmX5, rfl, fun _ => rfl, by decide +kernel⟩
theorem qRX5_15 : KPF RX5 15 2 1 .int false := ⟨RX5, TX5, 2, tyX5, rfl, by decide, kwRX5, k_t (i := 76) (by decide +kernel) rfl, tyX5_ok, nmX5, rfl, (fun z => by cases z), by decide +kernel⟩
theorem sRX6_3 : Cond.methodLink RX6 3 Lib.objectInit ∈ k_tb := k_t (i := 25) (by decide +kernel) rfl
theorem qRX6_9 : KPF RX6 9 3 0 (.array .int) true := ⟨RX6, TX6, 8, tyX6, rfl, by decide, kwRX6, k_t (i := 26) (by decide +kernel) rfl, tyX6_ok, nmX6, rfl, fun _ => rfl, by decide +kernel⟩
theorem qRX6_15 : KPF RX6 15 3 1 (.array .boolean) true := ⟨RX6, TX6, 8, tyX6, rfl, by decide, kwRX6, k_t (i := 27) (by decide +kernel) rfl, tyX6_ok, nmX6, rfl, fun _ => rfl, by decide +kernel⟩
theorem qRX6_19 : KPF RX6 19 3 2 (.array .int) true := ⟨RX6, TX6, 8, tyX6, rfl, by decide, kwRX6, k_t (i := 28) (by decide +kernel) rfl, tyX6_ok, nmX6, rfl, fun _ => rfl, by decide +kernel⟩
theorem qRX6_22 : KPF RX6 22 3 3 (.array .int) true := ⟨RX6, TX6, 8, tyX6, rfl, by decide, kwRX6, k_t (i := 29) (by decide +kernel) rfl, tyX6_ok, nmX6, rfl, fun _ => rfl, by decide +kernel⟩
theorem qRX6_25 : KPF RX6 25 3 4 (.array .int) true := ⟨RX6, TX6, 8, tyX6, rfl, by decide, kwRX6, k_t (i := 30) (by decide +kernel) rfl, tyX6_ok, nmX6, rfl, fun _ => rfl, by decide +kernel⟩
theorem qRX6_28 : KPF RX6 28 3 5 .int false := ⟨RX6, TX6, 8, tyX6, rfl, by decide, kwRX6, k_t (i := 31) (by decide +kernel) rfl, tyX6_ok, nmX6, rfl, (fun z => by cases z), by decide +kernel⟩
theorem qRX6_32 : KPF RX6 32 3 6 .int false := ⟨RX6, TX6, 8, tyX6, rfl, by decide, kwRX6, k_t (i := 32) (by decide +kernel) rfl, tyX6_ok, nmX6, rfl, (fun z => by cases z), by decide +kernel⟩
theorem qRX6_35 : KPF RX6 35 3 7 .int false := ⟨RX6, TX6, 8, tyX6, rfl, by decide, kwRX6, k_t (i := 33) (by decide +kernel) rfl, tyX6_ok, nmX6, rfl, (fun z => by cases z), by decide +kernel⟩
theorem sRX7_3 : Cond.methodLink RX7 3 Lib.objectInit ∈ k_tb := k_t (i := 93) (by decide +kernel) rfl
theorem qRX7_11 : KPF RX7 11 4 0 (.array .long) true := ⟨RX7, TX7, 1, tyX7, rfl, by decide, kwRX7, k_t (i := 94) (by decide +kernel) rfl, tyX7_ok, nmX7, rfl, fun _ => rfl, by decide +kernel⟩
theorem sRX9_1 : Cond.methodLink RX9 1 Lib.objectInit ∈ k_tb := k_t (i := 17) (by decide +kernel) rfl
theorem nRX9_7 : KN RX9 7 3 blRX6 := ⟨RX6, TX6, 8, tyX6, rfl, kwRX6, tyX6_ok, k_t (i := 20) (by decide +kernel) rfl, k_t (i := 21) (by decide +kernel) rfl, k_t (i := 2) (by decide +kernel) rfl, fun b j hj => by rcases (show j = 0 ∨ j = 1 ∨ j = 2 ∨ j = 3 ∨ j = 4 ∨ j = 5 ∨ j = 6 ∨ j = 7 by omega) with rfl | rfl | rfl | rfl | rfl | rfl | rfl | rfl <;> rfl, rfl⟩
theorem qRX9_10 : KPF RX9 10 5 0 (.object RX6) true := ⟨RX9, TX9, 10, tyX9, rfl, by decide, kwRX9, k_t (i := 109) (by decide +kernel) rfl, tyX9_ok, nmX9, rfl, fun _ => rfl, by decide +kernel⟩
theorem qRX9_16 : KPF RX9 16 5 1 (.object RX6) true := ⟨RX9, TX9, 10, tyX9, rfl, by decide, kwRX9, k_t (i := 110) (by decide +kernel) rfl, tyX9_ok, nmX9, rfl, fun _ => rfl, by decide +kernel⟩
theorem qRX9_19 : KPF RX9 19 5 2 (.object RX6) true := ⟨RX9, TX9, 10, tyX9, rfl, by decide, kwRX9, k_t (i := 111) (by decide +kernel) rfl, tyX9_ok, nmX9, rfl, fun _ => rfl, by decide +kernel⟩
theorem nRX9_22 : KN RX9 22 0 blRX2 := ⟨RX2, TX2, 2, tyX2, rfl, kwRX2, tyX2_ok, k_t (i := 53) (by decide +kernel) rfl, k_t (i := 54) (by decide +kernel) rfl, k_t (i := 3) (by decide +kernel) rfl, fun b j hj => by rcases (show j = 0 ∨ j = 1 by omega) with rfl | rfl <;> rfl, rfl⟩
theorem sRX9_24 : Cond.methodLink RX9 24 yX2_init ∈ k_tb := k_t (i := 55) (by decide +kernel) rfl
theorem qRX9_25 : KPF RX9 25 5 3 (.object RX2) true := ⟨RX9, TX9, 10, tyX9, rfl, by decide, kwRX9, k_t (i := 112) (by decide +kernel) rfl, tyX9_ok, nmX9, rfl, fun _ => rfl, by decide +kernel⟩
theorem nRX9_29 : KN RX9 29 2 blRX5 := ⟨RX5, TX5, 2, tyX5, rfl, kwRX5, tyX5_ok, k_t (i := 69) (by decide +kernel) rfl, k_t (i := 70) (by decide +kernel) rfl, k_t (i := 4) (by decide +kernel) rfl, fun b j hj => by rcases (show j = 0 ∨ j = 1 by omega) with rfl | rfl <;> rfl, rfl⟩
theorem qRX9_32 : KPF RX9 32 5 4 (.object RX5) true := ⟨RX9, TX9, 10, tyX9, rfl, by decide, kwRX9, k_t (i := 113) (by decide +kernel) rfl, tyX9_ok, nmX9, rfl, fun _ => rfl, by decide +kernel⟩
theorem nRX9_36 : KN RX9 36 1 blRX4 := ⟨RX4, TX4, 3, tyX4, rfl, kwRX4, tyX4_ok, k_t (i := 82) (by decide +kernel) rfl, k_t (i := 83) (by decide +kernel) rfl, k_t (i := 5) (by decide +kernel) rfl, fun b j hj => by rcases (show j = 0 ∨ j = 1 ∨ j = 2 by omega) with rfl | rfl | rfl <;> rfl, rfl⟩
theorem qRX9_39 : KPF RX9 39 5 5 (.object RX4) true := ⟨RX9, TX9, 10, tyX9, rfl, by decide, kwRX9, k_t (i := 114) (by decide +kernel) rfl, tyX9_ok, nmX9, rfl, fun _ => rfl, by decide +kernel⟩
theorem qRX9_43 : KPF RX9 43 5 6 .boolean false := ⟨RX9, TX9, 10, tyX9, rfl, by decide, kwRX9, k_t (i := 115) (by decide +kernel) rfl, tyX9_ok, nmX9, rfl, (fun z => by cases z), by decide +kernel⟩
theorem qRX9_47 : KPF RX9 47 5 7 .int false := ⟨RX9, TX9, 10, tyX9, rfl, by decide, kwRX9, k_t (i := 116) (by decide +kernel) rfl, tyX9_ok, nmX9, rfl, (fun z => by cases z), by decide +kernel⟩
theorem qRX9_51 : KPF RX9 51 5 8 .int false := ⟨RX9, TX9, 10, tyX9, rfl, by decide, kwRX9, k_t (i := 117) (by decide +kernel) rfl, tyX9_ok, nmX9, rfl, (fun z => by cases z), by decide +kernel⟩
theorem qRX9_54 : KPF RX9 54 5 9 .int false := ⟨RX9, TX9, 10, tyX9, rfl, by decide, kwRX9, k_t (i := 118) (by decide +kernel) rfl, tyX9_ok, nmX9, rfl, (fun z => by cases z), by decide +kernel⟩
theorem nRL_15 : KN RL 15 5 blRX9 := ⟨RX9, TX9, 10, tyX9, rfl, kwRX9, tyX9_ok, k_t (i := 12) (by decide +kernel) rfl, k_t (i := 13) (by decide +kernel) rfl, k_t (i := 1) (by decide +kernel) rfl, fun b j hj => by rcases (show j = 0 ∨ j = 1 ∨ j = 2 ∨ j = 3 ∨ j = 4 ∨ j = 5 ∨ j = 6 ∨ j = 7 ∨ j = 8 ∨ j = 9 by omega) with rfl | rfl | rfl | rfl | rfl | rfl | rfl | rfl | rfl | rfl <;> rfl, rfl⟩
theorem sRL_99 : Cond.methodLink RL 99 yX9_init ∈ k_tb := k_t (i := 14) (by decide +kernel) rfl
