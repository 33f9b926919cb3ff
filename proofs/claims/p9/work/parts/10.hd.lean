/-! THE METHODS: their heads and links, by the places of the words (printed by wip/gen/gen10.py). -/
def pm_hk (kind : Nat) (m2 : pm_M) : Prop := match kind with
  | 0 => pm_hd m2 (pm_n m2 - 1) ∧ Cond.instanceMethod (pm_y m2) ∈ lw_gt ∧ Cond.selects (pm_y m2).cls (pm_y m2) (pm_y m2) ∈ lw_gt ∧ kN (pm_o m2) = (pm_y m2).cls ∧ pm_o m2 < 8
  | 1 => pm_hd m2 (pm_n m2 - 1) ∧ Cond.instanceMethod (pm_y m2) ∈ lw_gt ∧ (pm_y m2).name = "<init>" ∧ pm_rt m2 = none
  | _ => pm_hd m2 (pm_n m2) ∧ Cond.static (pm_y m2) ∈ lw_gt
set_option maxRecDepth 100000 in
theorem hk_1 : pm_hk 1 m_1 := ⟨⟨lw_gi 79 rfl rfl, lw_gi 59 rfl rfl, by decide +kernel, by decide +kernel, by decide +kernel⟩, lw_gi 78 rfl rfl, rfl, rfl⟩
set_option maxRecDepth 100000 in
theorem hk_2 : pm_hk 1 m_2 := ⟨⟨lw_gi 87 rfl rfl, lw_gi 60 rfl rfl, by decide +kernel, by decide +kernel, by decide +kernel⟩, lw_gi 86 rfl rfl, rfl, rfl⟩
set_option maxRecDepth 100000 in
theorem hk_3 : pm_hk 1 m_3 := ⟨⟨lw_gi 118 rfl rfl, lw_gi 61 rfl rfl, by decide +kernel, by decide +kernel, by decide +kernel⟩, lw_gi 117 rfl rfl, rfl, rfl⟩
set_option maxRecDepth 100000 in
theorem hk_4 : pm_hk 1 m_4 := ⟨⟨lw_gi 124 rfl rfl, lw_gi 62 rfl rfl, by decide +kernel, by decide +kernel, by decide +kernel⟩, lw_gi 123 rfl rfl, rfl, rfl⟩
set_option maxRecDepth 100000 in
theorem hk_5 : pm_hk 0 m_5 := ⟨⟨lw_gi 129 rfl rfl, lw_gi 62 rfl rfl, by decide +kernel, by decide +kernel, by decide +kernel⟩, lw_gi 127 rfl rfl, lw_gi 128 rfl rfl, rfl, by decide⟩
set_option maxRecDepth 100000 in
theorem hk_6 : pm_hk 2 m_6 := ⟨⟨lw_gi 132 rfl rfl, lw_gi 63 rfl rfl, by decide +kernel, by decide +kernel, by decide +kernel⟩, lw_gi 131 rfl rfl⟩
set_option maxRecDepth 100000 in
theorem hk_7 : pm_hk 1 m_7 := ⟨⟨lw_gi 251 rfl rfl, lw_gi 64 rfl rfl, by decide +kernel, by decide +kernel, by decide +kernel⟩, lw_gi 250 rfl rfl, rfl, rfl⟩
set_option maxRecDepth 100000 in
theorem hk_8 : pm_hk 1 m_8 := ⟨⟨lw_gi 284 rfl rfl, lw_gi 65 rfl rfl, by decide +kernel, by decide +kernel, by decide +kernel⟩, lw_gi 283 rfl rfl, rfl, rfl⟩
set_option maxRecDepth 100000 in
theorem hk_9 : pm_hk 1 m_9 := ⟨⟨lw_gi 305 rfl rfl, lw_gi 66 rfl rfl, by decide +kernel, by decide +kernel, by decide +kernel⟩, lw_gi 304 rfl rfl, rfl, rfl⟩
set_option maxRecDepth 100000 in
theorem hk_10 : pm_hk 0 m_10 := ⟨⟨lw_gi 350 rfl rfl, lw_gi 59 rfl rfl, by decide +kernel, by decide +kernel, by decide +kernel⟩, lw_gi 348 rfl rfl, lw_gi 349 rfl rfl, rfl, by decide⟩
set_option maxRecDepth 100000 in
theorem hk_11 : pm_hk 0 m_11 := ⟨⟨lw_gi 354 rfl rfl, lw_gi 60 rfl rfl, by decide +kernel, by decide +kernel, by decide +kernel⟩, lw_gi 352 rfl rfl, lw_gi 353 rfl rfl, rfl, by decide⟩
set_option maxRecDepth 100000 in
theorem hk_12 : pm_hk 0 m_12 := ⟨⟨lw_gi 358 rfl rfl, lw_gi 59 rfl rfl, by decide +kernel, by decide +kernel, by decide +kernel⟩, lw_gi 356 rfl rfl, lw_gi 357 rfl rfl, rfl, by decide⟩
set_option maxRecDepth 100000 in
theorem hk_13 : pm_hk 0 m_13 := ⟨⟨lw_gi 362 rfl rfl, lw_gi 59 rfl rfl, by decide +kernel, by decide +kernel, by decide +kernel⟩, lw_gi 360 rfl rfl, lw_gi 361 rfl rfl, rfl, by decide⟩
set_option maxRecDepth 100000 in
theorem hk_14 : pm_hk 0 m_14 := ⟨⟨lw_gi 366 rfl rfl, lw_gi 61 rfl rfl, by decide +kernel, by decide +kernel, by decide +kernel⟩, lw_gi 364 rfl rfl, lw_gi 365 rfl rfl, rfl, by decide⟩
set_option maxRecDepth 100000 in
theorem hk_15 : pm_hk 0 m_15 := ⟨⟨lw_gi 371 rfl rfl, lw_gi 60 rfl rfl, by decide +kernel, by decide +kernel, by decide +kernel⟩, lw_gi 369 rfl rfl, lw_gi 370 rfl rfl, rfl, by decide⟩
set_option maxRecDepth 100000 in
theorem hk_16 : pm_hk 0 m_16 := ⟨⟨lw_gi 375 rfl rfl, lw_gi 60 rfl rfl, by decide +kernel, by decide +kernel, by decide +kernel⟩, lw_gi 373 rfl rfl, lw_gi 374 rfl rfl, rfl, by decide⟩
set_option maxRecDepth 100000 in
theorem hk_17 : pm_hk 2 m_17 := ⟨⟨lw_gi 378 rfl rfl, lw_gi 60 rfl rfl, by decide +kernel, by decide +kernel, by decide +kernel⟩, lw_gi 377 rfl rfl⟩
set_option maxRecDepth 100000 in
theorem hk_18 : pm_hk 0 m_18 := ⟨⟨lw_gi 382 rfl rfl, lw_gi 60 rfl rfl, by decide +kernel, by decide +kernel, by decide +kernel⟩, lw_gi 381 rfl rfl, lw_gi 0 rfl rfl, rfl, by decide⟩
set_option maxRecDepth 100000 in
theorem hk_19 : pm_hk 0 m_19 := ⟨⟨lw_gi 386 rfl rfl, lw_gi 61 rfl rfl, by decide +kernel, by decide +kernel, by decide +kernel⟩, lw_gi 385 rfl rfl, lw_gi 1 rfl rfl, rfl, by decide⟩
set_option maxRecDepth 100000 in
theorem hk_20 : pm_hk 0 m_20 := ⟨⟨lw_gi 390 rfl rfl, lw_gi 61 rfl rfl, by decide +kernel, by decide +kernel, by decide +kernel⟩, lw_gi 389 rfl rfl, lw_gi 2 rfl rfl, rfl, by decide⟩
set_option maxRecDepth 100000 in
theorem hk_21 : pm_hk 0 m_21 := ⟨⟨lw_gi 395 rfl rfl, lw_gi 60 rfl rfl, by decide +kernel, by decide +kernel, by decide +kernel⟩, lw_gi 393 rfl rfl, lw_gi 394 rfl rfl, rfl, by decide⟩
set_option maxRecDepth 100000 in
theorem hk_22 : pm_hk 0 m_22 := ⟨⟨lw_gi 447 rfl rfl, lw_gi 61 rfl rfl, by decide +kernel, by decide +kernel, by decide +kernel⟩, lw_gi 446 rfl rfl, lw_gi 3 rfl rfl, rfl, by decide⟩
set_option maxRecDepth 100000 in
theorem hk_23 : pm_hk 0 m_23 := ⟨⟨lw_gi 451 rfl rfl, lw_gi 61 rfl rfl, by decide +kernel, by decide +kernel, by decide +kernel⟩, lw_gi 450 rfl rfl, lw_gi 4 rfl rfl, rfl, by decide⟩
set_option maxRecDepth 100000 in
theorem hk_24 : pm_hk 0 m_24 := ⟨⟨lw_gi 455 rfl rfl, lw_gi 61 rfl rfl, by decide +kernel, by decide +kernel, by decide +kernel⟩, lw_gi 454 rfl rfl, lw_gi 5 rfl rfl, rfl, by decide⟩
set_option maxRecDepth 100000 in
theorem hk_25 : pm_hk 0 m_25 := ⟨⟨lw_gi 459 rfl rfl, lw_gi 61 rfl rfl, by decide +kernel, by decide +kernel, by decide +kernel⟩, lw_gi 458 rfl rfl, lw_gi 6 rfl rfl, rfl, by decide⟩
set_option maxRecDepth 100000 in
theorem hk_26 : pm_hk 0 m_26 := ⟨⟨lw_gi 464 rfl rfl, lw_gi 61 rfl rfl, by decide +kernel, by decide +kernel, by decide +kernel⟩, lw_gi 463 rfl rfl, lw_gi 7 rfl rfl, rfl, by decide⟩
set_option maxRecDepth 100000 in
theorem hk_27 : pm_hk 0 m_27 := ⟨⟨lw_gi 468 rfl rfl, lw_gi 61 rfl rfl, by decide +kernel, by decide +kernel, by decide +kernel⟩, lw_gi 467 rfl rfl, lw_gi 8 rfl rfl, rfl, by decide⟩
set_option maxRecDepth 100000 in
theorem hk_28 : pm_hk 0 m_28 := ⟨⟨lw_gi 472 rfl rfl, lw_gi 62 rfl rfl, by decide +kernel, by decide +kernel, by decide +kernel⟩, lw_gi 470 rfl rfl, lw_gi 471 rfl rfl, rfl, by decide⟩
set_option maxRecDepth 100000 in
theorem hk_29 : pm_hk 0 m_29 := ⟨⟨lw_gi 476 rfl rfl, lw_gi 62 rfl rfl, by decide +kernel, by decide +kernel, by decide +kernel⟩, lw_gi 474 rfl rfl, lw_gi 475 rfl rfl, rfl, by decide⟩
set_option maxRecDepth 100000 in
theorem hk_30 : pm_hk 0 m_30 := ⟨⟨lw_gi 480 rfl rfl, lw_gi 62 rfl rfl, by decide +kernel, by decide +kernel, by decide +kernel⟩, lw_gi 478 rfl rfl, lw_gi 479 rfl rfl, rfl, by decide⟩
set_option maxRecDepth 100000 in
theorem hk_31 : pm_hk 0 m_31 := ⟨⟨lw_gi 485 rfl rfl, lw_gi 61 rfl rfl, by decide +kernel, by decide +kernel, by decide +kernel⟩, lw_gi 484 rfl rfl, lw_gi 9 rfl rfl, rfl, by decide⟩
set_option maxRecDepth 100000 in
theorem hk_32 : pm_hk 0 m_32 := ⟨⟨lw_gi 489 rfl rfl, lw_gi 62 rfl rfl, by decide +kernel, by decide +kernel, by decide +kernel⟩, lw_gi 487 rfl rfl, lw_gi 488 rfl rfl, rfl, by decide⟩
set_option maxRecDepth 100000 in
theorem hk_33 : pm_hk 0 m_33 := ⟨⟨lw_gi 495 rfl rfl, lw_gi 61 rfl rfl, by decide +kernel, by decide +kernel, by decide +kernel⟩, lw_gi 494 rfl rfl, lw_gi 10 rfl rfl, rfl, by decide⟩
set_option maxRecDepth 100000 in
theorem hk_34 : pm_hk 0 m_34 := ⟨⟨lw_gi 500 rfl rfl, lw_gi 61 rfl rfl, by decide +kernel, by decide +kernel, by decide +kernel⟩, lw_gi 499 rfl rfl, lw_gi 11 rfl rfl, rfl, by decide⟩
set_option maxRecDepth 100000 in
theorem hk_35 : pm_hk 0 m_35 := ⟨⟨lw_gi 505 rfl rfl, lw_gi 61 rfl rfl, by decide +kernel, by decide +kernel, by decide +kernel⟩, lw_gi 504 rfl rfl, lw_gi 12 rfl rfl, rfl, by decide⟩
set_option maxRecDepth 100000 in
theorem hk_36 : pm_hk 0 m_36 := ⟨⟨lw_gi 509 rfl rfl, lw_gi 61 rfl rfl, by decide +kernel, by decide +kernel, by decide +kernel⟩, lw_gi 508 rfl rfl, lw_gi 13 rfl rfl, rfl, by decide⟩
set_option maxRecDepth 100000 in
theorem hk_37 : pm_hk 0 m_37 := ⟨⟨lw_gi 513 rfl rfl, lw_gi 61 rfl rfl, by decide +kernel, by decide +kernel, by decide +kernel⟩, lw_gi 512 rfl rfl, lw_gi 14 rfl rfl, rfl, by decide⟩
set_option maxRecDepth 100000 in
theorem hk_38 : pm_hk 0 m_38 := ⟨⟨lw_gi 517 rfl rfl, lw_gi 62 rfl rfl, by decide +kernel, by decide +kernel, by decide +kernel⟩, lw_gi 515 rfl rfl, lw_gi 516 rfl rfl, rfl, by decide⟩
set_option maxRecDepth 100000 in
theorem hk_39 : pm_hk 0 m_39 := ⟨⟨lw_gi 521 rfl rfl, lw_gi 62 rfl rfl, by decide +kernel, by decide +kernel, by decide +kernel⟩, lw_gi 519 rfl rfl, lw_gi 520 rfl rfl, rfl, by decide⟩
set_option maxRecDepth 100000 in
theorem hk_40 : pm_hk 0 m_40 := ⟨⟨lw_gi 525 rfl rfl, lw_gi 62 rfl rfl, by decide +kernel, by decide +kernel, by decide +kernel⟩, lw_gi 523 rfl rfl, lw_gi 524 rfl rfl, rfl, by decide⟩
set_option maxRecDepth 100000 in
theorem hk_41 : pm_hk 0 m_41 := ⟨⟨lw_gi 530 rfl rfl, lw_gi 62 rfl rfl, by decide +kernel, by decide +kernel, by decide +kernel⟩, lw_gi 528 rfl rfl, lw_gi 529 rfl rfl, rfl, by decide⟩
set_option maxRecDepth 100000 in
theorem hk_42 : pm_hk 0 m_42 := ⟨⟨lw_gi 534 rfl rfl, lw_gi 62 rfl rfl, by decide +kernel, by decide +kernel, by decide +kernel⟩, lw_gi 532 rfl rfl, lw_gi 533 rfl rfl, rfl, by decide⟩
set_option maxRecDepth 100000 in
theorem hk_43 : pm_hk 0 m_43 := ⟨⟨lw_gi 541 rfl rfl, lw_gi 59 rfl rfl, by decide +kernel, by decide +kernel, by decide +kernel⟩, lw_gi 539 rfl rfl, lw_gi 540 rfl rfl, rfl, by decide⟩
set_option maxRecDepth 100000 in
theorem hk_44 : pm_hk 0 m_44 := ⟨⟨lw_gi 545 rfl rfl, lw_gi 59 rfl rfl, by decide +kernel, by decide +kernel, by decide +kernel⟩, lw_gi 543 rfl rfl, lw_gi 544 rfl rfl, rfl, by decide⟩
set_option maxRecDepth 100000 in
theorem hk_45 : pm_hk 0 m_45 := ⟨⟨lw_gi 549 rfl rfl, lw_gi 59 rfl rfl, by decide +kernel, by decide +kernel, by decide +kernel⟩, lw_gi 547 rfl rfl, lw_gi 548 rfl rfl, rfl, by decide⟩
set_option maxRecDepth 100000 in
theorem hk_46 : pm_hk 0 m_46 := ⟨⟨lw_gi 554 rfl rfl, lw_gi 59 rfl rfl, by decide +kernel, by decide +kernel, by decide +kernel⟩, lw_gi 552 rfl rfl, lw_gi 553 rfl rfl, rfl, by decide⟩
set_option maxRecDepth 100000 in
theorem hk_47 : pm_hk 0 m_47 := ⟨⟨lw_gi 560 rfl rfl, lw_gi 59 rfl rfl, by decide +kernel, by decide +kernel, by decide +kernel⟩, lw_gi 558 rfl rfl, lw_gi 559 rfl rfl, rfl, by decide⟩
set_option maxRecDepth 100000 in
theorem hk_48 : pm_hk 2 m_48 := ⟨⟨lw_gi 563 rfl rfl, lw_gi 59 rfl rfl, by decide +kernel, by decide +kernel, by decide +kernel⟩, lw_gi 562 rfl rfl⟩
set_option maxRecDepth 100000 in
theorem hk_49 : pm_hk 0 m_49 := ⟨⟨lw_gi 567 rfl rfl, lw_gi 59 rfl rfl, by decide +kernel, by decide +kernel, by decide +kernel⟩, lw_gi 565 rfl rfl, lw_gi 566 rfl rfl, rfl, by decide⟩
set_option maxRecDepth 100000 in
theorem hk_50 : pm_hk 0 m_50 := ⟨⟨lw_gi 571 rfl rfl, lw_gi 62 rfl rfl, by decide +kernel, by decide +kernel, by decide +kernel⟩, lw_gi 569 rfl rfl, lw_gi 570 rfl rfl, rfl, by decide⟩
set_option maxRecDepth 100000 in
theorem hk_51 : pm_hk 0 m_51 := ⟨⟨lw_gi 576 rfl rfl, lw_gi 59 rfl rfl, by decide +kernel, by decide +kernel, by decide +kernel⟩, lw_gi 574 rfl rfl, lw_gi 575 rfl rfl, rfl, by decide⟩
set_option maxRecDepth 100000 in
theorem hk_52 : pm_hk 0 m_52 := ⟨⟨lw_gi 580 rfl rfl, lw_gi 59 rfl rfl, by decide +kernel, by decide +kernel, by decide +kernel⟩, lw_gi 578 rfl rfl, lw_gi 579 rfl rfl, rfl, by decide⟩
set_option maxRecDepth 100000 in
theorem hk_53 : pm_hk 0 m_53 := ⟨⟨lw_gi 584 rfl rfl, lw_gi 59 rfl rfl, by decide +kernel, by decide +kernel, by decide +kernel⟩, lw_gi 582 rfl rfl, lw_gi 583 rfl rfl, rfl, by decide⟩
set_option maxRecDepth 100000 in
theorem hk_54 : pm_hk 0 m_54 := ⟨⟨lw_gi 589 rfl rfl, lw_gi 59 rfl rfl, by decide +kernel, by decide +kernel, by decide +kernel⟩, lw_gi 587 rfl rfl, lw_gi 588 rfl rfl, rfl, by decide⟩
set_option maxRecDepth 100000 in
theorem hk_55 : pm_hk 0 m_55 := ⟨⟨lw_gi 593 rfl rfl, lw_gi 59 rfl rfl, by decide +kernel, by decide +kernel, by decide +kernel⟩, lw_gi 591 rfl rfl, lw_gi 592 rfl rfl, rfl, by decide⟩
set_option maxRecDepth 100000 in
theorem hk_56 : pm_hk 0 m_56 := ⟨⟨lw_gi 597 rfl rfl, lw_gi 59 rfl rfl, by decide +kernel, by decide +kernel, by decide +kernel⟩, lw_gi 595 rfl rfl, lw_gi 596 rfl rfl, rfl, by decide⟩
set_option maxRecDepth 100000 in
theorem hk_57 : pm_hk 2 m_57 := ⟨⟨lw_gi 600 rfl rfl, lw_gi 59 rfl rfl, by decide +kernel, by decide +kernel, by decide +kernel⟩, lw_gi 599 rfl rfl⟩
set_option maxRecDepth 100000 in
theorem hk_58 : pm_hk 0 m_58 := ⟨⟨lw_gi 604 rfl rfl, lw_gi 64 rfl rfl, by decide +kernel, by decide +kernel, by decide +kernel⟩, lw_gi 602 rfl rfl, lw_gi 603 rfl rfl, rfl, by decide⟩
set_option maxRecDepth 100000 in
theorem hk_59 : pm_hk 0 m_59 := ⟨⟨lw_gi 608 rfl rfl, lw_gi 62 rfl rfl, by decide +kernel, by decide +kernel, by decide +kernel⟩, lw_gi 606 rfl rfl, lw_gi 607 rfl rfl, rfl, by decide⟩
set_option maxRecDepth 100000 in
theorem hk_60 : pm_hk 0 m_60 := ⟨⟨lw_gi 612 rfl rfl, lw_gi 62 rfl rfl, by decide +kernel, by decide +kernel, by decide +kernel⟩, lw_gi 610 rfl rfl, lw_gi 611 rfl rfl, rfl, by decide⟩
set_option maxRecDepth 100000 in
theorem hk_61 : pm_hk 0 m_61 := ⟨⟨lw_gi 616 rfl rfl, lw_gi 64 rfl rfl, by decide +kernel, by decide +kernel, by decide +kernel⟩, lw_gi 615 rfl rfl, lw_gi 15 rfl rfl, rfl, by decide⟩
set_option maxRecDepth 100000 in
theorem hk_62 : pm_hk 2 m_62 := ⟨⟨lw_gi 619 rfl rfl, lw_gi 73 rfl rfl, by decide +kernel, by decide +kernel, by decide +kernel⟩, lw_gi 618 rfl rfl⟩
set_option maxRecDepth 100000 in
theorem hk_63 : pm_hk 2 m_63 := ⟨⟨lw_gi 622 rfl rfl, lw_gi 74 rfl rfl, by decide +kernel, by decide +kernel, by decide +kernel⟩, lw_gi 621 rfl rfl⟩
set_option maxRecDepth 100000 in
theorem hk_64 : pm_hk 2 m_64 := ⟨⟨lw_gi 625 rfl rfl, lw_gi 64 rfl rfl, by decide +kernel, by decide +kernel, by decide +kernel⟩, lw_gi 624 rfl rfl⟩
set_option maxRecDepth 100000 in
theorem hk_65 : pm_hk 0 m_65 := ⟨⟨lw_gi 629 rfl rfl, lw_gi 59 rfl rfl, by decide +kernel, by decide +kernel, by decide +kernel⟩, lw_gi 627 rfl rfl, lw_gi 628 rfl rfl, rfl, by decide⟩
set_option maxRecDepth 100000 in
theorem hk_66 : pm_hk 0 m_66 := ⟨⟨lw_gi 633 rfl rfl, lw_gi 59 rfl rfl, by decide +kernel, by decide +kernel, by decide +kernel⟩, lw_gi 631 rfl rfl, lw_gi 632 rfl rfl, rfl, by decide⟩
set_option maxRecDepth 100000 in
theorem hk_67 : pm_hk 0 m_67 := ⟨⟨lw_gi 637 rfl rfl, lw_gi 65 rfl rfl, by decide +kernel, by decide +kernel, by decide +kernel⟩, lw_gi 635 rfl rfl, lw_gi 636 rfl rfl, rfl, by decide⟩
set_option maxRecDepth 100000 in
theorem hk_68 : pm_hk 0 m_68 := ⟨⟨lw_gi 642 rfl rfl, lw_gi 64 rfl rfl, by decide +kernel, by decide +kernel, by decide +kernel⟩, lw_gi 640 rfl rfl, lw_gi 641 rfl rfl, rfl, by decide⟩
set_option maxRecDepth 100000 in
theorem hk_69 : pm_hk 0 m_69 := ⟨⟨lw_gi 647 rfl rfl, lw_gi 64 rfl rfl, by decide +kernel, by decide +kernel, by decide +kernel⟩, lw_gi 646 rfl rfl, lw_gi 16 rfl rfl, rfl, by decide⟩
set_option maxRecDepth 100000 in
theorem hk_70 : pm_hk 0 m_70 := ⟨⟨lw_gi 651 rfl rfl, lw_gi 64 rfl rfl, by decide +kernel, by decide +kernel, by decide +kernel⟩, lw_gi 650 rfl rfl, lw_gi 17 rfl rfl, rfl, by decide⟩
set_option maxRecDepth 100000 in
theorem hk_71 : pm_hk 0 m_71 := ⟨⟨lw_gi 655 rfl rfl, lw_gi 64 rfl rfl, by decide +kernel, by decide +kernel, by decide +kernel⟩, lw_gi 654 rfl rfl, lw_gi 18 rfl rfl, rfl, by decide⟩
set_option maxRecDepth 100000 in
theorem hk_72 : pm_hk 2 m_72 := ⟨⟨lw_gi 658 rfl rfl, lw_gi 59 rfl rfl, by decide +kernel, by decide +kernel, by decide +kernel⟩, lw_gi 657 rfl rfl⟩
set_option maxRecDepth 100000 in
theorem hk_73 : pm_hk 0 m_73 := ⟨⟨lw_gi 662 rfl rfl, lw_gi 64 rfl rfl, by decide +kernel, by decide +kernel, by decide +kernel⟩, lw_gi 660 rfl rfl, lw_gi 661 rfl rfl, rfl, by decide⟩
set_option maxRecDepth 100000 in
theorem hk_74 : pm_hk 0 m_74 := ⟨⟨lw_gi 666 rfl rfl, lw_gi 59 rfl rfl, by decide +kernel, by decide +kernel, by decide +kernel⟩, lw_gi 664 rfl rfl, lw_gi 665 rfl rfl, rfl, by decide⟩
set_option maxRecDepth 100000 in
theorem hk_75 : pm_hk 0 m_75 := ⟨⟨lw_gi 671 rfl rfl, lw_gi 59 rfl rfl, by decide +kernel, by decide +kernel, by decide +kernel⟩, lw_gi 669 rfl rfl, lw_gi 670 rfl rfl, rfl, by decide⟩
set_option maxRecDepth 100000 in
theorem hk_76 : pm_hk 0 m_76 := ⟨⟨lw_gi 675 rfl rfl, lw_gi 64 rfl rfl, by decide +kernel, by decide +kernel, by decide +kernel⟩, lw_gi 673 rfl rfl, lw_gi 674 rfl rfl, rfl, by decide⟩
set_option maxRecDepth 100000 in
theorem hk_77 : pm_hk 0 m_77 := ⟨⟨lw_gi 680 rfl rfl, lw_gi 64 rfl rfl, by decide +kernel, by decide +kernel, by decide +kernel⟩, lw_gi 678 rfl rfl, lw_gi 679 rfl rfl, rfl, by decide⟩
set_option maxRecDepth 100000 in
theorem hk_78 : pm_hk 0 m_78 := ⟨⟨lw_gi 684 rfl rfl, lw_gi 62 rfl rfl, by decide +kernel, by decide +kernel, by decide +kernel⟩, lw_gi 682 rfl rfl, lw_gi 683 rfl rfl, rfl, by decide⟩
set_option maxRecDepth 100000 in
theorem hk_79 : pm_hk 0 m_79 := ⟨⟨lw_gi 688 rfl rfl, lw_gi 59 rfl rfl, by decide +kernel, by decide +kernel, by decide +kernel⟩, lw_gi 686 rfl rfl, lw_gi 687 rfl rfl, rfl, by decide⟩
set_option maxRecDepth 100000 in
theorem hk_80 : pm_hk 0 m_80 := ⟨⟨lw_gi 692 rfl rfl, lw_gi 65 rfl rfl, by decide +kernel, by decide +kernel, by decide +kernel⟩, lw_gi 690 rfl rfl, lw_gi 691 rfl rfl, rfl, by decide⟩
set_option maxRecDepth 100000 in
theorem hk_81 : pm_hk 0 m_81 := ⟨⟨lw_gi 697 rfl rfl, lw_gi 59 rfl rfl, by decide +kernel, by decide +kernel, by decide +kernel⟩, lw_gi 695 rfl rfl, lw_gi 696 rfl rfl, rfl, by decide⟩
set_option maxRecDepth 100000 in
theorem hk_82 : pm_hk 0 m_82 := ⟨⟨lw_gi 701 rfl rfl, lw_gi 65 rfl rfl, by decide +kernel, by decide +kernel, by decide +kernel⟩, lw_gi 699 rfl rfl, lw_gi 700 rfl rfl, rfl, by decide⟩
set_option maxRecDepth 100000 in
theorem hk_83 : pm_hk 0 m_83 := ⟨⟨lw_gi 705 rfl rfl, lw_gi 65 rfl rfl, by decide +kernel, by decide +kernel, by decide +kernel⟩, lw_gi 704 rfl rfl, lw_gi 19 rfl rfl, rfl, by decide⟩
set_option maxRecDepth 100000 in
theorem hk_84 : pm_hk 0 m_84 := ⟨⟨lw_gi 710 rfl rfl, lw_gi 59 rfl rfl, by decide +kernel, by decide +kernel, by decide +kernel⟩, lw_gi 708 rfl rfl, lw_gi 709 rfl rfl, rfl, by decide⟩
set_option maxRecDepth 100000 in
theorem hk_85 : pm_hk 0 m_85 := ⟨⟨lw_gi 714 rfl rfl, lw_gi 65 rfl rfl, by decide +kernel, by decide +kernel, by decide +kernel⟩, lw_gi 712 rfl rfl, lw_gi 713 rfl rfl, rfl, by decide⟩
set_option maxRecDepth 100000 in
theorem hk_86 : pm_hk 0 m_86 := ⟨⟨lw_gi 718 rfl rfl, lw_gi 62 rfl rfl, by decide +kernel, by decide +kernel, by decide +kernel⟩, lw_gi 716 rfl rfl, lw_gi 717 rfl rfl, rfl, by decide⟩
set_option maxRecDepth 100000 in
theorem hk_87 : pm_hk 2 m_87 := ⟨⟨lw_gi 722 rfl rfl, lw_gi 65 rfl rfl, by decide +kernel, by decide +kernel, by decide +kernel⟩, lw_gi 721 rfl rfl⟩
set_option maxRecDepth 100000 in
theorem hk_88 : pm_hk 2 m_88 := ⟨⟨lw_gi 725 rfl rfl, lw_gi 65 rfl rfl, by decide +kernel, by decide +kernel, by decide +kernel⟩, lw_gi 724 rfl rfl⟩
set_option maxRecDepth 100000 in
theorem hk_89 : pm_hk 0 m_89 := ⟨⟨lw_gi 729 rfl rfl, lw_gi 59 rfl rfl, by decide +kernel, by decide +kernel, by decide +kernel⟩, lw_gi 727 rfl rfl, lw_gi 728 rfl rfl, rfl, by decide⟩
set_option maxRecDepth 100000 in
theorem hk_90 : pm_hk 2 m_90 := ⟨⟨lw_gi 732 rfl rfl, lw_gi 59 rfl rfl, by decide +kernel, by decide +kernel, by decide +kernel⟩, lw_gi 731 rfl rfl⟩
set_option maxRecDepth 100000 in
theorem hk_91 : pm_hk 0 m_91 := ⟨⟨lw_gi 736 rfl rfl, lw_gi 59 rfl rfl, by decide +kernel, by decide +kernel, by decide +kernel⟩, lw_gi 735 rfl rfl, lw_gi 20 rfl rfl, rfl, by decide⟩
set_option maxRecDepth 100000 in
theorem hk_92 : pm_hk 0 m_92 := ⟨⟨lw_gi 740 rfl rfl, lw_gi 65 rfl rfl, by decide +kernel, by decide +kernel, by decide +kernel⟩, lw_gi 738 rfl rfl, lw_gi 739 rfl rfl, rfl, by decide⟩
set_option maxRecDepth 100000 in
theorem hk_93 : pm_hk 2 m_93 := ⟨⟨lw_gi 743 rfl rfl, lw_gi 59 rfl rfl, by decide +kernel, by decide +kernel, by decide +kernel⟩, lw_gi 742 rfl rfl⟩
set_option maxRecDepth 100000 in
theorem hk_94 : pm_hk 0 m_94 := ⟨⟨lw_gi 747 rfl rfl, lw_gi 62 rfl rfl, by decide +kernel, by decide +kernel, by decide +kernel⟩, lw_gi 745 rfl rfl, lw_gi 746 rfl rfl, rfl, by decide⟩
set_option maxRecDepth 100000 in
theorem hk_95 : pm_hk 0 m_95 := ⟨⟨lw_gi 751 rfl rfl, lw_gi 62 rfl rfl, by decide +kernel, by decide +kernel, by decide +kernel⟩, lw_gi 749 rfl rfl, lw_gi 750 rfl rfl, rfl, by decide⟩
set_option maxRecDepth 100000 in
theorem hk_96 : pm_hk 2 m_96 := ⟨⟨lw_gi 754 rfl rfl, lw_gi 59 rfl rfl, by decide +kernel, by decide +kernel, by decide +kernel⟩, lw_gi 753 rfl rfl⟩
set_option maxRecDepth 100000 in
theorem hk_97 : pm_hk 0 m_97 := ⟨⟨lw_gi 758 rfl rfl, lw_gi 65 rfl rfl, by decide +kernel, by decide +kernel, by decide +kernel⟩, lw_gi 757 rfl rfl, lw_gi 21 rfl rfl, rfl, by decide⟩
set_option maxRecDepth 100000 in
theorem hk_98 : pm_hk 0 m_98 := ⟨⟨lw_gi 763 rfl rfl, lw_gi 62 rfl rfl, by decide +kernel, by decide +kernel, by decide +kernel⟩, lw_gi 761 rfl rfl, lw_gi 762 rfl rfl, rfl, by decide⟩
set_option maxRecDepth 100000 in
theorem hk_99 : pm_hk 0 m_99 := ⟨⟨lw_gi 767 rfl rfl, lw_gi 62 rfl rfl, by decide +kernel, by decide +kernel, by decide +kernel⟩, lw_gi 765 rfl rfl, lw_gi 766 rfl rfl, rfl, by decide⟩
set_option maxRecDepth 100000 in
theorem hk_100 : pm_hk 0 m_100 := ⟨⟨lw_gi 772 rfl rfl, lw_gi 62 rfl rfl, by decide +kernel, by decide +kernel, by decide +kernel⟩, lw_gi 770 rfl rfl, lw_gi 771 rfl rfl, rfl, by decide⟩
set_option maxRecDepth 100000 in
theorem hk_101 : pm_hk 0 m_101 := ⟨⟨lw_gi 778 rfl rfl, lw_gi 59 rfl rfl, by decide +kernel, by decide +kernel, by decide +kernel⟩, lw_gi 776 rfl rfl, lw_gi 777 rfl rfl, rfl, by decide⟩
set_option maxRecDepth 100000 in
theorem hk_102 : pm_hk 0 m_102 := ⟨⟨lw_gi 782 rfl rfl, lw_gi 65 rfl rfl, by decide +kernel, by decide +kernel, by decide +kernel⟩, lw_gi 780 rfl rfl, lw_gi 781 rfl rfl, rfl, by decide⟩
set_option maxRecDepth 100000 in
theorem hk_103 : pm_hk 0 m_103 := ⟨⟨lw_gi 786 rfl rfl, lw_gi 62 rfl rfl, by decide +kernel, by decide +kernel, by decide +kernel⟩, lw_gi 784 rfl rfl, lw_gi 785 rfl rfl, rfl, by decide⟩
set_option maxRecDepth 100000 in
theorem hk_104 : pm_hk 0 m_104 := ⟨⟨lw_gi 790 rfl rfl, lw_gi 59 rfl rfl, by decide +kernel, by decide +kernel, by decide +kernel⟩, lw_gi 788 rfl rfl, lw_gi 789 rfl rfl, rfl, by decide⟩
set_option maxRecDepth 100000 in
theorem hk_105 : pm_hk 0 m_105 := ⟨⟨lw_gi 794 rfl rfl, lw_gi 65 rfl rfl, by decide +kernel, by decide +kernel, by decide +kernel⟩, lw_gi 792 rfl rfl, lw_gi 793 rfl rfl, rfl, by decide⟩
set_option maxRecDepth 100000 in
theorem hk_106 : pm_hk 0 m_106 := ⟨⟨lw_gi 800 rfl rfl, lw_gi 59 rfl rfl, by decide +kernel, by decide +kernel, by decide +kernel⟩, lw_gi 798 rfl rfl, lw_gi 799 rfl rfl, rfl, by decide⟩
set_option maxRecDepth 100000 in
theorem hk_107 : pm_hk 0 m_107 := ⟨⟨lw_gi 804 rfl rfl, lw_gi 65 rfl rfl, by decide +kernel, by decide +kernel, by decide +kernel⟩, lw_gi 802 rfl rfl, lw_gi 803 rfl rfl, rfl, by decide⟩
set_option maxRecDepth 100000 in
theorem hk_108 : pm_hk 0 m_108 := ⟨⟨lw_gi 808 rfl rfl, lw_gi 65 rfl rfl, by decide +kernel, by decide +kernel, by decide +kernel⟩, lw_gi 807 rfl rfl, lw_gi 22 rfl rfl, rfl, by decide⟩
set_option maxRecDepth 100000 in
theorem hk_109 : pm_hk 0 m_109 := ⟨⟨lw_gi 813 rfl rfl, lw_gi 62 rfl rfl, by decide +kernel, by decide +kernel, by decide +kernel⟩, lw_gi 811 rfl rfl, lw_gi 812 rfl rfl, rfl, by decide⟩
set_option maxRecDepth 100000 in
theorem hk_110 : pm_hk 0 m_110 := ⟨⟨lw_gi 821 rfl rfl, lw_gi 59 rfl rfl, by decide +kernel, by decide +kernel, by decide +kernel⟩, lw_gi 819 rfl rfl, lw_gi 820 rfl rfl, rfl, by decide⟩
set_option maxRecDepth 100000 in
theorem hk_111 : pm_hk 0 m_111 := ⟨⟨lw_gi 825 rfl rfl, lw_gi 65 rfl rfl, by decide +kernel, by decide +kernel, by decide +kernel⟩, lw_gi 823 rfl rfl, lw_gi 824 rfl rfl, rfl, by decide⟩
set_option maxRecDepth 100000 in
theorem hk_112 : pm_hk 0 m_112 := ⟨⟨lw_gi 833 rfl rfl, lw_gi 59 rfl rfl, by decide +kernel, by decide +kernel, by decide +kernel⟩, lw_gi 831 rfl rfl, lw_gi 832 rfl rfl, rfl, by decide⟩
set_option maxRecDepth 100000 in
theorem hk_113 : pm_hk 0 m_113 := ⟨⟨lw_gi 838 rfl rfl, lw_gi 65 rfl rfl, by decide +kernel, by decide +kernel, by decide +kernel⟩, lw_gi 836 rfl rfl, lw_gi 837 rfl rfl, rfl, by decide⟩
set_option maxRecDepth 100000 in
theorem hk_114 : pm_hk 2 m_114 := ⟨⟨lw_gi 841 rfl rfl, lw_gi 65 rfl rfl, by decide +kernel, by decide +kernel, by decide +kernel⟩, lw_gi 840 rfl rfl⟩
set_option maxRecDepth 100000 in
theorem hk_115 : pm_hk 0 m_115 := ⟨⟨lw_gi 845 rfl rfl, lw_gi 65 rfl rfl, by decide +kernel, by decide +kernel, by decide +kernel⟩, lw_gi 844 rfl rfl, lw_gi 23 rfl rfl, rfl, by decide⟩
set_option maxRecDepth 100000 in
theorem hk_116 : pm_hk 0 m_116 := ⟨⟨lw_gi 850 rfl rfl, lw_gi 62 rfl rfl, by decide +kernel, by decide +kernel, by decide +kernel⟩, lw_gi 848 rfl rfl, lw_gi 849 rfl rfl, rfl, by decide⟩
set_option maxRecDepth 100000 in
theorem hk_117 : pm_hk 2 m_117 := ⟨⟨lw_gi 854 rfl rfl, lw_gi 59 rfl rfl, by decide +kernel, by decide +kernel, by decide +kernel⟩, lw_gi 853 rfl rfl⟩
set_option maxRecDepth 100000 in
theorem hk_118 : pm_hk 0 m_118 := ⟨⟨lw_gi 858 rfl rfl, lw_gi 59 rfl rfl, by decide +kernel, by decide +kernel, by decide +kernel⟩, lw_gi 856 rfl rfl, lw_gi 857 rfl rfl, rfl, by decide⟩
set_option maxRecDepth 100000 in
theorem hk_119 : pm_hk 0 m_119 := ⟨⟨lw_gi 862 rfl rfl, lw_gi 59 rfl rfl, by decide +kernel, by decide +kernel, by decide +kernel⟩, lw_gi 860 rfl rfl, lw_gi 861 rfl rfl, rfl, by decide⟩
set_option maxRecDepth 100000 in
theorem hk_120 : pm_hk 0 m_120 := ⟨⟨lw_gi 866 rfl rfl, lw_gi 59 rfl rfl, by decide +kernel, by decide +kernel, by decide +kernel⟩, lw_gi 864 rfl rfl, lw_gi 865 rfl rfl, rfl, by decide⟩
set_option maxRecDepth 100000 in
theorem hk_121 : pm_hk 0 m_121 := ⟨⟨lw_gi 870 rfl rfl, lw_gi 65 rfl rfl, by decide +kernel, by decide +kernel, by decide +kernel⟩, lw_gi 868 rfl rfl, lw_gi 869 rfl rfl, rfl, by decide⟩
set_option maxRecDepth 100000 in
theorem hk_122 : pm_hk 0 m_122 := ⟨⟨lw_gi 874 rfl rfl, lw_gi 65 rfl rfl, by decide +kernel, by decide +kernel, by decide +kernel⟩, lw_gi 873 rfl rfl, lw_gi 24 rfl rfl, rfl, by decide⟩
set_option maxRecDepth 100000 in
theorem hk_123 : pm_hk 0 m_123 := ⟨⟨lw_gi 878 rfl rfl, lw_gi 64 rfl rfl, by decide +kernel, by decide +kernel, by decide +kernel⟩, lw_gi 876 rfl rfl, lw_gi 877 rfl rfl, rfl, by decide⟩
set_option maxRecDepth 100000 in
theorem hk_124 : pm_hk 0 m_124 := ⟨⟨lw_gi 883 rfl rfl, lw_gi 65 rfl rfl, by decide +kernel, by decide +kernel, by decide +kernel⟩, lw_gi 881 rfl rfl, lw_gi 882 rfl rfl, rfl, by decide⟩
set_option maxRecDepth 100000 in
theorem hk_125 : pm_hk 0 m_125 := ⟨⟨lw_gi 888 rfl rfl, lw_gi 59 rfl rfl, by decide +kernel, by decide +kernel, by decide +kernel⟩, lw_gi 886 rfl rfl, lw_gi 887 rfl rfl, rfl, by decide⟩
set_option maxRecDepth 100000 in
theorem hk_126 : pm_hk 0 m_126 := ⟨⟨lw_gi 892 rfl rfl, lw_gi 65 rfl rfl, by decide +kernel, by decide +kernel, by decide +kernel⟩, lw_gi 890 rfl rfl, lw_gi 891 rfl rfl, rfl, by decide⟩
set_option maxRecDepth 100000 in
theorem hk_127 : pm_hk 2 m_127 := ⟨⟨lw_gi 896 rfl rfl, lw_gi 74 rfl rfl, by decide +kernel, by decide +kernel, by decide +kernel⟩, lw_gi 895 rfl rfl⟩
set_option maxRecDepth 100000 in
theorem hk_128 : pm_hk 0 m_128 := ⟨⟨lw_gi 903 rfl rfl, lw_gi 59 rfl rfl, by decide +kernel, by decide +kernel, by decide +kernel⟩, lw_gi 901 rfl rfl, lw_gi 902 rfl rfl, rfl, by decide⟩
set_option maxRecDepth 100000 in
theorem hk_129 : pm_hk 0 m_129 := ⟨⟨lw_gi 907 rfl rfl, lw_gi 59 rfl rfl, by decide +kernel, by decide +kernel, by decide +kernel⟩, lw_gi 905 rfl rfl, lw_gi 906 rfl rfl, rfl, by decide⟩
set_option maxRecDepth 100000 in
theorem hk_130 : pm_hk 0 m_130 := ⟨⟨lw_gi 911 rfl rfl, lw_gi 59 rfl rfl, by decide +kernel, by decide +kernel, by decide +kernel⟩, lw_gi 909 rfl rfl, lw_gi 910 rfl rfl, rfl, by decide⟩
set_option maxRecDepth 100000 in
theorem hk_131 : pm_hk 2 m_131 := ⟨⟨lw_gi 914 rfl rfl, lw_gi 59 rfl rfl, by decide +kernel, by decide +kernel, by decide +kernel⟩, lw_gi 913 rfl rfl⟩
set_option maxRecDepth 100000 in
theorem hk_132 : pm_hk 2 m_132 := ⟨⟨lw_gi 917 rfl rfl, lw_gi 59 rfl rfl, by decide +kernel, by decide +kernel, by decide +kernel⟩, lw_gi 916 rfl rfl⟩
set_option maxRecDepth 100000 in
theorem hk_133 : pm_hk 0 m_133 := ⟨⟨lw_gi 921 rfl rfl, lw_gi 66 rfl rfl, by decide +kernel, by decide +kernel, by decide +kernel⟩, lw_gi 919 rfl rfl, lw_gi 920 rfl rfl, rfl, by decide⟩
set_option maxRecDepth 100000 in
theorem hk_134 : pm_hk 0 m_134 := ⟨⟨lw_gi 926 rfl rfl, lw_gi 59 rfl rfl, by decide +kernel, by decide +kernel, by decide +kernel⟩, lw_gi 924 rfl rfl, lw_gi 925 rfl rfl, rfl, by decide⟩
set_option maxRecDepth 100000 in
theorem hk_135 : pm_hk 0 m_135 := ⟨⟨lw_gi 930 rfl rfl, lw_gi 66 rfl rfl, by decide +kernel, by decide +kernel, by decide +kernel⟩, lw_gi 928 rfl rfl, lw_gi 929 rfl rfl, rfl, by decide⟩
set_option maxRecDepth 100000 in
theorem hk_136 : pm_hk 0 m_136 := ⟨⟨lw_gi 934 rfl rfl, lw_gi 66 rfl rfl, by decide +kernel, by decide +kernel, by decide +kernel⟩, lw_gi 932 rfl rfl, lw_gi 933 rfl rfl, rfl, by decide⟩
set_option maxRecDepth 100000 in
theorem hk_137 : pm_hk 0 m_137 := ⟨⟨lw_gi 938 rfl rfl, lw_gi 66 rfl rfl, by decide +kernel, by decide +kernel, by decide +kernel⟩, lw_gi 936 rfl rfl, lw_gi 937 rfl rfl, rfl, by decide⟩
set_option maxRecDepth 100000 in
theorem hk_138 : pm_hk 0 m_138 := ⟨⟨lw_gi 942 rfl rfl, lw_gi 59 rfl rfl, by decide +kernel, by decide +kernel, by decide +kernel⟩, lw_gi 940 rfl rfl, lw_gi 941 rfl rfl, rfl, by decide⟩
set_option maxRecDepth 100000 in
theorem hk_139 : pm_hk 0 m_139 := ⟨⟨lw_gi 946 rfl rfl, lw_gi 66 rfl rfl, by decide +kernel, by decide +kernel, by decide +kernel⟩, lw_gi 944 rfl rfl, lw_gi 945 rfl rfl, rfl, by decide⟩
set_option maxRecDepth 100000 in
theorem hk_140 : pm_hk 0 m_140 := ⟨⟨lw_gi 950 rfl rfl, lw_gi 66 rfl rfl, by decide +kernel, by decide +kernel, by decide +kernel⟩, lw_gi 948 rfl rfl, lw_gi 949 rfl rfl, rfl, by decide⟩
set_option maxRecDepth 100000 in
theorem hk_141 : pm_hk 0 m_141 := ⟨⟨lw_gi 955 rfl rfl, lw_gi 59 rfl rfl, by decide +kernel, by decide +kernel, by decide +kernel⟩, lw_gi 954 rfl rfl, lw_gi 25 rfl rfl, rfl, by decide⟩
set_option maxRecDepth 100000 in
theorem hk_142 : pm_hk 0 m_142 := ⟨⟨lw_gi 959 rfl rfl, lw_gi 59 rfl rfl, by decide +kernel, by decide +kernel, by decide +kernel⟩, lw_gi 957 rfl rfl, lw_gi 958 rfl rfl, rfl, by decide⟩
set_option maxRecDepth 100000 in
theorem hk_143 : pm_hk 0 m_143 := ⟨⟨lw_gi 963 rfl rfl, lw_gi 59 rfl rfl, by decide +kernel, by decide +kernel, by decide +kernel⟩, lw_gi 961 rfl rfl, lw_gi 962 rfl rfl, rfl, by decide⟩
set_option maxRecDepth 100000 in
theorem hk_144 : pm_hk 0 m_144 := ⟨⟨lw_gi 970 rfl rfl, lw_gi 62 rfl rfl, by decide +kernel, by decide +kernel, by decide +kernel⟩, lw_gi 968 rfl rfl, lw_gi 969 rfl rfl, rfl, by decide⟩
set_option maxRecDepth 100000 in
theorem hk_145 : pm_hk 1 m_145 := ⟨⟨lw_gi 975 rfl rfl, lw_gi 67 rfl rfl, by decide +kernel, by decide +kernel, by decide +kernel⟩, lw_gi 974 rfl rfl, rfl, rfl⟩
set_option maxRecDepth 100000 in
theorem hk_146 : pm_hk 0 m_146 := ⟨⟨lw_gi 980 rfl rfl, lw_gi 67 rfl rfl, by decide +kernel, by decide +kernel, by decide +kernel⟩, lw_gi 979 rfl rfl, lw_gi 26 rfl rfl, rfl, by decide⟩
set_option maxRecDepth 100000 in
theorem hk_147 : pm_hk 0 m_147 := ⟨⟨lw_gi 984 rfl rfl, lw_gi 67 rfl rfl, by decide +kernel, by decide +kernel, by decide +kernel⟩, lw_gi 983 rfl rfl, lw_gi 27 rfl rfl, rfl, by decide⟩
set_option maxRecDepth 100000 in
theorem hk_148 : pm_hk 0 m_148 := ⟨⟨lw_gi 1095 rfl rfl, lw_gi 67 rfl rfl, by decide +kernel, by decide +kernel, by decide +kernel⟩, lw_gi 1093 rfl rfl, lw_gi 1094 rfl rfl, rfl, by decide⟩
set_option maxRecDepth 100000 in
theorem hk_149 : pm_hk 2 m_149 := ⟨⟨lw_gi 1099 rfl rfl, lw_gi 67 rfl rfl, by decide +kernel, by decide +kernel, by decide +kernel⟩, lw_gi 1098 rfl rfl⟩
set_option maxRecDepth 100000 in
theorem hk_150 : pm_hk 0 m_150 := ⟨⟨lw_gi 1103 rfl rfl, lw_gi 67 rfl rfl, by decide +kernel, by decide +kernel, by decide +kernel⟩, lw_gi 1101 rfl rfl, lw_gi 1102 rfl rfl, rfl, by decide⟩
set_option maxRecDepth 100000 in
theorem hk_151 : pm_hk 0 m_151 := ⟨⟨lw_gi 1107 rfl rfl, lw_gi 67 rfl rfl, by decide +kernel, by decide +kernel, by decide +kernel⟩, lw_gi 1105 rfl rfl, lw_gi 1106 rfl rfl, rfl, by decide⟩
set_option maxRecDepth 100000 in
theorem hk_152 : pm_hk 0 m_152 := ⟨⟨lw_gi 1111 rfl rfl, lw_gi 67 rfl rfl, by decide +kernel, by decide +kernel, by decide +kernel⟩, lw_gi 1110 rfl rfl, lw_gi 28 rfl rfl, rfl, by decide⟩
set_option maxRecDepth 100000 in
theorem hk_153 : pm_hk 0 m_153 := ⟨⟨lw_gi 1115 rfl rfl, lw_gi 67 rfl rfl, by decide +kernel, by decide +kernel, by decide +kernel⟩, lw_gi 1114 rfl rfl, lw_gi 29 rfl rfl, rfl, by decide⟩
set_option maxRecDepth 100000 in
theorem hk_154 : pm_hk 0 m_154 := ⟨⟨lw_gi 1123 rfl rfl, lw_gi 67 rfl rfl, by decide +kernel, by decide +kernel, by decide +kernel⟩, lw_gi 1122 rfl rfl, lw_gi 30 rfl rfl, rfl, by decide⟩
set_option maxRecDepth 100000 in
theorem hk_155 : pm_hk 0 m_155 := ⟨⟨lw_gi 1127 rfl rfl, lw_gi 67 rfl rfl, by decide +kernel, by decide +kernel, by decide +kernel⟩, lw_gi 1126 rfl rfl, lw_gi 31 rfl rfl, rfl, by decide⟩
set_option maxRecDepth 100000 in
theorem hk_156 : pm_hk 0 m_156 := ⟨⟨lw_gi 1131 rfl rfl, lw_gi 67 rfl rfl, by decide +kernel, by decide +kernel, by decide +kernel⟩, lw_gi 1130 rfl rfl, lw_gi 32 rfl rfl, rfl, by decide⟩
set_option maxRecDepth 100000 in
theorem hk_157 : pm_hk 0 m_157 := ⟨⟨lw_gi 1135 rfl rfl, lw_gi 67 rfl rfl, by decide +kernel, by decide +kernel, by decide +kernel⟩, lw_gi 1134 rfl rfl, lw_gi 33 rfl rfl, rfl, by decide⟩
set_option maxRecDepth 100000 in
theorem hk_158 : pm_hk 0 m_158 := ⟨⟨lw_gi 1139 rfl rfl, lw_gi 67 rfl rfl, by decide +kernel, by decide +kernel, by decide +kernel⟩, lw_gi 1138 rfl rfl, lw_gi 34 rfl rfl, rfl, by decide⟩
set_option maxRecDepth 100000 in
theorem hk_159 : pm_hk 0 m_159 := ⟨⟨lw_gi 1143 rfl rfl, lw_gi 67 rfl rfl, by decide +kernel, by decide +kernel, by decide +kernel⟩, lw_gi 1142 rfl rfl, lw_gi 35 rfl rfl, rfl, by decide⟩
set_option maxRecDepth 100000 in
theorem hk_160 : pm_hk 0 m_160 := ⟨⟨lw_gi 1147 rfl rfl, lw_gi 67 rfl rfl, by decide +kernel, by decide +kernel, by decide +kernel⟩, lw_gi 1146 rfl rfl, lw_gi 36 rfl rfl, rfl, by decide⟩
set_option maxRecDepth 100000 in
theorem hk_161 : pm_hk 0 m_161 := ⟨⟨lw_gi 1151 rfl rfl, lw_gi 67 rfl rfl, by decide +kernel, by decide +kernel, by decide +kernel⟩, lw_gi 1150 rfl rfl, lw_gi 37 rfl rfl, rfl, by decide⟩
set_option maxRecDepth 100000 in
theorem hk_162 : pm_hk 0 m_162 := ⟨⟨lw_gi 1155 rfl rfl, lw_gi 67 rfl rfl, by decide +kernel, by decide +kernel, by decide +kernel⟩, lw_gi 1154 rfl rfl, lw_gi 38 rfl rfl, rfl, by decide⟩
set_option maxRecDepth 100000 in
theorem hk_163 : pm_hk 0 m_163 := ⟨⟨lw_gi 1159 rfl rfl, lw_gi 67 rfl rfl, by decide +kernel, by decide +kernel, by decide +kernel⟩, lw_gi 1158 rfl rfl, lw_gi 39 rfl rfl, rfl, by decide⟩
set_option maxRecDepth 100000 in
theorem hk_164 : pm_hk 2 m_164 := ⟨⟨lw_gi 1162 rfl rfl, lw_gi 67 rfl rfl, by decide +kernel, by decide +kernel, by decide +kernel⟩, lw_gi 1161 rfl rfl⟩
set_option maxRecDepth 100000 in
theorem hk_165 : pm_hk 0 m_165 := ⟨⟨lw_gi 1166 rfl rfl, lw_gi 67 rfl rfl, by decide +kernel, by decide +kernel, by decide +kernel⟩, lw_gi 1165 rfl rfl, lw_gi 40 rfl rfl, rfl, by decide⟩
set_option maxRecDepth 100000 in
theorem hk_166 : pm_hk 0 m_166 := ⟨⟨lw_gi 1170 rfl rfl, lw_gi 67 rfl rfl, by decide +kernel, by decide +kernel, by decide +kernel⟩, lw_gi 1168 rfl rfl, lw_gi 1169 rfl rfl, rfl, by decide⟩
set_option maxRecDepth 100000 in
theorem hk_167 : pm_hk 0 m_167 := ⟨⟨lw_gi 1174 rfl rfl, lw_gi 67 rfl rfl, by decide +kernel, by decide +kernel, by decide +kernel⟩, lw_gi 1172 rfl rfl, lw_gi 1173 rfl rfl, rfl, by decide⟩
set_option maxRecDepth 100000 in
theorem hk_168 : pm_hk 0 m_168 := ⟨⟨lw_gi 1179 rfl rfl, lw_gi 67 rfl rfl, by decide +kernel, by decide +kernel, by decide +kernel⟩, lw_gi 1177 rfl rfl, lw_gi 1178 rfl rfl, rfl, by decide⟩
set_option maxRecDepth 100000 in
theorem hk_169 : pm_hk 0 m_169 := ⟨⟨lw_gi 1183 rfl rfl, lw_gi 67 rfl rfl, by decide +kernel, by decide +kernel, by decide +kernel⟩, lw_gi 1182 rfl rfl, lw_gi 41 rfl rfl, rfl, by decide⟩
set_option maxRecDepth 100000 in
theorem hk_170 : pm_hk 0 m_170 := ⟨⟨lw_gi 1188 rfl rfl, lw_gi 67 rfl rfl, by decide +kernel, by decide +kernel, by decide +kernel⟩, lw_gi 1186 rfl rfl, lw_gi 1187 rfl rfl, rfl, by decide⟩
set_option maxRecDepth 100000 in
theorem hk_171 : pm_hk 0 m_171 := ⟨⟨lw_gi 1192 rfl rfl, lw_gi 67 rfl rfl, by decide +kernel, by decide +kernel, by decide +kernel⟩, lw_gi 1191 rfl rfl, lw_gi 42 rfl rfl, rfl, by decide⟩
set_option maxRecDepth 100000 in
theorem hk_172 : pm_hk 0 m_172 := ⟨⟨lw_gi 1196 rfl rfl, lw_gi 67 rfl rfl, by decide +kernel, by decide +kernel, by decide +kernel⟩, lw_gi 1195 rfl rfl, lw_gi 43 rfl rfl, rfl, by decide⟩
set_option maxRecDepth 100000 in
theorem hk_173 : pm_hk 0 m_173 := ⟨⟨lw_gi 1200 rfl rfl, lw_gi 67 rfl rfl, by decide +kernel, by decide +kernel, by decide +kernel⟩, lw_gi 1199 rfl rfl, lw_gi 44 rfl rfl, rfl, by decide⟩
set_option maxRecDepth 100000 in
theorem hk_174 : pm_hk 0 m_174 := ⟨⟨lw_gi 1204 rfl rfl, lw_gi 67 rfl rfl, by decide +kernel, by decide +kernel, by decide +kernel⟩, lw_gi 1202 rfl rfl, lw_gi 1203 rfl rfl, rfl, by decide⟩
set_option maxRecDepth 100000 in
theorem hk_175 : pm_hk 0 m_175 := ⟨⟨lw_gi 1208 rfl rfl, lw_gi 67 rfl rfl, by decide +kernel, by decide +kernel, by decide +kernel⟩, lw_gi 1207 rfl rfl, lw_gi 45 rfl rfl, rfl, by decide⟩
set_option maxRecDepth 100000 in
theorem hk_176 : pm_hk 0 m_176 := ⟨⟨lw_gi 1212 rfl rfl, lw_gi 67 rfl rfl, by decide +kernel, by decide +kernel, by decide +kernel⟩, lw_gi 1210 rfl rfl, lw_gi 1211 rfl rfl, rfl, by decide⟩
set_option maxRecDepth 100000 in
theorem hk_177 : pm_hk 0 m_177 := ⟨⟨lw_gi 1216 rfl rfl, lw_gi 67 rfl rfl, by decide +kernel, by decide +kernel, by decide +kernel⟩, lw_gi 1215 rfl rfl, lw_gi 46 rfl rfl, rfl, by decide⟩
set_option maxRecDepth 100000 in
theorem hk_178 : pm_hk 0 m_178 := ⟨⟨lw_gi 1220 rfl rfl, lw_gi 67 rfl rfl, by decide +kernel, by decide +kernel, by decide +kernel⟩, lw_gi 1218 rfl rfl, lw_gi 1219 rfl rfl, rfl, by decide⟩
set_option maxRecDepth 100000 in
theorem hk_179 : pm_hk 0 m_179 := ⟨⟨lw_gi 1224 rfl rfl, lw_gi 67 rfl rfl, by decide +kernel, by decide +kernel, by decide +kernel⟩, lw_gi 1222 rfl rfl, lw_gi 1223 rfl rfl, rfl, by decide⟩
set_option maxRecDepth 100000 in
theorem hk_180 : pm_hk 0 m_180 := ⟨⟨lw_gi 1228 rfl rfl, lw_gi 67 rfl rfl, by decide +kernel, by decide +kernel, by decide +kernel⟩, lw_gi 1226 rfl rfl, lw_gi 1227 rfl rfl, rfl, by decide⟩
set_option maxRecDepth 100000 in
theorem hk_181 : pm_hk 0 m_181 := ⟨⟨lw_gi 1232 rfl rfl, lw_gi 67 rfl rfl, by decide +kernel, by decide +kernel, by decide +kernel⟩, lw_gi 1230 rfl rfl, lw_gi 1231 rfl rfl, rfl, by decide⟩
set_option maxRecDepth 100000 in
theorem hk_182 : pm_hk 0 m_182 := ⟨⟨lw_gi 1237 rfl rfl, lw_gi 67 rfl rfl, by decide +kernel, by decide +kernel, by decide +kernel⟩, lw_gi 1235 rfl rfl, lw_gi 1236 rfl rfl, rfl, by decide⟩
set_option maxRecDepth 100000 in
theorem hk_183 : pm_hk 0 m_183 := ⟨⟨lw_gi 1241 rfl rfl, lw_gi 67 rfl rfl, by decide +kernel, by decide +kernel, by decide +kernel⟩, lw_gi 1239 rfl rfl, lw_gi 1240 rfl rfl, rfl, by decide⟩
set_option maxRecDepth 100000 in
theorem hk_184 : pm_hk 0 m_184 := ⟨⟨lw_gi 1245 rfl rfl, lw_gi 67 rfl rfl, by decide +kernel, by decide +kernel, by decide +kernel⟩, lw_gi 1244 rfl rfl, lw_gi 47 rfl rfl, rfl, by decide⟩
set_option maxRecDepth 100000 in
theorem hk_185 : pm_hk 0 m_185 := ⟨⟨lw_gi 1249 rfl rfl, lw_gi 67 rfl rfl, by decide +kernel, by decide +kernel, by decide +kernel⟩, lw_gi 1248 rfl rfl, lw_gi 48 rfl rfl, rfl, by decide⟩
set_option maxRecDepth 100000 in
theorem hk_186 : pm_hk 2 m_186 := ⟨⟨lw_gi 1252 rfl rfl, lw_gi 67 rfl rfl, by decide +kernel, by decide +kernel, by decide +kernel⟩, lw_gi 1251 rfl rfl⟩
set_option maxRecDepth 100000 in
theorem hk_187 : pm_hk 2 m_187 := ⟨⟨lw_gi 1255 rfl rfl, lw_gi 67 rfl rfl, by decide +kernel, by decide +kernel, by decide +kernel⟩, lw_gi 1254 rfl rfl⟩
set_option maxRecDepth 100000 in
theorem hk_188 : pm_hk 0 m_188 := ⟨⟨lw_gi 1259 rfl rfl, lw_gi 67 rfl rfl, by decide +kernel, by decide +kernel, by decide +kernel⟩, lw_gi 1257 rfl rfl, lw_gi 1258 rfl rfl, rfl, by decide⟩
set_option maxRecDepth 100000 in
theorem hk_189 : pm_hk 0 m_189 := ⟨⟨lw_gi 1263 rfl rfl, lw_gi 67 rfl rfl, by decide +kernel, by decide +kernel, by decide +kernel⟩, lw_gi 1262 rfl rfl, lw_gi 49 rfl rfl, rfl, by decide⟩
set_option maxRecDepth 100000 in
theorem hk_190 : pm_hk 0 m_190 := ⟨⟨lw_gi 1267 rfl rfl, lw_gi 67 rfl rfl, by decide +kernel, by decide +kernel, by decide +kernel⟩, lw_gi 1265 rfl rfl, lw_gi 1266 rfl rfl, rfl, by decide⟩
set_option maxRecDepth 100000 in
theorem hk_191 : pm_hk 0 m_191 := ⟨⟨lw_gi 1271 rfl rfl, lw_gi 67 rfl rfl, by decide +kernel, by decide +kernel, by decide +kernel⟩, lw_gi 1270 rfl rfl, lw_gi 50 rfl rfl, rfl, by decide⟩
set_option maxRecDepth 100000 in
theorem hk_192 : pm_hk 0 m_192 := ⟨⟨lw_gi 1275 rfl rfl, lw_gi 67 rfl rfl, by decide +kernel, by decide +kernel, by decide +kernel⟩, lw_gi 1274 rfl rfl, lw_gi 51 rfl rfl, rfl, by decide⟩
set_option maxRecDepth 100000 in
theorem hk_193 : pm_hk 0 m_193 := ⟨⟨lw_gi 1279 rfl rfl, lw_gi 67 rfl rfl, by decide +kernel, by decide +kernel, by decide +kernel⟩, lw_gi 1278 rfl rfl, lw_gi 52 rfl rfl, rfl, by decide⟩
set_option maxRecDepth 100000 in
theorem hk_194 : pm_hk 2 m_194 := ⟨⟨lw_gi 1282 rfl rfl, lw_gi 67 rfl rfl, by decide +kernel, by decide +kernel, by decide +kernel⟩, lw_gi 1281 rfl rfl⟩
set_option maxRecDepth 100000 in
theorem hk_195 : pm_hk 0 m_195 := ⟨⟨lw_gi 1286 rfl rfl, lw_gi 67 rfl rfl, by decide +kernel, by decide +kernel, by decide +kernel⟩, lw_gi 1284 rfl rfl, lw_gi 1285 rfl rfl, rfl, by decide⟩
set_option maxRecDepth 100000 in
theorem hk_196 : pm_hk 0 m_196 := ⟨⟨lw_gi 1290 rfl rfl, lw_gi 67 rfl rfl, by decide +kernel, by decide +kernel, by decide +kernel⟩, lw_gi 1288 rfl rfl, lw_gi 1289 rfl rfl, rfl, by decide⟩
set_option maxRecDepth 100000 in
theorem hk_197 : pm_hk 0 m_197 := ⟨⟨lw_gi 1295 rfl rfl, lw_gi 67 rfl rfl, by decide +kernel, by decide +kernel, by decide +kernel⟩, lw_gi 1294 rfl rfl, lw_gi 53 rfl rfl, rfl, by decide⟩
set_option maxRecDepth 100000 in
theorem hk_198 : pm_hk 0 m_198 := ⟨⟨lw_gi 1299 rfl rfl, lw_gi 67 rfl rfl, by decide +kernel, by decide +kernel, by decide +kernel⟩, lw_gi 1297 rfl rfl, lw_gi 1298 rfl rfl, rfl, by decide⟩
set_option maxRecDepth 100000 in
theorem hk_199 : pm_hk 0 m_199 := ⟨⟨lw_gi 1303 rfl rfl, lw_gi 67 rfl rfl, by decide +kernel, by decide +kernel, by decide +kernel⟩, lw_gi 1301 rfl rfl, lw_gi 1302 rfl rfl, rfl, by decide⟩
set_option maxRecDepth 100000 in
theorem hk_200 : pm_hk 0 m_200 := ⟨⟨lw_gi 1307 rfl rfl, lw_gi 67 rfl rfl, by decide +kernel, by decide +kernel, by decide +kernel⟩, lw_gi 1305 rfl rfl, lw_gi 1306 rfl rfl, rfl, by decide⟩
set_option maxRecDepth 100000 in
theorem hk_201 : pm_hk 0 m_201 := ⟨⟨lw_gi 1311 rfl rfl, lw_gi 67 rfl rfl, by decide +kernel, by decide +kernel, by decide +kernel⟩, lw_gi 1309 rfl rfl, lw_gi 1310 rfl rfl, rfl, by decide⟩
set_option maxRecDepth 100000 in
theorem hk_202 : pm_hk 2 m_202 := ⟨⟨lw_gi 1316 rfl rfl, lw_gi 67 rfl rfl, by decide +kernel, by decide +kernel, by decide +kernel⟩, lw_gi 1315 rfl rfl⟩
set_option maxRecDepth 100000 in
theorem hk_203 : pm_hk 0 m_203 := ⟨⟨lw_gi 1320 rfl rfl, lw_gi 67 rfl rfl, by decide +kernel, by decide +kernel, by decide +kernel⟩, lw_gi 1319 rfl rfl, lw_gi 54 rfl rfl, rfl, by decide⟩
set_option maxRecDepth 100000 in
theorem hk_204 : pm_hk 0 m_204 := ⟨⟨lw_gi 1324 rfl rfl, lw_gi 67 rfl rfl, by decide +kernel, by decide +kernel, by decide +kernel⟩, lw_gi 1323 rfl rfl, lw_gi 55 rfl rfl, rfl, by decide⟩
set_option maxRecDepth 100000 in
theorem hk_205 : pm_hk 0 m_205 := ⟨⟨lw_gi 1328 rfl rfl, lw_gi 67 rfl rfl, by decide +kernel, by decide +kernel, by decide +kernel⟩, lw_gi 1327 rfl rfl, lw_gi 56 rfl rfl, rfl, by decide⟩
set_option maxRecDepth 100000 in
theorem hk_206 : pm_hk 0 m_206 := ⟨⟨lw_gi 1332 rfl rfl, lw_gi 67 rfl rfl, by decide +kernel, by decide +kernel, by decide +kernel⟩, lw_gi 1330 rfl rfl, lw_gi 1331 rfl rfl, rfl, by decide⟩
set_option maxRecDepth 100000 in
theorem hk_207 : pm_hk 0 m_207 := ⟨⟨lw_gi 1336 rfl rfl, lw_gi 67 rfl rfl, by decide +kernel, by decide +kernel, by decide +kernel⟩, lw_gi 1334 rfl rfl, lw_gi 1335 rfl rfl, rfl, by decide⟩
set_option maxRecDepth 100000 in
theorem hk_208 : pm_hk 0 m_208 := ⟨⟨lw_gi 1340 rfl rfl, lw_gi 67 rfl rfl, by decide +kernel, by decide +kernel, by decide +kernel⟩, lw_gi 1338 rfl rfl, lw_gi 1339 rfl rfl, rfl, by decide⟩
set_option maxRecDepth 100000 in
theorem hk_209 : pm_hk 0 m_209 := ⟨⟨lw_gi 1346 rfl rfl, lw_gi 67 rfl rfl, by decide +kernel, by decide +kernel, by decide +kernel⟩, lw_gi 1344 rfl rfl, lw_gi 1345 rfl rfl, rfl, by decide⟩
set_option maxRecDepth 100000 in
theorem hk_210 : pm_hk 0 m_210 := ⟨⟨lw_gi 1350 rfl rfl, lw_gi 67 rfl rfl, by decide +kernel, by decide +kernel, by decide +kernel⟩, lw_gi 1348 rfl rfl, lw_gi 1349 rfl rfl, rfl, by decide⟩
set_option maxRecDepth 100000 in
theorem hk_211 : pm_hk 2 m_211 := ⟨⟨lw_gi 1354 rfl rfl, lw_gi 67 rfl rfl, by decide +kernel, by decide +kernel, by decide +kernel⟩, lw_gi 1353 rfl rfl⟩
set_option maxRecDepth 100000 in
theorem hk_212 : pm_hk 0 m_212 := ⟨⟨lw_gi 1358 rfl rfl, lw_gi 67 rfl rfl, by decide +kernel, by decide +kernel, by decide +kernel⟩, lw_gi 1356 rfl rfl, lw_gi 1357 rfl rfl, rfl, by decide⟩
set_option maxRecDepth 100000 in
theorem hk_213 : pm_hk 0 m_213 := ⟨⟨lw_gi 1362 rfl rfl, lw_gi 67 rfl rfl, by decide +kernel, by decide +kernel, by decide +kernel⟩, lw_gi 1360 rfl rfl, lw_gi 1361 rfl rfl, rfl, by decide⟩
set_option maxRecDepth 100000 in
theorem hk_214 : pm_hk 0 m_214 := ⟨⟨lw_gi 1366 rfl rfl, lw_gi 67 rfl rfl, by decide +kernel, by decide +kernel, by decide +kernel⟩, lw_gi 1364 rfl rfl, lw_gi 1365 rfl rfl, rfl, by decide⟩
set_option maxRecDepth 100000 in
theorem hk_215 : pm_hk 0 m_215 := ⟨⟨lw_gi 1370 rfl rfl, lw_gi 67 rfl rfl, by decide +kernel, by decide +kernel, by decide +kernel⟩, lw_gi 1368 rfl rfl, lw_gi 1369 rfl rfl, rfl, by decide⟩
set_option maxRecDepth 100000 in
theorem hk_216 : pm_hk 0 m_216 := ⟨⟨lw_gi 1375 rfl rfl, lw_gi 67 rfl rfl, by decide +kernel, by decide +kernel, by decide +kernel⟩, lw_gi 1373 rfl rfl, lw_gi 1374 rfl rfl, rfl, by decide⟩
set_option maxRecDepth 100000 in
theorem hk_217 : pm_hk 0 m_217 := ⟨⟨lw_gi 1379 rfl rfl, lw_gi 67 rfl rfl, by decide +kernel, by decide +kernel, by decide +kernel⟩, lw_gi 1378 rfl rfl, lw_gi 57 rfl rfl, rfl, by decide⟩
set_option maxRecDepth 100000 in
theorem hk_218 : pm_hk 0 m_218 := ⟨⟨lw_gi 1383 rfl rfl, lw_gi 67 rfl rfl, by decide +kernel, by decide +kernel, by decide +kernel⟩, lw_gi 1381 rfl rfl, lw_gi 1382 rfl rfl, rfl, by decide⟩
set_option maxRecDepth 100000 in
theorem hk_219 : pm_hk 0 m_219 := ⟨⟨lw_gi 1387 rfl rfl, lw_gi 67 rfl rfl, by decide +kernel, by decide +kernel, by decide +kernel⟩, lw_gi 1385 rfl rfl, lw_gi 1386 rfl rfl, rfl, by decide⟩
set_option maxRecDepth 100000 in
theorem hk_220 : pm_hk 2 m_220 := ⟨⟨lw_gi 1390 rfl rfl, lw_gi 67 rfl rfl, by decide +kernel, by decide +kernel, by decide +kernel⟩, lw_gi 1389 rfl rfl⟩
set_option maxRecDepth 100000 in
theorem hk_221 : pm_hk 0 m_221 := ⟨⟨lw_gi 1395 rfl rfl, lw_gi 67 rfl rfl, by decide +kernel, by decide +kernel, by decide +kernel⟩, lw_gi 1393 rfl rfl, lw_gi 1394 rfl rfl, rfl, by decide⟩
set_option maxRecDepth 100000 in
theorem hk_222 : pm_hk 0 m_222 := ⟨⟨lw_gi 1399 rfl rfl, lw_gi 67 rfl rfl, by decide +kernel, by decide +kernel, by decide +kernel⟩, lw_gi 1397 rfl rfl, lw_gi 1398 rfl rfl, rfl, by decide⟩
set_option maxRecDepth 100000 in
theorem hk_223 : pm_hk 0 m_223 := ⟨⟨lw_gi 1405 rfl rfl, lw_gi 67 rfl rfl, by decide +kernel, by decide +kernel, by decide +kernel⟩, lw_gi 1403 rfl rfl, lw_gi 1404 rfl rfl, rfl, by decide⟩
set_option maxRecDepth 100000 in
theorem hk_224 : pm_hk 0 m_224 := ⟨⟨lw_gi 1409 rfl rfl, lw_gi 67 rfl rfl, by decide +kernel, by decide +kernel, by decide +kernel⟩, lw_gi 1407 rfl rfl, lw_gi 1408 rfl rfl, rfl, by decide⟩
