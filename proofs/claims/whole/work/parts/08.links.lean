theorem mkX0_become : ruMk mmX0_become 1 := ⟨ru_mt 2 (by decide +kernel), ru_mt 903 (by decide +kernel), by decide +kernel, by decide⟩
theorem mkX1_become : ruMk mmX1_become 1 := ⟨ru_mt 7 (by decide +kernel), ru_mt 926 (by decide +kernel), by decide +kernel, by decide⟩
theorem mkX1_made : ruMk mmX1_made 2 := ⟨ru_mt 7 (by decide +kernel), ru_mt 838 (by decide +kernel), by decide +kernel, by decide⟩
theorem mkX1_withThoseUnder : ruMk mmX1_withThoseUnder 1 := ⟨ru_mt 7 (by decide +kernel), ru_mt 841 (by decide +kernel), by decide +kernel, by decide⟩
theorem mkX1_cheapestSet : ruMk mmX1_cheapestSet 1 := ⟨ru_mt 7 (by decide +kernel), ru_mt 851 (by decide +kernel), by decide +kernel, by decide⟩
theorem mkX1_isBetter : ruMk mmX1_isBetter 2 := ⟨ru_mt 7 (by decide +kernel), ru_mt 859 (by decide +kernel), by decide +kernel, by decide⟩
theorem mkX1_barredBy : ruMk mmX1_barredBy 1 := ⟨ru_mt 7 (by decide +kernel), ru_mt 855 (by decide +kernel), by decide +kernel, by decide⟩
theorem mkX1_priceOf : ruMk mmX1_priceOf 1 := ⟨ru_mt 7 (by decide +kernel), ru_mt 863 (by decide +kernel), by decide +kernel, by decide⟩
theorem mkX2_become : ruMk mmX2_become 1 := ⟨ru_mt 6 (by decide +kernel), ru_mt 921 (by decide +kernel), by decide +kernel, by decide⟩
theorem mkX2_given : ruMk mmX2_given 4 := ⟨ru_mt 6 (by decide +kernel), ru_mt 803 (by decide +kernel), by decide +kernel, by decide⟩
theorem mkX2_holdersAt : ruMk mmX2_holdersAt 2 := ⟨ru_mt 6 (by decide +kernel), ru_mt 815 (by decide +kernel), by decide +kernel, by decide⟩
theorem mkX2_gapCount : ruMk mmX2_gapCount 3 := ⟨ru_mt 6 (by decide +kernel), ru_mt 811 (by decide +kernel), by decide +kernel, by decide⟩
theorem mkX2_firstGap : ruMk mmX2_firstGap 3 := ⟨ru_mt 6 (by decide +kernel), ru_mt 819 (by decide +kernel), by decide +kernel, by decide⟩
theorem mkX2_holdersOfAtLeast : ruMk mmX2_holdersOfAtLeast 4 := ⟨ru_mt 6 (by decide +kernel), ru_mt 827 (by decide +kernel), by decide +kernel, by decide⟩
theorem mkX3_hasSheets : ruMk mmX3_hasSheets 2 := ⟨ru_mt 8 (by decide +kernel), ru_mt 598 (by decide +kernel), by decide +kernel, by decide⟩
theorem mkX3_of : ruMk mmX3_of 3 := ⟨ru_mt 8 (by decide +kernel), ru_mt 603 (by decide +kernel), by decide +kernel, by decide⟩
theorem mkX3_ofChild : ruMk mmX3_ofChild 3 := ⟨ru_mt 8 (by decide +kernel), ru_mt 640 (by decide +kernel), by decide +kernel, by decide⟩
theorem mkX3_fallOf : ruMk mmX3_fallOf 2 := ⟨ru_mt 8 (by decide +kernel), ru_mt 646 (by decide +kernel), by decide +kernel, by decide⟩
theorem mkX3_roomsWithSheets : ruMk mmX3_roomsWithSheets 1 := ⟨ru_mt 8 (by decide +kernel), ru_mt 665 (by decide +kernel), by decide +kernel, by decide⟩
theorem mkX3_roomsWithPuts : ruMk mmX3_roomsWithPuts 1 := ⟨ru_mt 8 (by decide +kernel), ru_mt 777 (by decide +kernel), by decide +kernel, by decide⟩
theorem mkX3_workOut : ruMk mmX3_workOut 3 := ⟨ru_mt 8 (by decide +kernel), ru_mt 671 (by decide +kernel), by decide +kernel, by decide⟩
theorem mkX3_roomsFrom : ruMk mmX3_roomsFrom 2 := ⟨ru_mt 8 (by decide +kernel), ru_mt 677 (by decide +kernel), by decide +kernel, by decide⟩
theorem mkX3_bestLine : ruMk mmX3_bestLine 2 := ⟨ru_mt 8 (by decide +kernel), ru_mt 785 (by decide +kernel), by decide +kernel, by decide⟩
theorem mkX3_isBetter : ruMk mmX3_isBetter 4 := ⟨ru_mt 8 (by decide +kernel), ru_mt 790 (by decide +kernel), by decide +kernel, by decide⟩
theorem mkX4_faultOf : ruMk mmX4_faultOf 2 := ⟨ru_mt 10 (by decide +kernel), ru_mt 693 (by decide +kernel), by decide +kernel, by decide⟩
theorem mkX4_worthOf : ruMk mmX4_worthOf 3 := ⟨ru_mt 10 (by decide +kernel), ru_mt 697 (by decide +kernel), by decide +kernel, by decide⟩
theorem mkX4_fail : ruMk mmX4_fail 0 := ⟨ru_mt 10 (by decide +kernel), ru_mt 745 (by decide +kernel), by decide +kernel, by decide⟩
theorem mkX4_step : ruMk mmX4_step 0 := ⟨ru_mt 10 (by decide +kernel), ru_mt 701 (by decide +kernel), by decide +kernel, by decide⟩
theorem mkX4_isDigit : ruMk mmX4_isDigit 1 := ⟨ru_mt 10 (by decide +kernel), ru_mt 704 (by decide +kernel), by decide +kernel, by decide⟩
theorem mkX4_isLetter : ruMk mmX4_isLetter 1 := ⟨ru_mt 10 (by decide +kernel), ru_mt 711 (by decide +kernel), by decide +kernel, by decide⟩
theorem mkX4_stepNumber : ruMk mmX4_stepNumber 0 := ⟨ru_mt 10 (by decide +kernel), ru_mt 708 (by decide +kernel), by decide +kernel, by decide⟩
theorem mkX4_stepWord : ruMk mmX4_stepWord 0 := ⟨ru_mt 10 (by decide +kernel), ru_mt 715 (by decide +kernel), by decide +kernel, by decide⟩
theorem mkX4_either : ruMk mmX4_either 1 := ⟨ru_mt 10 (by decide +kernel), ru_mt 721 (by decide +kernel), by decide +kernel, by decide⟩
theorem mkX4_both : ruMk mmX4_both 1 := ⟨ru_mt 10 (by decide +kernel), ru_mt 725 (by decide +kernel), by decide +kernel, by decide⟩
theorem mkX4_denied : ruMk mmX4_denied 1 := ⟨ru_mt 10 (by decide +kernel), ru_mt 729 (by decide +kernel), by decide +kernel, by decide⟩
theorem mkX4_compared : ruMk mmX4_compared 1 := ⟨ru_mt 10 (by decide +kernel), ru_mt 733 (by decide +kernel), by decide +kernel, by decide⟩
theorem mkX4_sum : ruMk mmX4_sum 1 := ⟨ru_mt 10 (by decide +kernel), ru_mt 737 (by decide +kernel), by decide +kernel, by decide⟩
theorem mkX4_part : ruMk mmX4_part 1 := ⟨ru_mt 10 (by decide +kernel), ru_mt 741 (by decide +kernel), by decide +kernel, by decide⟩
theorem mkX5_become : ruMk mmX5_become 1 := ⟨ru_mt 3 (by decide +kernel), ru_mt 907 (by decide +kernel), by decide +kernel, by decide⟩
theorem mkX5_isTaken : ruMk mmX5_isTaken 2 := ⟨ru_mt 3 (by decide +kernel), ru_mt 382 (by decide +kernel), by decide +kernel, by decide⟩
theorem mkX5_seated : ruMk mmX5_seated 2 := ⟨ru_mt 3 (by decide +kernel), ru_mt 387 (by decide +kernel), by decide +kernel, by decide⟩
theorem mkX5_learns : ruMk mmX5_learns 3 := ⟨ru_mt 3 (by decide +kernel), ru_mt 399 (by decide +kernel), by decide +kernel, by decide⟩
theorem mkX5_forgets : ruMk mmX5_forgets 2 := ⟨ru_mt 3 (by decide +kernel), ru_mt 407 (by decide +kernel), by decide +kernel, by decide⟩
theorem mkX5_areNeighbours : ruMk mmX5_areNeighbours 2 := ⟨ru_mt 3 (by decide +kernel), ru_mt 502 (by decide +kernel), by decide +kernel, by decide⟩
theorem mkX6_place : ruMk mmX6_place 2 := ⟨ru_mt 4 (by decide +kernel), ru_mt 421 (by decide +kernel), by decide +kernel, by decide⟩
theorem mkX6_become : ruMk mmX6_become 1 := ⟨ru_mt 4 (by decide +kernel), ru_mt 912 (by decide +kernel), by decide +kernel, by decide⟩
theorem mkX6_begin : ruMk mmX6_begin 1 := ⟨ru_mt 4 (by decide +kernel), ru_mt 438 (by decide +kernel), by decide +kernel, by decide⟩
theorem mkX6_choiceAt : ruMk mmX6_choiceAt 2 := ⟨ru_mt 4 (by decide +kernel), ru_mt 469 (by decide +kernel), by decide +kernel, by decide⟩
theorem mkX6_kindAt : ruMk mmX6_kindAt 2 := ⟨ru_mt 4 (by decide +kernel), ru_mt 546 (by decide +kernel), by decide +kernel, by decide⟩
theorem mkX6_rubbedAt : ruMk mmX6_rubbedAt 2 := ⟨ru_mt 4 (by decide +kernel), ru_mt 558 (by decide +kernel), by decide +kernel, by decide⟩
theorem mkX6_marked : ruMk mmX6_marked 5 := ⟨ru_mt 4 (by decide +kernel), ru_mt 457 (by decide +kernel), by decide +kernel, by decide⟩
theorem mkX6_rubbing : ruMk mmX6_rubbing 3 := ⟨ru_mt 4 (by decide +kernel), ru_mt 460 (by decide +kernel), by decide +kernel, by decide⟩
theorem mkX6_rights : ruMk mmX6_rights 2 := ⟨ru_mt 4 (by decide +kernel), ru_mt 465 (by decide +kernel), by decide +kernel, by decide⟩
theorem mkX6_filled : ruMk mmX6_filled 1 := ⟨ru_mt 4 (by decide +kernel), ru_mt 554 (by decide +kernel), by decide +kernel, by decide⟩
theorem mkX6_standingBy : ruMk mmX6_standingBy 2 := ⟨ru_mt 4 (by decide +kernel), ru_mt 570 (by decide +kernel), by decide +kernel, by decide⟩
theorem mkX6_unfitPairs : ruMk mmX6_unfitPairs 3 := ⟨ru_mt 4 (by decide +kernel), ru_mt 562 (by decide +kernel), by decide +kernel, by decide⟩
theorem mkX6_easierWrong : ruMk mmX6_easierWrong 4 := ⟨ru_mt 4 (by decide +kernel), ru_mt 566 (by decide +kernel), by decide +kernel, by decide⟩
theorem mkX6_howManyOf : ruMk mmX6_howManyOf 1 := ⟨ru_mt 4 (by decide +kernel), ru_mt 418 (by decide +kernel), by decide +kernel, by decide⟩
theorem mkX6_howManyIn : ruMk mmX6_howManyIn 1 := ⟨ru_mt 4 (by decide +kernel), ru_mt 943 (by decide +kernel), by decide +kernel, by decide⟩
theorem mkX6_howMany : ruMk mmX6_howMany 0 := ⟨ru_mt 4 (by decide +kernel), ru_mt 947 (by decide +kernel), by decide +kernel, by decide⟩
theorem mkX6_allFilled : ruMk mmX6_allFilled 0 := ⟨ru_mt 4 (by decide +kernel), ru_mt 952 (by decide +kernel), by decide +kernel, by decide⟩
theorem mkX6_allRights : ruMk mmX6_allRights 1 := ⟨ru_mt 4 (by decide +kernel), ru_mt 957 (by decide +kernel), by decide +kernel, by decide⟩
theorem mkX7_isMissing : ruMk mmX7_isMissing 0 := ⟨ru_mt 11 (by decide +kernel), ru_mt 480 (by decide +kernel), by decide +kernel, by decide⟩
theorem mkX7_renewed : ruMk mmX7_renewed 2 := ⟨ru_mt 11 (by decide +kernel), ru_mt 873 (by decide +kernel), by decide +kernel, by decide⟩
theorem mkX7_lowestBits : ruMk mmX7_lowestBits 1 := ⟨ru_mt 11 (by decide +kernel), ru_mt 882 (by decide +kernel), by decide +kernel, by decide⟩
theorem mkX7_areWithin : ruMk mmX7_areWithin 2 := ⟨ru_mt 11 (by decide +kernel), ru_mt 486 (by decide +kernel), by decide +kernel, by decide⟩
theorem mkX7_hasPart : ruMk mmX7_hasPart 2 := ⟨ru_mt 11 (by decide +kernel), ru_mt 890 (by decide +kernel), by decide +kernel, by decide⟩
theorem mkX8_find : ruMk mmX8_find 3 := ⟨ru_mt 9 (by decide +kernel), ru_mt 607 (by decide +kernel), by decide +kernel, by decide⟩
theorem mkX8_gather : ruMk mmX8_gather 2 := ⟨ru_mt 9 (by decide +kernel), ru_mt 611 (by decide +kernel), by decide +kernel, by decide⟩
theorem mkX8_pack : ruMk mmX8_pack 1 := ⟨ru_mt 9 (by decide +kernel), ru_mt 616 (by decide +kernel), by decide +kernel, by decide⟩
theorem mkX8_lookAt : ruMk mmX8_lookAt 3 := ⟨ru_mt 9 (by decide +kernel), ru_mt 621 (by decide +kernel), by decide +kernel, by decide⟩
theorem mkX8_alikeTo : ruMk mmX8_alikeTo 3 := ⟨ru_mt 9 (by decide +kernel), ru_mt 626 (by decide +kernel), by decide +kernel, by decide⟩
theorem mkX8_takeIfBetter : ruMk mmX8_takeIfBetter 3 := ⟨ru_mt 9 (by decide +kernel), ru_mt 630 (by decide +kernel), by decide +kernel, by decide⟩
theorem mkX9_become : ruMk mmX9_become 1 := ⟨ru_mt 5 (by decide +kernel), ru_mt 917 (by decide +kernel), by decide +kernel, by decide⟩
theorem mkX9_taken : ruMk mmX9_taken 2 := ⟨ru_mt 5 (by decide +kernel), ru_mt 749 (by decide +kernel), by decide +kernel, by decide⟩
theorem mkX10_question : ruMk mmX10_question 3 := ⟨ru_mt 1 (by decide +kernel), ru_mt 354 (by decide +kernel), by decide +kernel, by decide⟩
theorem mkX10_room : ruMk mmX10_room 0 := ⟨ru_mt 1 (by decide +kernel), ru_mt 369 (by decide +kernel), by decide +kernel, by decide⟩
theorem mkX10_child : ruMk mmX10_child 2 := ⟨ru_mt 1 (by decide +kernel), ru_mt 374 (by decide +kernel), by decide +kernel, by decide⟩
theorem mkX10_learn : ruMk mmX10_learn 3 := ⟨ru_mt 1 (by decide +kernel), ru_mt 391 (by decide +kernel), by decide +kernel, by decide⟩
theorem mkX10_forget : ruMk mmX10_forget 2 := ⟨ru_mt 1 (by decide +kernel), ru_mt 403 (by decide +kernel), by decide +kernel, by decide⟩
theorem mkX10_childIs : ruMk mmX10_childIs 2 := ⟨ru_mt 1 (by decide +kernel), ru_mt 414 (by decide +kernel), by decide +kernel, by decide⟩
theorem mkX10_year : ruMk mmX10_year 0 := ⟨ru_mt 1 (by decide +kernel), ru_mt 425 (by decide +kernel), by decide +kernel, by decide⟩
theorem mkX10_sit : ruMk mmX10_sit 2 := ⟨ru_mt 1 (by decide +kernel), ru_mt 429 (by decide +kernel), by decide +kernel, by decide⟩
theorem mkX10_read : ruMk mmX10_read 2 := ⟨ru_mt 1 (by decide +kernel), ru_mt 473 (by decide +kernel), by decide +kernel, by decide⟩
theorem mkX10_mark : ruMk mmX10_mark 4 := ⟨ru_mt 1 (by decide +kernel), ru_mt 491 (by decide +kernel), by decide +kernel, by decide⟩
theorem mkX10_copies : ruMk mmX10_copies 2 := ⟨ru_mt 1 (by decide +kernel), ru_mt 498 (by decide +kernel), by decide +kernel, by decide⟩
theorem mkX10_said : ruMk mmX10_said 2 := ⟨ru_mt 1 (by decide +kernel), ru_mt 510 (by decide +kernel), by decide +kernel, by decide⟩
theorem mkX10_puts : ruMk mmX10_puts 2 := ⟨ru_mt 1 (by decide +kernel), ru_mt 518 (by decide +kernel), by decide +kernel, by decide⟩
theorem mkX10_fills : ruMk mmX10_fills 1 := ⟨ru_mt 1 (by decide +kernel), ru_mt 526 (by decide +kernel), by decide +kernel, by decide⟩
theorem mkX10_leaves : ruMk mmX10_leaves 1 := ⟨ru_mt 1 (by decide +kernel), ru_mt 534 (by decide +kernel), by decide +kernel, by decide⟩
theorem mkX10_bubble : ruMk mmX10_bubble 4 := ⟨ru_mt 1 (by decide +kernel), ru_mt 539 (by decide +kernel), by decide +kernel, by decide⟩
theorem mkX10_sheetIs : ruMk mmX10_sheetIs 3 := ⟨ru_mt 1 (by decide +kernel), ru_mt 550 (by decide +kernel), by decide +kernel, by decide⟩
theorem mkX10_weight : ruMk mmX10_weight 2 := ⟨ru_mt 1 (by decide +kernel), ru_mt 578 (by decide +kernel), by decide +kernel, by decide⟩
theorem mkX10_as : ruMk mmX10_as 4 := ⟨ru_mt 1 (by decide +kernel), ru_mt 588 (by decide +kernel), by decide +kernel, by decide⟩
theorem mkX10_measure : ruMk mmX10_measure 3 := ⟨ru_mt 1 (by decide +kernel), ru_mt 594 (by decide +kernel), by decide +kernel, by decide⟩
theorem mkX10_looked : ruMk mmX10_looked 0 := ⟨ru_mt 1 (by decide +kernel), ru_mt 652 (by decide +kernel), by decide +kernel, by decide⟩
theorem mkX10_string : ruMk mmX10_string 4 := ⟨ru_mt 1 (by decide +kernel), ru_mt 656 (by decide +kernel), by decide +kernel, by decide⟩
theorem mkX10_odd : ruMk mmX10_odd 4 := ⟨ru_mt 1 (by decide +kernel), ru_mt 661 (by decide +kernel), by decide +kernel, by decide⟩
theorem mkX10_feed : ruMk mmX10_feed 2 := ⟨ru_mt 1 (by decide +kernel), ru_mt 681 (by decide +kernel), by decide +kernel, by decide⟩
theorem mkX10_wipe : ruMk mmX10_wipe 0 := ⟨ru_mt 1 (by decide +kernel), ru_mt 685 (by decide +kernel), by decide +kernel, by decide⟩
theorem mkX10_way : ruMk mmX10_way 0 := ⟨ru_mt 1 (by decide +kernel), ru_mt 689 (by decide +kernel), by decide +kernel, by decide⟩
theorem mkX10_says : ruMk mmX10_says 3 := ⟨ru_mt 1 (by decide +kernel), ru_mt 756 (by decide +kernel), by decide +kernel, by decide⟩
theorem mkX10_judges : ruMk mmX10_judges 3 := ⟨ru_mt 1 (by decide +kernel), ru_mt 769 (by decide +kernel), by decide +kernel, by decide⟩
theorem mkX10_line : ruMk mmX10_line 3 := ⟨ru_mt 1 (by decide +kernel), ru_mt 781 (by decide +kernel), by decide +kernel, by decide⟩
theorem mkX10_holds : ruMk mmX10_holds 4 := ⟨ru_mt 1 (by decide +kernel), ru_mt 796 (by decide +kernel), by decide +kernel, by decide⟩
theorem mkX10_gaps : ruMk mmX10_gaps 4 := ⟨ru_mt 1 (by decide +kernel), ru_mt 807 (by decide +kernel), by decide +kernel, by decide⟩
theorem mkX10_could : ruMk mmX10_could 4 := ⟨ru_mt 1 (by decide +kernel), ru_mt 823 (by decide +kernel), by decide +kernel, by decide⟩
theorem mkX10_form : ruMk mmX10_form 2 := ⟨ru_mt 1 (by decide +kernel), ru_mt 834 (by decide +kernel), by decide +kernel, by decide⟩
theorem mkX10_cheapest : ruMk mmX10_cheapest 2 := ⟨ru_mt 1 (by decide +kernel), ru_mt 847 (by decide +kernel), by decide +kernel, by decide⟩
theorem mkX10_slip : ruMk mmX10_slip 3 := ⟨ru_mt 1 (by decide +kernel), ru_mt 869 (by decide +kernel), by decide +kernel, by decide⟩
theorem mkX10_write : ruMk mmX10_write 3 := ⟨ru_mt 1 (by decide +kernel), ru_mt 878 (by decide +kernel), by decide +kernel, by decide⟩
theorem mkX10_copy : ruMk mmX10_copy 5 := ⟨ru_mt 1 (by decide +kernel), ru_mt 886 (by decide +kernel), by decide +kernel, by decide⟩
theorem mkX10_check : ruMk mmX10_check 3 := ⟨ru_mt 1 (by decide +kernel), ru_mt 895 (by decide +kernel), by decide +kernel, by decide⟩
theorem mkX10_image : ruMk mmX10_image 0 := ⟨ru_mt 1 (by decide +kernel), ru_mt 899 (by decide +kernel), by decide +kernel, by decide⟩
theorem mkX10_undo : ruMk mmX10_undo 0 := ⟨ru_mt 1 (by decide +kernel), ru_mt 931 (by decide +kernel), by decide +kernel, by decide⟩
theorem mkX10_tear : ruMk mmX10_tear 0 := ⟨ru_mt 1 (by decide +kernel), ru_mt 935 (by decide +kernel), by decide +kernel, by decide⟩
theorem mkX10_count : ruMk mmX10_count 1 := ⟨ru_mt 1 (by decide +kernel), ru_mt 939 (by decide +kernel), by decide +kernel, by decide⟩
theorem mkX10_status : ruMk mmX10_status 1 := ⟨ru_mt 1 (by decide +kernel), ru_mt 962 (by decide +kernel), by decide +kernel, by decide⟩
theorem mkX10_finding : ruMk mmX10_finding 1 := ⟨ru_mt 1 (by decide +kernel), ru_mt 365 (by decide +kernel), by decide +kernel, by decide⟩
theorem mkX10_isWithin : ruMk mmX10_isWithin 3 := ⟨ru_mt 1 (by decide +kernel), ru_mt 360 (by decide +kernel), by decide +kernel, by decide⟩
theorem mkX10_has : ruMk mmX10_has 2 := ⟨ru_mt 1 (by decide +kernel), ru_mt 410 (by decide +kernel), by decide +kernel, by decide⟩
theorem mkX10_isQuestion : ruMk mmX10_isQuestion 1 := ⟨ru_mt 1 (by decide +kernel), ru_mt 357 (by decide +kernel), by decide +kernel, by decide⟩
theorem mkX10_isYear : ruMk mmX10_isYear 1 := ⟨ru_mt 1 (by decide +kernel), ru_mt 542 (by decide +kernel), by decide +kernel, by decide⟩
theorem mkX10_isKind : ruMk mmX10_isKind 1 := ⟨ru_mt 1 (by decide +kernel), ru_mt 494 (by decide +kernel), by decide +kernel, by decide⟩
theorem mkX10_isSlip : ruMk mmX10_isSlip 1 := ⟨ru_mt 1 (by decide +kernel), ru_mt 476 (by decide +kernel), by decide +kernel, by decide⟩
theorem mkX10_areHours : ruMk mmX10_areHours 2 := ⟨ru_mt 1 (by decide +kernel), ru_mt 799 (by decide +kernel), by decide +kernel, by decide⟩
theorem mkX10_isRoom : ruMk mmX10_isRoom 1 := ⟨ru_mt 1 (by decide +kernel), ru_mt 378 (by decide +kernel), by decide +kernel, by decide⟩
theorem mkX10_isChild : ruMk mmX10_isChild 1 := ⟨ru_mt 1 (by decide +kernel), ru_mt 395 (by decide +kernel), by decide +kernel, by decide⟩
theorem mkX10_isWay : ruMk mmX10_isWay 1 := ⟨ru_mt 1 (by decide +kernel), ru_mt 760 (by decide +kernel), by decide +kernel, by decide⟩
theorem mkX10_openSheet : ruMk mmX10_openSheet 1 := ⟨ru_mt 1 (by decide +kernel), ru_mt 433 (by decide +kernel), by decide +kernel, by decide⟩
theorem mkX10_sitsIn : ruMk mmX10_sitsIn 2 := ⟨ru_mt 1 (by decide +kernel), ru_mt 514 (by decide +kernel), by decide +kernel, by decide⟩
theorem mkX10_marks : ruMk mmX10_marks 4 := ⟨ru_mt 1 (by decide +kernel), ru_mt 453 (by decide +kernel), by decide +kernel, by decide⟩
theorem mkX10_answerAll : ruMk mmX10_answerAll 3 := ⟨ru_mt 1 (by decide +kernel), ru_mt 448 (by decide +kernel), by decide +kernel, by decide⟩
theorem mkX10_putRight : ruMk mmX10_putRight 2 := ⟨ru_mt 1 (by decide +kernel), ru_mt 522 (by decide +kernel), by decide +kernel, by decide⟩
theorem mkX10_fillBlanks : ruMk mmX10_fillBlanks 1 := ⟨ru_mt 1 (by decide +kernel), ru_mt 530 (by decide +kernel), by decide +kernel, by decide⟩
theorem mkX10_ownWeight : ruMk mmX10_ownWeight 1 := ⟨ru_mt 1 (by decide +kernel), ru_mt 581 (by decide +kernel), by decide +kernel, by decide⟩
theorem mkX10_putWeight : ruMk mmX10_putWeight 1 := ⟨ru_mt 1 (by decide +kernel), ru_mt 584 (by decide +kernel), by decide +kernel, by decide⟩
theorem mkX10_comesTo : ruMk mmX10_comesTo 3 := ⟨ru_mt 1 (by decide +kernel), ru_mt 764 (by decide +kernel), by decide +kernel, by decide⟩
theorem mkX10_flaggedBy : ruMk mmX10_flaggedBy 2 := ⟨ru_mt 1 (by decide +kernel), ru_mt 773 (by decide +kernel), by decide +kernel, by decide⟩
theorem mkX11_finding : ruMk mmX11_finding 1 := ⟨ru_mt 12 (by decide +kernel), ru_mt 1068 (by decide +kernel), by decide +kernel, by decide⟩
theorem mkX11_within : ruMk mmX11_within 3 := ⟨ru_mt 12 (by decide +kernel), ru_mt 1063 (by decide +kernel), by decide +kernel, by decide⟩
theorem mkX11_is : ruMk mmX11_is 2 := ⟨ru_mt 12 (by decide +kernel), ru_mt 1081 (by decide +kernel), by decide +kernel, by decide⟩
theorem mkX11_has : ruMk mmX11_has 2 := ⟨ru_mt 12 (by decide +kernel), ru_mt 1096 (by decide +kernel), by decide +kernel, by decide⟩
theorem mkX11_bits : ruMk mmX11_bits 1 := ⟨ru_mt 12 (by decide +kernel), ru_mt 1247 (by decide +kernel), by decide +kernel, by decide⟩
theorem mkX11_isQuestion : ruMk mmX11_isQuestion 1 := ⟨ru_mt 12 (by decide +kernel), ru_mt 1060 (by decide +kernel), by decide +kernel, by decide⟩
theorem mkX11_isYear : ruMk mmX11_isYear 1 := ⟨ru_mt 12 (by decide +kernel), ru_mt 1186 (by decide +kernel), by decide +kernel, by decide⟩
theorem mkX11_childOf : ruMk mmX11_childOf 2 := ⟨ru_mt 12 (by decide +kernel), ru_mt 1085 (by decide +kernel), by decide +kernel, by decide⟩
theorem mkX11_sheetAt : ruMk mmX11_sheetAt 2 := ⟨ru_mt 12 (by decide +kernel), ru_mt 1089 (by decide +kernel), by decide +kernel, by decide⟩
theorem mkX11_hasSheet : ruMk mmX11_hasSheet 2 := ⟨ru_mt 12 (by decide +kernel), ru_mt 1108 (by decide +kernel), by decide +kernel, by decide⟩
theorem mkX11_choice : ruMk mmX11_choice 3 := ⟨ru_mt 12 (by decide +kernel), ru_mt 1137 (by decide +kernel), by decide +kernel, by decide⟩
theorem mkX11_kind : ruMk mmX11_kind 3 := ⟨ru_mt 12 (by decide +kernel), ru_mt 1190 (by decide +kernel), by decide +kernel, by decide⟩
theorem mkX11_isRight : ruMk mmX11_isRight 3 := ⟨ru_mt 12 (by decide +kernel), ru_mt 1133 (by decide +kernel), by decide +kernel, by decide⟩
theorem mkX11_question : ruMk mmX11_question 3 := ⟨ru_mt 12 (by decide +kernel), ru_mt 1057 (by decide +kernel), by decide +kernel, by decide⟩
theorem mkX11_room : ruMk mmX11_room 0 := ⟨ru_mt 12 (by decide +kernel), ru_mt 1072 (by decide +kernel), by decide +kernel, by decide⟩
theorem mkX11_child : ruMk mmX11_child 2 := ⟨ru_mt 12 (by decide +kernel), ru_mt 1077 (by decide +kernel), by decide +kernel, by decide⟩
theorem mkX11_learn : ruMk mmX11_learn 3 := ⟨ru_mt 12 (by decide +kernel), ru_mt 1093 (by decide +kernel), by decide +kernel, by decide⟩
theorem mkX11_forget : ruMk mmX11_forget 2 := ⟨ru_mt 12 (by decide +kernel), ru_mt 1100 (by decide +kernel), by decide +kernel, by decide⟩
theorem mkX11_childIs : ruMk mmX11_childIs 2 := ⟨ru_mt 12 (by decide +kernel), ru_mt 1104 (by decide +kernel), by decide +kernel, by decide⟩
theorem mkX11_year : ruMk mmX11_year 0 := ⟨ru_mt 12 (by decide +kernel), ru_mt 1112 (by decide +kernel), by decide +kernel, by decide⟩
theorem mkX11_rights : ruMk mmX11_rights 2 := ⟨ru_mt 12 (by decide +kernel), ru_mt 1129 (by decide +kernel), by decide +kernel, by decide⟩
theorem mkX11_fresh : ruMk mmX11_fresh 1 := ⟨ru_mt 12 (by decide +kernel), ru_mt 1120 (by decide +kernel), by decide +kernel, by decide⟩
theorem mkX11_put : ruMk mmX11_put 4 := ⟨ru_mt 12 (by decide +kernel), ru_mt 1124 (by decide +kernel), by decide +kernel, by decide⟩
theorem mkX11_sit : ruMk mmX11_sit 2 := ⟨ru_mt 12 (by decide +kernel), ru_mt 1116 (by decide +kernel), by decide +kernel, by decide⟩
theorem mkX11_isSlip : ruMk mmX11_isSlip 1 := ⟨ru_mt 12 (by decide +kernel), ru_mt 1144 (by decide +kernel), by decide +kernel, by decide⟩
theorem mkX11_read : ruMk mmX11_read 2 := ⟨ru_mt 12 (by decide +kernel), ru_mt 1141 (by decide +kernel), by decide +kernel, by decide⟩
theorem mkX11_marks : ruMk mmX11_marks 4 := ⟨ru_mt 12 (by decide +kernel), ru_mt 1154 (by decide +kernel), by decide +kernel, by decide⟩
theorem mkX11_mark : ruMk mmX11_mark 4 := ⟨ru_mt 12 (by decide +kernel), ru_mt 1150 (by decide +kernel), by decide +kernel, by decide⟩
theorem mkX11_copies : ruMk mmX11_copies 2 := ⟨ru_mt 12 (by decide +kernel), ru_mt 1158 (by decide +kernel), by decide +kernel, by decide⟩
theorem mkX11_isOf : ruMk mmX11_isOf 3 := ⟨ru_mt 12 (by decide +kernel), ru_mt 1166 (by decide +kernel), by decide +kernel, by decide⟩
theorem mkX11_said : ruMk mmX11_said 2 := ⟨ru_mt 12 (by decide +kernel), ru_mt 1162 (by decide +kernel), by decide +kernel, by decide⟩
theorem mkX11_puts : ruMk mmX11_puts 2 := ⟨ru_mt 12 (by decide +kernel), ru_mt 1170 (by decide +kernel), by decide +kernel, by decide⟩
theorem mkX11_fills : ruMk mmX11_fills 1 := ⟨ru_mt 12 (by decide +kernel), ru_mt 1174 (by decide +kernel), by decide +kernel, by decide⟩
theorem mkX11_leaves : ruMk mmX11_leaves 1 := ⟨ru_mt 12 (by decide +kernel), ru_mt 1178 (by decide +kernel), by decide +kernel, by decide⟩
theorem mkX11_bubble : ruMk mmX11_bubble 4 := ⟨ru_mt 12 (by decide +kernel), ru_mt 1183 (by decide +kernel), by decide +kernel, by decide⟩
theorem mkX11_unfit : ruMk mmX11_unfit 2 := ⟨ru_mt 12 (by decide +kernel), ru_mt 1198 (by decide +kernel), by decide +kernel, by decide⟩
theorem mkX11_putsOn : ruMk mmX11_putsOn 2 := ⟨ru_mt 12 (by decide +kernel), ru_mt 1202 (by decide +kernel), by decide +kernel, by decide⟩
theorem mkX11_sheetIs : ruMk mmX11_sheetIs 3 := ⟨ru_mt 12 (by decide +kernel), ru_mt 1194 (by decide +kernel), by decide +kernel, by decide⟩
theorem mkX11_above : ruMk mmX11_above 1 := ⟨ru_mt 12 (by decide +kernel), ru_mt 1208 (by decide +kernel), by decide +kernel, by decide⟩
theorem mkX11_isUnder : ruMk mmX11_isUnder 2 := ⟨ru_mt 12 (by decide +kernel), ru_mt 1205 (by decide +kernel), by decide +kernel, by decide⟩
theorem mkX11_weightOf : ruMk mmX11_weightOf 2 := ⟨ru_mt 12 (by decide +kernel), ru_mt 1215 (by decide +kernel), by decide +kernel, by decide⟩
theorem mkX11_weight : ruMk mmX11_weight 2 := ⟨ru_mt 12 (by decide +kernel), ru_mt 1212 (by decide +kernel), by decide +kernel, by decide⟩
theorem mkX11_as : ruMk mmX11_as 4 := ⟨ru_mt 12 (by decide +kernel), ru_mt 1219 (by decide +kernel), by decide +kernel, by decide⟩
theorem mkX11_likes : ruMk mmX11_likes 4 := ⟨ru_mt 12 (by decide +kernel), ru_mt 1244 (by decide +kernel), by decide +kernel, by decide⟩
theorem mkX11_hasBlank : ruMk mmX11_hasBlank 4 := ⟨ru_mt 12 (by decide +kernel), ru_mt 1240 (by decide +kernel), by decide +kernel, by decide⟩
theorem mkX11_findString : ruMk mmX11_findString 3 := ⟨ru_mt 12 (by decide +kernel), ru_mt 1236 (by decide +kernel), by decide +kernel, by decide⟩
theorem mkX11_sheetsOf : ruMk mmX11_sheetsOf 2 := ⟨ru_mt 12 (by decide +kernel), ru_mt 1228 (by decide +kernel), by decide +kernel, by decide⟩
theorem mkX11_measured : ruMk mmX11_measured 3 := ⟨ru_mt 12 (by decide +kernel), ru_mt 1232 (by decide +kernel), by decide +kernel, by decide⟩
theorem mkX11_measure : ruMk mmX11_measure 3 := ⟨ru_mt 12 (by decide +kernel), ru_mt 1224 (by decide +kernel), by decide +kernel, by decide⟩
theorem mkX11_looked : ruMk mmX11_looked 0 := ⟨ru_mt 12 (by decide +kernel), ru_mt 1251 (by decide +kernel), by decide +kernel, by decide⟩
theorem mkX11_string : ruMk mmX11_string 4 := ⟨ru_mt 12 (by decide +kernel), ru_mt 1255 (by decide +kernel), by decide +kernel, by decide⟩
theorem mkX11_odd : ruMk mmX11_odd 4 := ⟨ru_mt 12 (by decide +kernel), ru_mt 1259 (by decide +kernel), by decide +kernel, by decide⟩
theorem mkX11_feed : ruMk mmX11_feed 2 := ⟨ru_mt 12 (by decide +kernel), ru_mt 1263 (by decide +kernel), by decide +kernel, by decide⟩
theorem mkX11_wipe : ruMk mmX11_wipe 0 := ⟨ru_mt 12 (by decide +kernel), ru_mt 1267 (by decide +kernel), by decide +kernel, by decide⟩
theorem mkX11_isByte : ruMk mmX11_isByte 3 := ⟨ru_mt 12 (by decide +kernel), ru_mt 1279 (by decide +kernel), by decide +kernel, by decide⟩
theorem mkX11_next : ruMk mmX11_next 0 := ⟨ru_mt 12 (by decide +kernel), ru_mt 1275 (by decide +kernel), by decide +kernel, by decide⟩
theorem mkX11_need : ruMk mmX11_need 1 := ⟨ru_mt 12 (by decide +kernel), ru_mt 1299 (by decide +kernel), by decide +kernel, by decide⟩
theorem mkX11_isWord : ruMk mmX11_isWord 1 := ⟨ru_mt 12 (by decide +kernel), ru_mt 1315 (by decide +kernel), by decide +kernel, by decide⟩
theorem mkX11_isSign : ruMk mmX11_isSign 1 := ⟨ru_mt 12 (by decide +kernel), ru_mt 1295 (by decide +kernel), by decide +kernel, by decide⟩
theorem mkX11_emit : ruMk mmX11_emit 1 := ⟨ru_mt 12 (by decide +kernel), ru_mt 1303 (by decide +kernel), by decide +kernel, by decide⟩
theorem mkX11_either : ruMk mmX11_either 0 := ⟨ru_mt 12 (by decide +kernel), ru_mt 1283 (by decide +kernel), by decide +kernel, by decide⟩
theorem mkX11_both : ruMk mmX11_both 0 := ⟨ru_mt 12 (by decide +kernel), ru_mt 1287 (by decide +kernel), by decide +kernel, by decide⟩
theorem mkX11_not : ruMk mmX11_not 0 := ⟨ru_mt 12 (by decide +kernel), ru_mt 1291 (by decide +kernel), by decide +kernel, by decide⟩
theorem mkX11_sum : ruMk mmX11_sum 0 := ⟨ru_mt 12 (by decide +kernel), ru_mt 1307 (by decide +kernel), by decide +kernel, by decide⟩
theorem mkX11_part : ruMk mmX11_part 0 := ⟨ru_mt 12 (by decide +kernel), ru_mt 1311 (by decide +kernel), by decide +kernel, by decide⟩
theorem mkX11_way : ruMk mmX11_way 0 := ⟨ru_mt 12 (by decide +kernel), ru_mt 1271 (by decide +kernel), by decide +kernel, by decide⟩
theorem mkX11_done : ruMk mmX11_done 3 := ⟨ru_mt 12 (by decide +kernel), ru_mt 1374 (by decide +kernel), by decide +kernel, by decide⟩
theorem mkX11_worked : ruMk mmX11_worked 3 := ⟨ru_mt 12 (by decide +kernel), ru_mt 1371 (by decide +kernel), by decide +kernel, by decide⟩
theorem mkX11_says : ruMk mmX11_says 3 := ⟨ru_mt 12 (by decide +kernel), ru_mt 1367 (by decide +kernel), by decide +kernel, by decide⟩
theorem mkX11_judges : ruMk mmX11_judges 3 := ⟨ru_mt 12 (by decide +kernel), ru_mt 1378 (by decide +kernel), by decide +kernel, by decide⟩
theorem mkX11_line : ruMk mmX11_line 3 := ⟨ru_mt 12 (by decide +kernel), ru_mt 1382 (by decide +kernel), by decide +kernel, by decide⟩
theorem mkX11_areHours : ruMk mmX11_areHours 2 := ⟨ru_mt 12 (by decide +kernel), ru_mt 1389 (by decide +kernel), by decide +kernel, by decide⟩
theorem mkX11_holds : ruMk mmX11_holds 4 := ⟨ru_mt 12 (by decide +kernel), ru_mt 1386 (by decide +kernel), by decide +kernel, by decide⟩
theorem mkX11_isHeld : ruMk mmX11_isHeld 3 := ⟨ru_mt 12 (by decide +kernel), ru_mt 1397 (by decide +kernel), by decide +kernel, by decide⟩
theorem mkX11_gaps : ruMk mmX11_gaps 4 := ⟨ru_mt 12 (by decide +kernel), ru_mt 1393 (by decide +kernel), by decide +kernel, by decide⟩
theorem mkX11_could : ruMk mmX11_could 4 := ⟨ru_mt 12 (by decide +kernel), ru_mt 1401 (by decide +kernel), by decide +kernel, by decide⟩
theorem mkX11_form : ruMk mmX11_form 2 := ⟨ru_mt 12 (by decide +kernel), ru_mt 1405 (by decide +kernel), by decide +kernel, by decide⟩
theorem mkX11_isBarred : ruMk mmX11_isBarred 2 := ⟨ru_mt 12 (by decide +kernel), ru_mt 1413 (by decide +kernel), by decide +kernel, by decide⟩
theorem mkX11_cheapest : ruMk mmX11_cheapest 2 := ⟨ru_mt 12 (by decide +kernel), ru_mt 1409 (by decide +kernel), by decide +kernel, by decide⟩
theorem mkX11_cut : ruMk mmX11_cut 2 := ⟨ru_mt 12 (by decide +kernel), ru_mt 1424 (by decide +kernel), by decide +kernel, by decide⟩
theorem mkX11_slip : ruMk mmX11_slip 3 := ⟨ru_mt 12 (by decide +kernel), ru_mt 1417 (by decide +kernel), by decide +kernel, by decide⟩
theorem mkX11_write : ruMk mmX11_write 3 := ⟨ru_mt 12 (by decide +kernel), ru_mt 1421 (by decide +kernel), by decide +kernel, by decide⟩
theorem mkX11_copy : ruMk mmX11_copy 5 := ⟨ru_mt 12 (by decide +kernel), ru_mt 1428 (by decide +kernel), by decide +kernel, by decide⟩
theorem mkX11_check : ruMk mmX11_check 3 := ⟨ru_mt 12 (by decide +kernel), ru_mt 1432 (by decide +kernel), by decide +kernel, by decide⟩
theorem mkX11_image : ruMk mmX11_image 0 := ⟨ru_mt 12 (by decide +kernel), ru_mt 1436 (by decide +kernel), by decide +kernel, by decide⟩
theorem mkX11_undo : ruMk mmX11_undo 0 := ⟨ru_mt 12 (by decide +kernel), ru_mt 1440 (by decide +kernel), by decide +kernel, by decide⟩
theorem mkX11_tear : ruMk mmX11_tear 0 := ⟨ru_mt 12 (by decide +kernel), ru_mt 1444 (by decide +kernel), by decide +kernel, by decide⟩
theorem mkX11_allOf : ruMk mmX11_allOf 3 := ⟨ru_mt 12 (by decide +kernel), ru_mt 1452 (by decide +kernel), by decide +kernel, by decide⟩
theorem mkX11_count : ruMk mmX11_count 1 := ⟨ru_mt 12 (by decide +kernel), ru_mt 1448 (by decide +kernel), by decide +kernel, by decide⟩
theorem mkX11_status : ruMk mmX11_status 1 := ⟨ru_mt 12 (by decide +kernel), ru_mt 1456 (by decide +kernel), by decide +kernel, by decide⟩
theorem mkJ6_bitCount_0f7a4 : ruMk mmJ6_bitCount_0f7a4 1 := ⟨ru_mt 15 (by decide +kernel), ru_mt 633 (by decide +kernel), by decide +kernel, by decide⟩
theorem mkJ9_abs_0f7a4 : ruMk mmJ9_abs_0f7a4 1 := ⟨ru_mt 14 (by decide +kernel), ru_mt 505 (by decide +kernel), by decide +kernel, by decide⟩
theorem mkJ0_length_8abf5 : ruMk mmJ0_length_8abf5 0 := ⟨ru_mt 17 (by decide +kernel), ru_mt 1319 (by decide +kernel), by decide +kernel, by decide⟩
theorem mkJ0_charAt_5068e : ruMk mmJ0_charAt_5068e 1 := ⟨ru_mt 17 (by decide +kernel), ru_mt 1329 (by decide +kernel), by decide +kernel, by decide⟩
theorem mkJ0_coder_7d493 : ruMk mmJ0_coder_7d493 0 := ⟨ru_mt 17 (by decide +kernel), ru_mt 1323 (by decide +kernel), by decide +kernel, by decide⟩
theorem mkJ0_isLatin1_aae02 : ruMk mmJ0_isLatin1_aae02 0 := ⟨ru_mt 17 (by decide +kernel), ru_mt 1333 (by decide +kernel), by decide +kernel, by decide⟩
theorem mkJ0_checkIndex_df160 : ruMk mmJ0_checkIndex_df160 2 := ⟨ru_mt 17 (by decide +kernel), ru_mt 1339 (by decide +kernel), by decide +kernel, by decide⟩
theorem mkJ1_charAt_3b067 : ruMk mmJ1_charAt_3b067 2 := ⟨ru_mt 18 (by decide +kernel), ru_mt 1336 (by decide +kernel), by decide +kernel, by decide⟩
theorem mkJ2_getChar_3b067 : ruMk mmJ2_getChar_3b067 2 := ⟨ru_mt 20 (by decide +kernel), ru_mt 1357 (by decide +kernel), by decide +kernel, by decide⟩
theorem mkJ2_length_9d52b : ruMk mmJ2_length_9d52b 1 := ⟨ru_mt 20 (by decide +kernel), ru_mt 1353 (by decide +kernel), by decide +kernel, by decide⟩
theorem mkJ2_charAt_3b067 : ruMk mmJ2_charAt_3b067 2 := ⟨ru_mt 20 (by decide +kernel), ru_mt 1347 (by decide +kernel), by decide +kernel, by decide⟩
theorem mkJ2_checkIndex_2214a : ruMk mmJ2_checkIndex_2214a 2 := ⟨ru_mt 20 (by decide +kernel), ru_mt 1350 (by decide +kernel), by decide +kernel, by decide⟩
theorem mkJ7_rangeCheck_23922 : ruMk mmJ7_rangeCheck_23922 3 := ⟨ru_mt 13 (by decide +kernel), ru_mt 444 (by decide +kernel), by decide +kernel, by decide⟩
theorem mkJ7_fill_53178 : ruMk mmJ7_fill_53178 2 := ⟨ru_mt 13 (by decide +kernel), ru_mt 830 (by decide +kernel), by decide +kernel, by decide⟩
theorem mkJ7_fill_fda19 : ruMk mmJ7_fill_fda19 4 := ⟨ru_mt 13 (by decide +kernel), ru_mt 441 (by decide +kernel), by decide +kernel, by decide⟩
theorem mkJ3_checkIndex_8e157 : ruMk mmJ3_checkIndex_8e157 3 := ⟨ru_mt 19 (by decide +kernel), ru_mt 1344 (by decide +kernel), by decide +kernel, by decide⟩
theorem flX5_30 : ruFd "RubbedSheets$School" 30 5 0 true := ⟨_, _, _, rfl, by decide, ruin5, ru_mt 41 (by decide +kernel), rfl, rfl⟩
theorem flX10_140 : ruFd "RubbedSheets" 140 5 0 true := ⟨_, _, _, rfl, by decide, ruin5, ru_mt 42 (by decide +kernel), rfl, rfl⟩
theorem flX5_34 : ruFd "RubbedSheets$School" 34 5 1 true := ⟨_, _, _, rfl, by decide, ruin5, ru_mt 43 (by decide +kernel), rfl, rfl⟩
theorem flX10_94 : ruFd "RubbedSheets" 94 5 1 true := ⟨_, _, _, rfl, by decide, ruin5, ru_mt 44 (by decide +kernel), rfl, rfl⟩
theorem flX3_85 : ruFd "RubbedSheets$Measures" 85 5 1 true := ⟨_, _, _, rfl, by decide, ruin5, ru_mt 45 (by decide +kernel), rfl, rfl⟩
theorem flX3_32 : ruFd "RubbedSheets$Measures" 32 5 2 true := ⟨_, _, _, rfl, by decide, ruin5, ru_mt 46 (by decide +kernel), rfl, rfl⟩
theorem flX5_37 : ruFd "RubbedSheets$School" 37 5 2 true := ⟨_, _, _, rfl, by decide, ruin5, ru_mt 47 (by decide +kernel), rfl, rfl⟩
theorem flX8_54 : ruFd "RubbedSheets$Strings" 54 5 2 true := ⟨_, _, _, rfl, by decide, ruin5, ru_mt 48 (by decide +kernel), rfl, rfl⟩
theorem flX10_106 : ruFd "RubbedSheets" 106 5 2 true := ⟨_, _, _, rfl, by decide, ruin5, ru_mt 49 (by decide +kernel), rfl, rfl⟩
theorem flX5_9 : ruFd "RubbedSheets$School" 9 5 3 false := ⟨_, _, _, rfl, by decide, ruin5, ru_mt 50 (by decide +kernel), rfl, rfl⟩
theorem flX10_86 : ruFd "RubbedSheets" 86 5 3 false := ⟨_, _, _, rfl, by decide, ruin5, ru_mt 51 (by decide +kernel), rfl, rfl⟩
theorem flX3_65 : ruFd "RubbedSheets$Measures" 65 5 3 false := ⟨_, _, _, rfl, by decide, ruin5, ru_mt 52 (by decide +kernel), rfl, rfl⟩
theorem flX5_15 : ruFd "RubbedSheets$School" 15 5 4 false := ⟨_, _, _, rfl, by decide, ruin5, ru_mt 53 (by decide +kernel), rfl, rfl⟩
theorem flX10_91 : ruFd "RubbedSheets" 91 5 4 false := ⟨_, _, _, rfl, by decide, ruin5, ru_mt 54 (by decide +kernel), rfl, rfl⟩
theorem flX3_68 : ruFd "RubbedSheets$Measures" 68 5 4 false := ⟨_, _, _, rfl, by decide, ruin5, ru_mt 55 (by decide +kernel), rfl, rfl⟩
theorem flX5_18 : ruFd "RubbedSheets$School" 18 5 5 false := ⟨_, _, _, rfl, by decide, ruin5, ru_mt 56 (by decide +kernel), rfl, rfl⟩
theorem flX3_38 : ruFd "RubbedSheets$Measures" 38 5 5 false := ⟨_, _, _, rfl, by decide, ruin5, ru_mt 57 (by decide +kernel), rfl, rfl⟩
theorem flX8_65 : ruFd "RubbedSheets$Strings" 65 5 5 false := ⟨_, _, _, rfl, by decide, ruin5, ru_mt 58 (by decide +kernel), rfl, rfl⟩
theorem flX10_123 : ruFd "RubbedSheets" 123 5 5 false := ⟨_, _, _, rfl, by decide, ruin5, ru_mt 59 (by decide +kernel), rfl, rfl⟩
theorem flX5_21 : ruFd "RubbedSheets$School" 21 5 6 false := ⟨_, _, _, rfl, by decide, ruin5, ru_mt 60 (by decide +kernel), rfl, rfl⟩
theorem flX10_126 : ruFd "RubbedSheets" 126 5 6 false := ⟨_, _, _, rfl, by decide, ruin5, ru_mt 61 (by decide +kernel), rfl, rfl⟩
theorem flX5_24 : ruFd "RubbedSheets$School" 24 5 7 false := ⟨_, _, _, rfl, by decide, ruin5, ru_mt 62 (by decide +kernel), rfl, rfl⟩
theorem flX10_129 : ruFd "RubbedSheets" 129 5 7 false := ⟨_, _, _, rfl, by decide, ruin5, ru_mt 63 (by decide +kernel), rfl, rfl⟩
theorem flX5_27 : ruFd "RubbedSheets$School" 27 5 8 false := ⟨_, _, _, rfl, by decide, ruin5, ru_mt 64 (by decide +kernel), rfl, rfl⟩
theorem flX10_132 : ruFd "RubbedSheets" 132 5 8 false := ⟨_, _, _, rfl, by decide, ruin5, ru_mt 65 (by decide +kernel), rfl, rfl⟩
theorem flX6_9 : ruFd "RubbedSheets$Sheets" 9 6 0 false := ⟨_, _, _, rfl, by decide, ruin6, ru_mt 92 (by decide +kernel), rfl, rfl⟩
theorem flX3_41 : ruFd "RubbedSheets$Measures" 41 6 0 false := ⟨_, _, _, rfl, by decide, ruin6, ru_mt 93 (by decide +kernel), rfl, rfl⟩
theorem flX8_68 : ruFd "RubbedSheets$Strings" 68 6 0 false := ⟨_, _, _, rfl, by decide, ruin6, ru_mt 94 (by decide +kernel), rfl, rfl⟩
theorem flX10_146 : ruFd "RubbedSheets" 146 6 0 false := ⟨_, _, _, rfl, by decide, ruin6, ru_mt 95 (by decide +kernel), rfl, rfl⟩
theorem flX6_15 : ruFd "RubbedSheets$Sheets" 15 6 1 false := ⟨_, _, _, rfl, by decide, ruin6, ru_mt 96 (by decide +kernel), rfl, rfl⟩
theorem flX6_19 : ruFd "RubbedSheets$Sheets" 19 6 2 false := ⟨_, _, _, rfl, by decide, ruin6, ru_mt 97 (by decide +kernel), rfl, rfl⟩
theorem flX6_22 : ruFd "RubbedSheets$Sheets" 22 6 3 false := ⟨_, _, _, rfl, by decide, ruin6, ru_mt 98 (by decide +kernel), rfl, rfl⟩
theorem flX9_20 : ruFd "RubbedSheets$Ways" 20 9 0 true := ⟨_, _, _, rfl, by decide, ruin9, ru_mt 117 (by decide +kernel), rfl, rfl⟩
theorem flX10_284 : ruFd "RubbedSheets" 284 9 0 true := ⟨_, _, _, rfl, by decide, ruin9, ru_mt 118 (by decide +kernel), rfl, rfl⟩
theorem flX9_11 : ruFd "RubbedSheets$Ways" 11 9 1 false := ⟨_, _, _, rfl, by decide, ruin9, ru_mt 119 (by decide +kernel), rfl, rfl⟩
theorem flX10_388 : ruFd "RubbedSheets" 388 9 1 false := ⟨_, _, _, rfl, by decide, ruin9, ru_mt 120 (by decide +kernel), rfl, rfl⟩
theorem flX9_16 : ruFd "RubbedSheets$Ways" 16 9 2 false := ⟨_, _, _, rfl, by decide, ruin9, ru_mt 121 (by decide +kernel), rfl, rfl⟩
theorem flX10_392 : ruFd "RubbedSheets" 392 9 2 false := ⟨_, _, _, rfl, by decide, ruin9, ru_mt 122 (by decide +kernel), rfl, rfl⟩
theorem flX2_27 : ruFd "RubbedSheets$Keys" 27 2 0 true := ⟨_, _, _, rfl, by decide, ruin2, ru_mt 136 (by decide +kernel), rfl, rfl⟩
theorem flX10_315 : ruFd "RubbedSheets" 315 2 0 true := ⟨_, _, _, rfl, by decide, ruin2, ru_mt 137 (by decide +kernel), rfl, rfl⟩
theorem flX2_9 : ruFd "RubbedSheets$Keys" 9 2 1 false := ⟨_, _, _, rfl, by decide, ruin2, ru_mt 138 (by decide +kernel), rfl, rfl⟩
theorem flX2_15 : ruFd "RubbedSheets$Keys" 15 2 2 false := ⟨_, _, _, rfl, by decide, ruin2, ru_mt 139 (by decide +kernel), rfl, rfl⟩
theorem flX2_18 : ruFd "RubbedSheets$Keys" 18 2 3 false := ⟨_, _, _, rfl, by decide, ruin2, ru_mt 140 (by decide +kernel), rfl, rfl⟩
theorem flX2_21 : ruFd "RubbedSheets$Keys" 21 2 4 false := ⟨_, _, _, rfl, by decide, ruin2, ru_mt 141 (by decide +kernel), rfl, rfl⟩
theorem flX2_24 : ruFd "RubbedSheets$Keys" 24 2 5 false := ⟨_, _, _, rfl, by decide, ruin2, ru_mt 142 (by decide +kernel), rfl, rfl⟩
theorem flX1_18 : ruFd "RubbedSheets$Forms" 18 1 0 true := ⟨_, _, _, rfl, by decide, ruin1, ru_mt 162 (by decide +kernel), rfl, rfl⟩
theorem flX10_335 : ruFd "RubbedSheets" 335 1 0 true := ⟨_, _, _, rfl, by decide, ruin1, ru_mt 163 (by decide +kernel), rfl, rfl⟩
theorem flX1_9 : ruFd "RubbedSheets$Forms" 9 1 1 false := ⟨_, _, _, rfl, by decide, ruin1, ru_mt 164 (by decide +kernel), rfl, rfl⟩
theorem flX1_15 : ruFd "RubbedSheets$Forms" 15 1 2 false := ⟨_, _, _, rfl, by decide, ruin1, ru_mt 165 (by decide +kernel), rfl, rfl⟩
theorem flX0_10 : ruFd "RubbedSheets$Book" 10 0 0 false := ⟨_, _, _, rfl, by decide, ruin0, ru_mt 173 (by decide +kernel), rfl, rfl⟩
theorem flX10_23 : ruFd "RubbedSheets" 23 0 0 false := ⟨_, _, _, rfl, by decide, ruin0, ru_mt 174 (by decide +kernel), rfl, rfl⟩
theorem flX0_19 : ruFd "RubbedSheets$Book" 19 0 1 false := ⟨_, _, _, rfl, by decide, ruin0, ru_mt 175 (by decide +kernel), rfl, rfl⟩
theorem flX10_28 : ruFd "RubbedSheets" 28 0 1 false := ⟨_, _, _, rfl, by decide, ruin0, ru_mt 176 (by decide +kernel), rfl, rfl⟩
theorem flX0_26 : ruFd "RubbedSheets$Book" 26 0 2 false := ⟨_, _, _, rfl, by decide, ruin0, ru_mt 177 (by decide +kernel), rfl, rfl⟩
theorem flX10_280 : ruFd "RubbedSheets" 280 0 2 false := ⟨_, _, _, rfl, by decide, ruin0, ru_mt 178 (by decide +kernel), rfl, rfl⟩
theorem flX0_33 : ruFd "RubbedSheets$Book" 33 0 3 false := ⟨_, _, _, rfl, by decide, ruin0, ru_mt 179 (by decide +kernel), rfl, rfl⟩
theorem flX10_312 : ruFd "RubbedSheets" 312 0 3 false := ⟨_, _, _, rfl, by decide, ruin0, ru_mt 180 (by decide +kernel), rfl, rfl⟩
theorem flX0_40 : ruFd "RubbedSheets$Book" 40 0 4 false := ⟨_, _, _, rfl, by decide, ruin0, ru_mt 181 (by decide +kernel), rfl, rfl⟩
theorem flX10_331 : ruFd "RubbedSheets" 331 0 4 false := ⟨_, _, _, rfl, by decide, ruin0, ru_mt 182 (by decide +kernel), rfl, rfl⟩
theorem flX8_34 : ruFd "RubbedSheets$Strings" 34 8 0 true := ⟨_, _, _, rfl, by decide, ruin8, ru_mt 206 (by decide +kernel), rfl, rfl⟩
theorem flX3_55 : ruFd "RubbedSheets$Measures" 55 8 0 true := ⟨_, _, _, rfl, by decide, ruin8, ru_mt 207 (by decide +kernel), rfl, rfl⟩
theorem flX10_254 : ruFd "RubbedSheets" 254 8 0 true := ⟨_, _, _, rfl, by decide, ruin8, ru_mt 208 (by decide +kernel), rfl, rfl⟩
theorem flX8_38 : ruFd "RubbedSheets$Strings" 38 8 1 true := ⟨_, _, _, rfl, by decide, ruin8, ru_mt 209 (by decide +kernel), rfl, rfl⟩
theorem flX10_257 : ruFd "RubbedSheets" 257 8 1 true := ⟨_, _, _, rfl, by decide, ruin8, ru_mt 210 (by decide +kernel), rfl, rfl⟩
theorem flX8_41 : ruFd "RubbedSheets$Strings" 41 8 2 true := ⟨_, _, _, rfl, by decide, ruin8, ru_mt 211 (by decide +kernel), rfl, rfl⟩
theorem flX10_260 : ruFd "RubbedSheets" 260 8 2 true := ⟨_, _, _, rfl, by decide, ruin8, ru_mt 212 (by decide +kernel), rfl, rfl⟩
theorem flX8_44 : ruFd "RubbedSheets$Strings" 44 8 3 true := ⟨_, _, _, rfl, by decide, ruin8, ru_mt 213 (by decide +kernel), rfl, rfl⟩
theorem flX8_51 : ruFd "RubbedSheets$Strings" 51 8 4 true := ⟨_, _, _, rfl, by decide, ruin8, ru_mt 214 (by decide +kernel), rfl, rfl⟩
theorem flX8_9 : ruFd "RubbedSheets$Strings" 9 8 5 false := ⟨_, _, _, rfl, by decide, ruin8, ru_mt 215 (by decide +kernel), rfl, rfl⟩
theorem flX8_15 : ruFd "RubbedSheets$Strings" 15 8 6 false := ⟨_, _, _, rfl, by decide, ruin8, ru_mt 216 (by decide +kernel), rfl, rfl⟩
theorem flX8_19 : ruFd "RubbedSheets$Strings" 19 8 7 false := ⟨_, _, _, rfl, by decide, ruin8, ru_mt 217 (by decide +kernel), rfl, rfl⟩
theorem flX8_22 : ruFd "RubbedSheets$Strings" 22 8 8 false := ⟨_, _, _, rfl, by decide, ruin8, ru_mt 218 (by decide +kernel), rfl, rfl⟩
theorem flX8_26 : ruFd "RubbedSheets$Strings" 26 8 9 false := ⟨_, _, _, rfl, by decide, ruin8, ru_mt 219 (by decide +kernel), rfl, rfl⟩
theorem flX3_28 : ruFd "RubbedSheets$Measures" 28 3 0 false := ⟨_, _, _, rfl, by decide, ruin3, ru_mt 242 (by decide +kernel), rfl, rfl⟩
theorem flX10_245 : ruFd "RubbedSheets" 245 3 0 false := ⟨_, _, _, rfl, by decide, ruin3, ru_mt 243 (by decide +kernel), rfl, rfl⟩
theorem flX3_9 : ruFd "RubbedSheets$Measures" 9 3 1 false := ⟨_, _, _, rfl, by decide, ruin3, ru_mt 244 (by decide +kernel), rfl, rfl⟩
theorem flX10_274 : ruFd "RubbedSheets" 274 3 1 false := ⟨_, _, _, rfl, by decide, ruin3, ru_mt 245 (by decide +kernel), rfl, rfl⟩
theorem flX3_15 : ruFd "RubbedSheets$Measures" 15 3 2 false := ⟨_, _, _, rfl, by decide, ruin3, ru_mt 246 (by decide +kernel), rfl, rfl⟩
theorem flX3_19 : ruFd "RubbedSheets$Measures" 19 3 3 false := ⟨_, _, _, rfl, by decide, ruin3, ru_mt 247 (by decide +kernel), rfl, rfl⟩
theorem flX4_15 : ruFd "RubbedSheets$Reader" 15 4 0 false := ⟨_, _, _, rfl, by decide, ruin4, ru_mt 263 (by decide +kernel), rfl, rfl⟩
theorem flX4_29 : ruFd "RubbedSheets$Reader" 29 4 1 true := ⟨_, _, _, rfl, by decide, ruin4, ru_mt 264 (by decide +kernel), rfl, rfl⟩
theorem flX4_32 : ruFd "RubbedSheets$Reader" 32 4 2 true := ⟨_, _, _, rfl, by decide, ruin4, ru_mt 265 (by decide +kernel), rfl, rfl⟩
theorem flX4_48 : ruFd "RubbedSheets$Reader" 48 4 3 true := ⟨_, _, _, rfl, by decide, ruin4, ru_mt 266 (by decide +kernel), rfl, rfl⟩
theorem flX4_42 : ruFd "RubbedSheets$Reader" 42 4 4 true := ⟨_, _, _, rfl, by decide, ruin4, ru_mt 267 (by decide +kernel), rfl, rfl⟩
theorem flX4_64 : ruFd "RubbedSheets$Reader" 64 4 5 true := ⟨_, _, _, rfl, by decide, ruin4, ru_mt 268 (by decide +kernel), rfl, rfl⟩
theorem flX4_25 : ruFd "RubbedSheets$Reader" 25 4 6 true := ⟨_, _, _, rfl, by decide, ruin4, ru_mt 269 (by decide +kernel), rfl, rfl⟩
theorem flX4_18 : ruFd "RubbedSheets$Reader" 18 4 7 false := ⟨_, _, _, rfl, by decide, ruin4, ru_mt 270 (by decide +kernel), rfl, rfl⟩
theorem flX4_9 : ruFd "RubbedSheets$Reader" 9 4 8 false := ⟨_, _, _, rfl, by decide, ruin4, ru_mt 271 (by decide +kernel), rfl, rfl⟩
theorem flX7_15 : ruFd "RubbedSheets$Slip" 15 7 0 true := ⟨_, _, _, rfl, by decide, ruin7, ru_mt 298 (by decide +kernel), rfl, rfl⟩
theorem flX10_353 : ruFd "RubbedSheets" 353 7 0 true := ⟨_, _, _, rfl, by decide, ruin7, ru_mt 299 (by decide +kernel), rfl, rfl⟩
theorem flX7_19 : ruFd "RubbedSheets$Slip" 19 7 1 true := ⟨_, _, _, rfl, by decide, ruin7, ru_mt 300 (by decide +kernel), rfl, rfl⟩
theorem flX10_170 : ruFd "RubbedSheets" 170 7 1 true := ⟨_, _, _, rfl, by decide, ruin7, ru_mt 301 (by decide +kernel), rfl, rfl⟩
theorem flX7_9 : ruFd "RubbedSheets$Slip" 9 7 2 false := ⟨_, _, _, rfl, by decide, ruin7, ru_mt 302 (by decide +kernel), rfl, rfl⟩
theorem flX10_177 : ruFd "RubbedSheets" 177 7 2 false := ⟨_, _, _, rfl, by decide, ruin7, ru_mt 303 (by decide +kernel), rfl, rfl⟩
theorem flX10_12 : ruFd "RubbedSheets" 12 10 0 false := ⟨_, _, _, rfl, by decide, ruin10, ru_mt 311 (by decide +kernel), rfl, rfl⟩
theorem flX10_16 : ruFd "RubbedSheets" 16 10 1 false := ⟨_, _, _, rfl, by decide, ruin10, ru_mt 312 (by decide +kernel), rfl, rfl⟩
theorem flX10_19 : ruFd "RubbedSheets" 19 10 2 true := ⟨_, _, _, rfl, by decide, ruin10, ru_mt 313 (by decide +kernel), rfl, rfl⟩
theorem flX10_27 : ruFd "RubbedSheets" 27 10 3 false := ⟨_, _, _, rfl, by decide, ruin10, ru_mt 314 (by decide +kernel), rfl, rfl⟩
theorem flX10_32 : ruFd "RubbedSheets" 32 10 4 false := ⟨_, _, _, rfl, by decide, ruin10, ru_mt 315 (by decide +kernel), rfl, rfl⟩
theorem flX10_38 : ruFd "RubbedSheets" 38 10 5 false := ⟨_, _, _, rfl, by decide, ruin10, ru_mt 316 (by decide +kernel), rfl, rfl⟩
theorem flX10_42 : ruFd "RubbedSheets" 42 10 6 false := ⟨_, _, _, rfl, by decide, ruin10, ru_mt 317 (by decide +kernel), rfl, rfl⟩
theorem flX10_49 : ruFd "RubbedSheets" 49 10 7 false := ⟨_, _, _, rfl, by decide, ruin10, ru_mt 318 (by decide +kernel), rfl, rfl⟩
theorem flX10_53 : ruFd "RubbedSheets" 53 10 8 false := ⟨_, _, _, rfl, by decide, ruin10, ru_mt 319 (by decide +kernel), rfl, rfl⟩
theorem flX10_56 : ruFd "RubbedSheets" 56 10 9 true := ⟨_, _, _, rfl, by decide, ruin10, ru_mt 320 (by decide +kernel), rfl, rfl⟩
theorem flX10_62 : ruFd "RubbedSheets" 62 10 10 false := ⟨_, _, _, rfl, by decide, ruin10, ru_mt 321 (by decide +kernel), rfl, rfl⟩
theorem flX10_67 : ruFd "RubbedSheets" 67 10 11 false := ⟨_, _, _, rfl, by decide, ruin10, ru_mt 322 (by decide +kernel), rfl, rfl⟩
theorem flX10_70 : ruFd "RubbedSheets" 70 10 12 true := ⟨_, _, _, rfl, by decide, ruin10, ru_mt 323 (by decide +kernel), rfl, rfl⟩
theorem flX11_9 : ruFd "RubbedSheetsModel" 9 11 0 false := ⟨_, _, _, rfl, by decide, ruin11, ru_mt 977 (by decide +kernel), rfl, rfl⟩
theorem flX11_13 : ruFd "RubbedSheetsModel" 13 11 1 false := ⟨_, _, _, rfl, by decide, ruin11, ru_mt 978 (by decide +kernel), rfl, rfl⟩
theorem flX11_267 : ruFd "RubbedSheetsModel" 267 11 2 true := ⟨_, _, _, rfl, by decide, ruin11, ru_mt 979 (by decide +kernel), rfl, rfl⟩
theorem flX11_177 : ruFd "RubbedSheetsModel" 177 11 3 true := ⟨_, _, _, rfl, by decide, ruin11, ru_mt 980 (by decide +kernel), rfl, rfl⟩
theorem flX11_16 : ruFd "RubbedSheetsModel" 16 11 4 false := ⟨_, _, _, rfl, by decide, ruin11, ru_mt 981 (by decide +kernel), rfl, rfl⟩
theorem flX11_19 : ruFd "RubbedSheetsModel" 19 11 5 false := ⟨_, _, _, rfl, by decide, ruin11, ru_mt 982 (by decide +kernel), rfl, rfl⟩
theorem flX11_183 : ruFd "RubbedSheetsModel" 183 11 6 true := ⟨_, _, _, rfl, by decide, ruin11, ru_mt 983 (by decide +kernel), rfl, rfl⟩
theorem flX11_22 : ruFd "RubbedSheetsModel" 22 11 7 false := ⟨_, _, _, rfl, by decide, ruin11, ru_mt 984 (by decide +kernel), rfl, rfl⟩
theorem flX11_25 : ruFd "RubbedSheetsModel" 25 11 8 false := ⟨_, _, _, rfl, by decide, ruin11, ru_mt 985 (by decide +kernel), rfl, rfl⟩
theorem flX11_28 : ruFd "RubbedSheetsModel" 28 11 9 false := ⟨_, _, _, rfl, by decide, ruin11, ru_mt 986 (by decide +kernel), rfl, rfl⟩
theorem flX11_150 : ruFd "RubbedSheetsModel" 150 11 10 true := ⟨_, _, _, rfl, by decide, ruin11, ru_mt 987 (by decide +kernel), rfl, rfl⟩
theorem flX11_154 : ruFd "RubbedSheetsModel" 154 11 11 true := ⟨_, _, _, rfl, by decide, ruin11, ru_mt 988 (by decide +kernel), rfl, rfl⟩
theorem flX11_157 : ruFd "RubbedSheetsModel" 157 11 12 true := ⟨_, _, _, rfl, by decide, ruin11, ru_mt 989 (by decide +kernel), rfl, rfl⟩
theorem flX11_45 : ruFd "RubbedSheetsModel" 45 11 13 false := ⟨_, _, _, rfl, by decide, ruin11, ru_mt 990 (by decide +kernel), rfl, rfl⟩
theorem flX11_192 : ruFd "RubbedSheetsModel" 192 11 14 true := ⟨_, _, _, rfl, by decide, ruin11, ru_mt 991 (by decide +kernel), rfl, rfl⟩
theorem flX11_189 : ruFd "RubbedSheetsModel" 189 11 15 true := ⟨_, _, _, rfl, by decide, ruin11, ru_mt 992 (by decide +kernel), rfl, rfl⟩
theorem flX11_186 : ruFd "RubbedSheetsModel" 186 11 16 true := ⟨_, _, _, rfl, by decide, ruin11, ru_mt 993 (by decide +kernel), rfl, rfl⟩
theorem flX11_198 : ruFd "RubbedSheetsModel" 198 11 17 true := ⟨_, _, _, rfl, by decide, ruin11, ru_mt 994 (by decide +kernel), rfl, rfl⟩
theorem flX11_233 : ruFd "RubbedSheetsModel" 233 11 18 true := ⟨_, _, _, rfl, by decide, ruin11, ru_mt 995 (by decide +kernel), rfl, rfl⟩
theorem flX11_49 : ruFd "RubbedSheetsModel" 49 11 19 false := ⟨_, _, _, rfl, by decide, ruin11, ru_mt 996 (by decide +kernel), rfl, rfl⟩
theorem flX11_213 : ruFd "RubbedSheetsModel" 213 11 20 true := ⟨_, _, _, rfl, by decide, ruin11, ru_mt 997 (by decide +kernel), rfl, rfl⟩
theorem flX11_52 : ruFd "RubbedSheetsModel" 52 11 21 false := ⟨_, _, _, rfl, by decide, ruin11, ru_mt 998 (by decide +kernel), rfl, rfl⟩
theorem flX11_55 : ruFd "RubbedSheetsModel" 55 11 22 false := ⟨_, _, _, rfl, by decide, ruin11, ru_mt 999 (by decide +kernel), rfl, rfl⟩
theorem flX11_58 : ruFd "RubbedSheetsModel" 58 11 23 false := ⟨_, _, _, rfl, by decide, ruin11, ru_mt 1000 (by decide +kernel), rfl, rfl⟩
theorem flX11_62 : ruFd "RubbedSheetsModel" 62 11 24 false := ⟨_, _, _, rfl, by decide, ruin11, ru_mt 1001 (by decide +kernel), rfl, rfl⟩
theorem fp1_0 : ruFp 1 0 .int := fun C T N h => by
  cases (show some (ruR1, ruT1, 3) = some (C, T, N) from h)
  exact ⟨ruty1, rutyok1, runm1, rfl, rfl⟩
theorem fp2_0 : ruFp 2 0 .int := fun C T N h => by
  cases (show some (ruR2, ruT2, 6) = some (C, T, N) from h)
  exact ⟨ruty2, rutyok2, runm2, rfl, rfl⟩
theorem fp4_0 : ruFp 4 0 (.array .int) := fun C T N h => by
  cases (show some (ruR4, ruT4, 9) = some (C, T, N) from h)
  exact ⟨ruty4, rutyok4, runm4, rfl, rfl⟩
theorem fp4_1 : ruFp 4 1 .int := fun C T N h => by
  cases (show some (ruR4, ruT4, 9) = some (C, T, N) from h)
  exact ⟨ruty4, rutyok4, runm4, rfl, rfl⟩
theorem fp4_2 : ruFp 4 2 .int := fun C T N h => by
  cases (show some (ruR4, ruT4, 9) = some (C, T, N) from h)
  exact ⟨ruty4, rutyok4, runm4, rfl, rfl⟩
theorem fp4_3 : ruFp 4 3 .int := fun C T N h => by
  cases (show some (ruR4, ruT4, 9) = some (C, T, N) from h)
  exact ⟨ruty4, rutyok4, runm4, rfl, rfl⟩
theorem fp4_4 : ruFp 4 4 .int := fun C T N h => by
  cases (show some (ruR4, ruT4, 9) = some (C, T, N) from h)
  exact ⟨ruty4, rutyok4, runm4, rfl, rfl⟩
theorem fp4_5 : ruFp 4 5 .int := fun C T N h => by
  cases (show some (ruR4, ruT4, 9) = some (C, T, N) from h)
  exact ⟨ruty4, rutyok4, runm4, rfl, rfl⟩
theorem fp4_6 : ruFp 4 6 .int := fun C T N h => by
  cases (show some (ruR4, ruT4, 9) = some (C, T, N) from h)
  exact ⟨ruty4, rutyok4, runm4, rfl, rfl⟩
theorem fp4_7 : ruFp 4 7 (.array .int) := fun C T N h => by
  cases (show some (ruR4, ruT4, 9) = some (C, T, N) from h)
  exact ⟨ruty4, rutyok4, runm4, rfl, rfl⟩
theorem fp5_0 : ruFp 5 0 .int := fun C T N h => by
  cases (show some (ruR5, ruT5, 9) = some (C, T, N) from h)
  exact ⟨ruty5, rutyok5, runm5, rfl, rfl⟩
theorem fp5_1 : ruFp 5 1 .int := fun C T N h => by
  cases (show some (ruR5, ruT5, 9) = some (C, T, N) from h)
  exact ⟨ruty5, rutyok5, runm5, rfl, rfl⟩
theorem fp5_2 : ruFp 5 2 .int := fun C T N h => by
  cases (show some (ruR5, ruT5, 9) = some (C, T, N) from h)
  exact ⟨ruty5, rutyok5, runm5, rfl, rfl⟩
theorem fp7_0 : ruFp 7 0 .int := fun C T N h => by
  cases (show some (ruR7, ruT7, 3) = some (C, T, N) from h)
  exact ⟨ruty7, rutyok7, runm7, rfl, rfl⟩
theorem fp7_1 : ruFp 7 1 .int := fun C T N h => by
  cases (show some (ruR7, ruT7, 3) = some (C, T, N) from h)
  exact ⟨ruty7, rutyok7, runm7, rfl, rfl⟩
theorem fp8_0 : ruFp 8 0 .int := fun C T N h => by
  cases (show some (ruR8, ruT8, 10) = some (C, T, N) from h)
  exact ⟨ruty8, rutyok8, runm8, rfl, rfl⟩
theorem fp8_1 : ruFp 8 1 .int := fun C T N h => by
  cases (show some (ruR8, ruT8, 10) = some (C, T, N) from h)
  exact ⟨ruty8, rutyok8, runm8, rfl, rfl⟩
theorem fp8_2 : ruFp 8 2 .int := fun C T N h => by
  cases (show some (ruR8, ruT8, 10) = some (C, T, N) from h)
  exact ⟨ruty8, rutyok8, runm8, rfl, rfl⟩
theorem fp8_3 : ruFp 8 3 .int := fun C T N h => by
  cases (show some (ruR8, ruT8, 10) = some (C, T, N) from h)
  exact ⟨ruty8, rutyok8, runm8, rfl, rfl⟩
theorem fp8_4 : ruFp 8 4 .int := fun C T N h => by
  cases (show some (ruR8, ruT8, 10) = some (C, T, N) from h)
  exact ⟨ruty8, rutyok8, runm8, rfl, rfl⟩
theorem fp9_0 : ruFp 9 0 .int := fun C T N h => by
  cases (show some (ruR9, ruT9, 3) = some (C, T, N) from h)
  exact ⟨ruty9, rutyok9, runm9, rfl, rfl⟩
theorem fp10_2 : ruFp 10 2 .boolean := fun C T N h => by
  cases (show some (ruR10, ruT10, 13) = some (C, T, N) from h)
  exact ⟨ruty10, rutyok10, runm10, rfl, rfl⟩
theorem fp10_9 : ruFp 10 9 .int := fun C T N h => by
  cases (show some (ruR10, ruT10, 13) = some (C, T, N) from h)
  exact ⟨ruty10, rutyok10, runm10, rfl, rfl⟩
theorem fp10_12 : ruFp 10 12 .int := fun C T N h => by
  cases (show some (ruR10, ruT10, 13) = some (C, T, N) from h)
  exact ⟨ruty10, rutyok10, runm10, rfl, rfl⟩
theorem fp11_2 : ruFp 11 2 .boolean := fun C T N h => by
  cases (show some (ruR11, ruT11, 25) = some (C, T, N) from h)
  exact ⟨ruty11, rutyok11, runm11, rfl, rfl⟩
theorem fp11_3 : ruFp 11 3 .int := fun C T N h => by
  cases (show some (ruR11, ruT11, 25) = some (C, T, N) from h)
  exact ⟨ruty11, rutyok11, runm11, rfl, rfl⟩
theorem fp11_6 : ruFp 11 6 .int := fun C T N h => by
  cases (show some (ruR11, ruT11, 25) = some (C, T, N) from h)
  exact ⟨ruty11, rutyok11, runm11, rfl, rfl⟩
theorem fp11_10 : ruFp 11 10 .int := fun C T N h => by
  cases (show some (ruR11, ruT11, 25) = some (C, T, N) from h)
  exact ⟨ruty11, rutyok11, runm11, rfl, rfl⟩
theorem fp11_11 : ruFp 11 11 .int := fun C T N h => by
  cases (show some (ruR11, ruT11, 25) = some (C, T, N) from h)
  exact ⟨ruty11, rutyok11, runm11, rfl, rfl⟩
theorem fp11_12 : ruFp 11 12 .int := fun C T N h => by
  cases (show some (ruR11, ruT11, 25) = some (C, T, N) from h)
  exact ⟨ruty11, rutyok11, runm11, rfl, rfl⟩
theorem fp11_14 : ruFp 11 14 .int := fun C T N h => by
  cases (show some (ruR11, ruT11, 25) = some (C, T, N) from h)
  exact ⟨ruty11, rutyok11, runm11, rfl, rfl⟩
theorem fp11_15 : ruFp 11 15 .int := fun C T N h => by
  cases (show some (ruR11, ruT11, 25) = some (C, T, N) from h)
  exact ⟨ruty11, rutyok11, runm11, rfl, rfl⟩
theorem fp11_16 : ruFp 11 16 .int := fun C T N h => by
  cases (show some (ruR11, ruT11, 25) = some (C, T, N) from h)
  exact ⟨ruty11, rutyok11, runm11, rfl, rfl⟩
theorem fp11_17 : ruFp 11 17 .boolean := fun C T N h => by
  cases (show some (ruR11, ruT11, 25) = some (C, T, N) from h)
  exact ⟨ruty11, rutyok11, runm11, rfl, rfl⟩
theorem fp11_18 : ruFp 11 18 .int := fun C T N h => by
  cases (show some (ruR11, ruT11, 25) = some (C, T, N) from h)
  exact ⟨ruty11, rutyok11, runm11, rfl, rfl⟩
theorem fp11_20 : ruFp 11 20 .int := fun C T N h => by
  cases (show some (ruR11, ruT11, 25) = some (C, T, N) from h)
  exact ⟨ruty11, rutyok11, runm11, rfl, rfl⟩
theorem cvL_13 : ruCV "RubbedSheetsLaw" 13 mmX10_question 3 10 := ⟨ru_mt 351 (by decide +kernel), ru_mt 352 (by decide +kernel), ru_mt 353 (by decide +kernel), mkX10_question, _, _, rfl⟩
theorem csX10_73 : ruCS "RubbedSheets" 73 mmX10_isQuestion 1 := ⟨ru_mt 355 (by decide +kernel), ru_mt 356 (by decide +kernel), mkX10_isQuestion⟩
theorem csX10_77 : ruCS "RubbedSheets" 77 mmX10_isWithin 3 := ⟨ru_mt 358 (by decide +kernel), ru_mt 359 (by decide +kernel), mkX10_isWithin⟩
theorem cvX10_82 : ruCV "RubbedSheets" 82 mmX10_finding 1 10 := ⟨ru_mt 362 (by decide +kernel), ru_mt 364 (by decide +kernel), List.mem_append_left _ (List.mem_map.mpr ⟨_, List.mem_of_getElem? (i := 0) (show lw_privs[0]? = some (_, 13) by decide +kernel), rfl⟩), mkX10_finding, _, _, rfl⟩
theorem cvL_18 : ruCV "RubbedSheetsLaw" 18 mmX10_room 0 10 := ⟨ru_mt 366 (by decide +kernel), ru_mt 367 (by decide +kernel), ru_mt 368 (by decide +kernel), mkX10_room, _, _, rfl⟩
theorem cvL_23 : ruCV "RubbedSheetsLaw" 23 mmX10_child 2 10 := ⟨ru_mt 371 (by decide +kernel), ru_mt 372 (by decide +kernel), ru_mt 373 (by decide +kernel), mkX10_child, _, _, rfl⟩
theorem cvX10_98 : ruCV "RubbedSheets" 98 mmX10_isRoom 1 10 := ⟨ru_mt 375 (by decide +kernel), ru_mt 377 (by decide +kernel), List.mem_append_left _ (List.mem_map.mpr ⟨_, List.mem_of_getElem? (i := 1) (show lw_privs[1]? = some (_, 13) by decide +kernel), rfl⟩), mkX10_isRoom, _, _, rfl⟩
theorem cvX10_101 : ruCV "RubbedSheets" 101 mmX5_isTaken 2 5 := ⟨ru_mt 379 (by decide +kernel), ru_mt 380 (by decide +kernel), ru_mt 381 (by decide +kernel), mkX5_isTaken, _, _, rfl⟩
theorem cvX10_109 : ruCV "RubbedSheets" 109 mmX5_seated 2 5 := ⟨ru_mt 384 (by decide +kernel), ru_mt 385 (by decide +kernel), ru_mt 386 (by decide +kernel), mkX5_seated, _, _, rfl⟩
theorem cvL_28 : ruCV "RubbedSheetsLaw" 28 mmX10_learn 3 10 := ⟨ru_mt 388 (by decide +kernel), ru_mt 389 (by decide +kernel), ru_mt 390 (by decide +kernel), mkX10_learn, _, _, rfl⟩
theorem cvX10_113 : ruCV "RubbedSheets" 113 mmX10_isChild 1 10 := ⟨ru_mt 392 (by decide +kernel), ru_mt 394 (by decide +kernel), List.mem_append_left _ (List.mem_map.mpr ⟨_, List.mem_of_getElem? (i := 2) (show lw_privs[2]? = some (_, 13) by decide +kernel), rfl⟩), mkX10_isChild, _, _, rfl⟩
theorem cvX10_116 : ruCV "RubbedSheets" 116 mmX5_learns 3 5 := ⟨ru_mt 396 (by decide +kernel), ru_mt 397 (by decide +kernel), ru_mt 398 (by decide +kernel), mkX5_learns, _, _, rfl⟩
theorem cvL_33 : ruCV "RubbedSheetsLaw" 33 mmX10_forget 2 10 := ⟨ru_mt 400 (by decide +kernel), ru_mt 401 (by decide +kernel), ru_mt 402 (by decide +kernel), mkX10_forget, _, _, rfl⟩
theorem cvX10_120 : ruCV "RubbedSheets" 120 mmX5_forgets 2 5 := ⟨ru_mt 404 (by decide +kernel), ru_mt 405 (by decide +kernel), ru_mt 406 (by decide +kernel), mkX5_forgets, _, _, rfl⟩
theorem cvL_37 : ruCV "RubbedSheetsLaw" 37 mmX10_childIs 2 10 := ⟨ru_mt 411 (by decide +kernel), ru_mt 412 (by decide +kernel), ru_mt 413 (by decide +kernel), mkX10_childIs, _, _, rfl⟩
theorem cvX10_135 : ruCV "RubbedSheets" 135 mmX6_howManyOf 1 6 := ⟨ru_mt 415 (by decide +kernel), ru_mt 416 (by decide +kernel), ru_mt 417 (by decide +kernel), mkX6_howManyOf, _, _, rfl⟩
theorem csX6_59 : ruCS "RubbedSheets$Sheets" 59 mmX6_place 2 := ⟨ru_mt 419 (by decide +kernel), ru_mt 420 (by decide +kernel), mkX6_place⟩
theorem cvL_41 : ruCV "RubbedSheetsLaw" 41 mmX10_year 0 10 := ⟨ru_mt 422 (by decide +kernel), ru_mt 423 (by decide +kernel), ru_mt 424 (by decide +kernel), mkX10_year, _, _, rfl⟩
theorem cvL_45 : ruCV "RubbedSheetsLaw" 45 mmX10_sit 2 10 := ⟨ru_mt 426 (by decide +kernel), ru_mt 427 (by decide +kernel), ru_mt 428 (by decide +kernel), mkX10_sit, _, _, rfl⟩
theorem cvX10_143 : ruCV "RubbedSheets" 143 mmX10_openSheet 1 10 := ⟨ru_mt 430 (by decide +kernel), ru_mt 432 (by decide +kernel), List.mem_append_left _ (List.mem_map.mpr ⟨_, List.mem_of_getElem? (i := 3) (show lw_privs[3]? = some (_, 13) by decide +kernel), rfl⟩), mkX10_openSheet, _, _, rfl⟩
theorem csX10_206 : ruCS "RubbedSheets" 206 mmX6_place 2 := ⟨ru_mt 434 (by decide +kernel), ru_mt 420 (by decide +kernel), mkX6_place⟩
theorem cvX10_150 : ruCV "RubbedSheets" 150 mmX6_begin 1 6 := ⟨ru_mt 435 (by decide +kernel), ru_mt 436 (by decide +kernel), ru_mt 437 (by decide +kernel), mkX6_begin, _, _, rfl⟩
theorem csX6_31 : ruCS "RubbedSheets$Sheets" 31 mmJ7_fill_fda19 4 := ⟨ru_mt 439 (by decide +kernel), ru_mt 440 (by decide +kernel), mkJ7_fill_fda19⟩
theorem csJ7_13 : ruCS "java/util/Arrays" 13 mmJ7_rangeCheck_23922 3 := ⟨ru_mt 442 (by decide +kernel), ru_mt 443 (by decide +kernel), mkJ7_rangeCheck_23922⟩
theorem cvX10_154 : ruCV "RubbedSheets" 154 mmX10_answerAll 3 10 := ⟨ru_mt 445 (by decide +kernel), ru_mt 447 (by decide +kernel), List.mem_append_left _ (List.mem_map.mpr ⟨_, List.mem_of_getElem? (i := 4) (show lw_privs[4]? = some (_, 13) by decide +kernel), rfl⟩), mkX10_answerAll, _, _, rfl⟩
theorem csX10_234 : ruCS "RubbedSheets" 234 mmX10_has 2 := ⟨ru_mt 449 (by decide +kernel), ru_mt 409 (by decide +kernel), mkX10_has⟩
theorem cvX10_180 : ruCV "RubbedSheets" 180 mmX10_marks 4 10 := ⟨ru_mt 450 (by decide +kernel), ru_mt 452 (by decide +kernel), List.mem_append_left _ (List.mem_map.mpr ⟨_, List.mem_of_getElem? (i := 5) (show lw_privs[5]? = some (_, 13) by decide +kernel), rfl⟩), mkX10_marks, _, _, rfl⟩
theorem cvX10_383 : ruCV "RubbedSheets" 383 mmX6_marked 5 6 := ⟨ru_mt 454 (by decide +kernel), ru_mt 455 (by decide +kernel), ru_mt 456 (by decide +kernel), mkX6_marked, _, _, rfl⟩
theorem csX6_37 : ruCS "RubbedSheets$Sheets" 37 mmX6_rubbing 3 := ⟨ru_mt 458 (by decide +kernel), ru_mt 459 (by decide +kernel), mkX6_rubbing⟩
theorem cvX10_158 : ruCV "RubbedSheets" 158 mmX6_rights 2 6 := ⟨ru_mt 462 (by decide +kernel), ru_mt 463 (by decide +kernel), ru_mt 464 (by decide +kernel), mkX6_rights, _, _, rfl⟩
theorem cvX6_41 : ruCV "RubbedSheets$Sheets" 41 mmX6_choiceAt 2 6 := ⟨ru_mt 466 (by decide +kernel), ru_mt 467 (by decide +kernel), ru_mt 468 (by decide +kernel), mkX6_choiceAt, _, _, rfl⟩
theorem cvL_49 : ruCV "RubbedSheetsLaw" 49 mmX10_read 2 10 := ⟨ru_mt 470 (by decide +kernel), ru_mt 471 (by decide +kernel), ru_mt 472 (by decide +kernel), mkX10_read, _, _, rfl⟩
theorem csX10_162 : ruCS "RubbedSheets" 162 mmX10_isSlip 1 := ⟨ru_mt 474 (by decide +kernel), ru_mt 475 (by decide +kernel), mkX10_isSlip⟩
theorem cvX10_165 : ruCV "RubbedSheets" 165 mmX7_isMissing 0 7 := ⟨ru_mt 477 (by decide +kernel), ru_mt 478 (by decide +kernel), ru_mt 479 (by decide +kernel), mkX7_isMissing, _, _, rfl⟩
theorem cvX10_174 : ruCV "RubbedSheets" 174 mmX7_areWithin 2 7 := ⟨ru_mt 483 (by decide +kernel), ru_mt 484 (by decide +kernel), ru_mt 485 (by decide +kernel), mkX7_areWithin, _, _, rfl⟩
theorem cvL_53 : ruCV "RubbedSheetsLaw" 53 mmX10_mark 4 10 := ⟨ru_mt 488 (by decide +kernel), ru_mt 489 (by decide +kernel), ru_mt 490 (by decide +kernel), mkX10_mark, _, _, rfl⟩
theorem csX10_184 : ruCS "RubbedSheets" 184 mmX10_isKind 1 := ⟨ru_mt 492 (by decide +kernel), ru_mt 493 (by decide +kernel), mkX10_isKind⟩
theorem cvL_58 : ruCV "RubbedSheetsLaw" 58 mmX10_copies 2 10 := ⟨ru_mt 495 (by decide +kernel), ru_mt 496 (by decide +kernel), ru_mt 497 (by decide +kernel), mkX10_copies, _, _, rfl⟩
theorem cvX10_187 : ruCV "RubbedSheets" 187 mmX5_areNeighbours 2 5 := ⟨ru_mt 499 (by decide +kernel), ru_mt 500 (by decide +kernel), ru_mt 501 (by decide +kernel), mkX5_areNeighbours, _, _, rfl⟩
theorem csX5_50 : ruCS "RubbedSheets$School" 50 mmJ9_abs_0f7a4 1 := ⟨ru_mt 503 (by decide +kernel), ru_mt 504 (by decide +kernel), mkJ9_abs_0f7a4⟩
theorem cvX10_190 : ruCV "RubbedSheets" 190 mmX6_choiceAt 2 6 := ⟨ru_mt 506 (by decide +kernel), ru_mt 467 (by decide +kernel), ru_mt 468 (by decide +kernel), mkX6_choiceAt, _, _, rfl⟩
theorem cvL_62 : ruCV "RubbedSheetsLaw" 62 mmX10_said 2 10 := ⟨ru_mt 507 (by decide +kernel), ru_mt 508 (by decide +kernel), ru_mt 509 (by decide +kernel), mkX10_said, _, _, rfl⟩
theorem cvX10_193 : ruCV "RubbedSheets" 193 mmX10_sitsIn 2 10 := ⟨ru_mt 511 (by decide +kernel), ru_mt 513 (by decide +kernel), List.mem_append_left _ (List.mem_map.mpr ⟨_, List.mem_of_getElem? (i := 6) (show lw_privs[6]? = some (_, 13) by decide +kernel), rfl⟩), mkX10_sitsIn, _, _, rfl⟩
theorem cvL_66 : ruCV "RubbedSheetsLaw" 66 mmX10_puts 2 10 := ⟨ru_mt 515 (by decide +kernel), ru_mt 516 (by decide +kernel), ru_mt 517 (by decide +kernel), mkX10_puts, _, _, rfl⟩
theorem cvX10_196 : ruCV "RubbedSheets" 196 mmX10_putRight 2 10 := ⟨ru_mt 519 (by decide +kernel), ru_mt 521 (by decide +kernel), List.mem_append_left _ (List.mem_map.mpr ⟨_, List.mem_of_getElem? (i := 7) (show lw_privs[7]? = some (_, 13) by decide +kernel), rfl⟩), mkX10_putRight, _, _, rfl⟩
theorem cvL_70 : ruCV "RubbedSheetsLaw" 70 mmX10_fills 1 10 := ⟨ru_mt 523 (by decide +kernel), ru_mt 524 (by decide +kernel), ru_mt 525 (by decide +kernel), mkX10_fills, _, _, rfl⟩
theorem cvX10_199 : ruCV "RubbedSheets" 199 mmX10_fillBlanks 1 10 := ⟨ru_mt 527 (by decide +kernel), ru_mt 529 (by decide +kernel), List.mem_append_left _ (List.mem_map.mpr ⟨_, List.mem_of_getElem? (i := 8) (show lw_privs[8]? = some (_, 13) by decide +kernel), rfl⟩), mkX10_fillBlanks, _, _, rfl⟩
theorem cvL_75 : ruCV "RubbedSheetsLaw" 75 mmX10_leaves 1 10 := ⟨ru_mt 531 (by decide +kernel), ru_mt 532 (by decide +kernel), ru_mt 533 (by decide +kernel), mkX10_leaves, _, _, rfl⟩
theorem cvL_79 : ruCV "RubbedSheetsLaw" 79 mmX10_bubble 4 10 := ⟨ru_mt 536 (by decide +kernel), ru_mt 537 (by decide +kernel), ru_mt 538 (by decide +kernel), mkX10_bubble, _, _, rfl⟩
theorem csX10_203 : ruCS "RubbedSheets" 203 mmX10_isYear 1 := ⟨ru_mt 540 (by decide +kernel), ru_mt 541 (by decide +kernel), mkX10_isYear⟩
theorem cvX10_209 : ruCV "RubbedSheets" 209 mmX6_kindAt 2 6 := ⟨ru_mt 543 (by decide +kernel), ru_mt 544 (by decide +kernel), ru_mt 545 (by decide +kernel), mkX6_kindAt, _, _, rfl⟩
theorem cvL_83 : ruCV "RubbedSheetsLaw" 83 mmX10_sheetIs 3 10 := ⟨ru_mt 547 (by decide +kernel), ru_mt 548 (by decide +kernel), ru_mt 549 (by decide +kernel), mkX10_sheetIs, _, _, rfl⟩
theorem cvX10_212 : ruCV "RubbedSheets" 212 mmX6_filled 1 6 := ⟨ru_mt 551 (by decide +kernel), ru_mt 552 (by decide +kernel), ru_mt 553 (by decide +kernel), mkX6_filled, _, _, rfl⟩
theorem cvX10_215 : ruCV "RubbedSheets" 215 mmX6_rubbedAt 2 6 := ⟨ru_mt 555 (by decide +kernel), ru_mt 556 (by decide +kernel), ru_mt 557 (by decide +kernel), mkX6_rubbedAt, _, _, rfl⟩
theorem cvX10_218 : ruCV "RubbedSheets" 218 mmX6_unfitPairs 3 6 := ⟨ru_mt 559 (by decide +kernel), ru_mt 560 (by decide +kernel), ru_mt 561 (by decide +kernel), mkX6_unfitPairs, _, _, rfl⟩
theorem cvX6_55 : ruCV "RubbedSheets$Sheets" 55 mmX6_easierWrong 4 6 := ⟨ru_mt 563 (by decide +kernel), ru_mt 565 (by decide +kernel), List.mem_append_left _ (List.mem_map.mpr ⟨_, List.mem_of_getElem? (i := 9) (show lw_privs[9]? = some (_, 4) by decide +kernel), rfl⟩), mkX6_easierWrong, _, _, rfl⟩
theorem cvX10_222 : ruCV "RubbedSheets" 222 mmX6_standingBy 2 6 := ⟨ru_mt 567 (by decide +kernel), ru_mt 568 (by decide +kernel), ru_mt 569 (by decide +kernel), mkX6_standingBy, _, _, rfl⟩
theorem cvX6_48 : ruCV "RubbedSheets$Sheets" 48 mmX6_kindAt 2 6 := ⟨ru_mt 573 (by decide +kernel), ru_mt 544 (by decide +kernel), ru_mt 545 (by decide +kernel), mkX6_kindAt, _, _, rfl⟩
theorem cvL_87 : ruCV "RubbedSheetsLaw" 87 mmX10_weight 2 10 := ⟨ru_mt 575 (by decide +kernel), ru_mt 576 (by decide +kernel), ru_mt 577 (by decide +kernel), mkX10_weight, _, _, rfl⟩
theorem csX10_225 : ruCS "RubbedSheets" 225 mmX10_ownWeight 1 := ⟨ru_mt 579 (by decide +kernel), ru_mt 580 (by decide +kernel), mkX10_ownWeight⟩
theorem csX10_228 : ruCS "RubbedSheets" 228 mmX10_putWeight 1 := ⟨ru_mt 582 (by decide +kernel), ru_mt 583 (by decide +kernel), mkX10_putWeight⟩
theorem cvL_91 : ruCV "RubbedSheetsLaw" 91 mmX10_as 4 10 := ⟨ru_mt 585 (by decide +kernel), ru_mt 586 (by decide +kernel), ru_mt 587 (by decide +kernel), mkX10_as, _, _, rfl⟩
theorem cvL_95 : ruCV "RubbedSheetsLaw" 95 mmX10_measure 3 10 := ⟨ru_mt 591 (by decide +kernel), ru_mt 592 (by decide +kernel), ru_mt 593 (by decide +kernel), mkX10_measure, _, _, rfl⟩
theorem cvX10_238 : ruCV "RubbedSheets" 238 mmX3_hasSheets 2 3 := ⟨ru_mt 595 (by decide +kernel), ru_mt 596 (by decide +kernel), ru_mt 597 (by decide +kernel), mkX3_hasSheets, _, _, rfl⟩
theorem csX3_47 : ruCS "RubbedSheets$Measures" 47 mmX6_place 2 := ⟨ru_mt 599 (by decide +kernel), ru_mt 420 (by decide +kernel), mkX6_place⟩
theorem cvX10_241 : ruCV "RubbedSheets" 241 mmX3_of 3 3 := ⟨ru_mt 600 (by decide +kernel), ru_mt 601 (by decide +kernel), ru_mt 602 (by decide +kernel), mkX3_of, _, _, rfl⟩
theorem cvX3_51 : ruCV "RubbedSheets$Measures" 51 mmX8_find 3 8 := ⟨ru_mt 604 (by decide +kernel), ru_mt 605 (by decide +kernel), ru_mt 606 (by decide +kernel), mkX8_find, _, _, rfl⟩
theorem cvX8_30 : ruCV "RubbedSheets$Strings" 30 mmX8_gather 2 8 := ⟨ru_mt 608 (by decide +kernel), ru_mt 610 (by decide +kernel), List.mem_append_left _ (List.mem_map.mpr ⟨_, List.mem_of_getElem? (i := 10) (show lw_privs[10]? = some (_, 10) by decide +kernel), rfl⟩), mkX8_gather, _, _, rfl⟩
theorem csX8_59 : ruCS "RubbedSheets$Strings" 59 mmX6_place 2 := ⟨ru_mt 612 (by decide +kernel), ru_mt 420 (by decide +kernel), mkX6_place⟩
theorem cvX8_72 : ruCV "RubbedSheets$Strings" 72 mmX8_pack 1 8 := ⟨ru_mt 613 (by decide +kernel), ru_mt 615 (by decide +kernel), List.mem_append_left _ (List.mem_map.mpr ⟨_, List.mem_of_getElem? (i := 11) (show lw_privs[11]? = some (_, 10) by decide +kernel), rfl⟩), mkX8_pack, _, _, rfl⟩
theorem cvX8_76 : ruCV "RubbedSheets$Strings" 76 mmX6_choiceAt 2 6 := ⟨ru_mt 617 (by decide +kernel), ru_mt 467 (by decide +kernel), ru_mt 468 (by decide +kernel), mkX6_choiceAt, _, _, rfl⟩
theorem cvX8_47 : ruCV "RubbedSheets$Strings" 47 mmX8_lookAt 3 8 := ⟨ru_mt 618 (by decide +kernel), ru_mt 620 (by decide +kernel), List.mem_append_left _ (List.mem_map.mpr ⟨_, List.mem_of_getElem? (i := 12) (show lw_privs[12]? = some (_, 10) by decide +kernel), rfl⟩), mkX8_lookAt, _, _, rfl⟩
theorem cvX8_83 : ruCV "RubbedSheets$Strings" 83 mmX8_alikeTo 3 8 := ⟨ru_mt 623 (by decide +kernel), ru_mt 625 (by decide +kernel), List.mem_append_left _ (List.mem_map.mpr ⟨_, List.mem_of_getElem? (i := 13) (show lw_privs[13]? = some (_, 10) by decide +kernel), rfl⟩), mkX8_alikeTo, _, _, rfl⟩
theorem cvX8_87 : ruCV "RubbedSheets$Strings" 87 mmX8_takeIfBetter 3 8 := ⟨ru_mt 627 (by decide +kernel), ru_mt 629 (by decide +kernel), List.mem_append_left _ (List.mem_map.mpr ⟨_, List.mem_of_getElem? (i := 14) (show lw_privs[14]? = some (_, 10) by decide +kernel), rfl⟩), mkX8_takeIfBetter, _, _, rfl⟩
theorem csX8_90 : ruCS "RubbedSheets$Strings" 90 mmJ6_bitCount_0f7a4 1 := ⟨ru_mt 631 (by decide +kernel), ru_mt 632 (by decide +kernel), mkJ6_bitCount_0f7a4⟩
theorem cvX3_58 : ruCV "RubbedSheets$Measures" 58 mmX3_ofChild 3 3 := ⟨ru_mt 637 (by decide +kernel), ru_mt 639 (by decide +kernel), List.mem_append_left _ (List.mem_map.mpr ⟨_, List.mem_of_getElem? (i := 15) (show lw_privs[15]? = some (_, 4) by decide +kernel), rfl⟩), mkX3_ofChild, _, _, rfl⟩
theorem cvX3_62 : ruCV "RubbedSheets$Measures" 62 mmX6_rubbedAt 2 6 := ⟨ru_mt 641 (by decide +kernel), ru_mt 556 (by decide +kernel), ru_mt 557 (by decide +kernel), mkX6_rubbedAt, _, _, rfl⟩
theorem cvX3_71 : ruCV "RubbedSheets$Measures" 71 mmX6_unfitPairs 3 6 := ⟨ru_mt 642 (by decide +kernel), ru_mt 560 (by decide +kernel), ru_mt 561 (by decide +kernel), mkX6_unfitPairs, _, _, rfl⟩
theorem cvX3_75 : ruCV "RubbedSheets$Measures" 75 mmX3_fallOf 2 3 := ⟨ru_mt 643 (by decide +kernel), ru_mt 645 (by decide +kernel), List.mem_append_left _ (List.mem_map.mpr ⟨_, List.mem_of_getElem? (i := 16) (show lw_privs[16]? = some (_, 4) by decide +kernel), rfl⟩), mkX3_fallOf, _, _, rfl⟩
theorem cvX3_81 : ruCV "RubbedSheets$Measures" 81 mmX6_rights 2 6 := ⟨ru_mt 647 (by decide +kernel), ru_mt 463 (by decide +kernel), ru_mt 464 (by decide +kernel), mkX6_rights, _, _, rfl⟩
theorem cvX3_78 : ruCV "RubbedSheets$Measures" 78 mmX6_standingBy 2 6 := ⟨ru_mt 648 (by decide +kernel), ru_mt 568 (by decide +kernel), ru_mt 569 (by decide +kernel), mkX6_standingBy, _, _, rfl⟩
theorem cvL_99 : ruCV "RubbedSheetsLaw" 99 mmX10_looked 0 10 := ⟨ru_mt 649 (by decide +kernel), ru_mt 650 (by decide +kernel), ru_mt 651 (by decide +kernel), mkX10_looked, _, _, rfl⟩
theorem cvL_103 : ruCV "RubbedSheetsLaw" 103 mmX10_string 4 10 := ⟨ru_mt 653 (by decide +kernel), ru_mt 654 (by decide +kernel), ru_mt 655 (by decide +kernel), mkX10_string, _, _, rfl⟩
theorem cvX10_249 : ruCV "RubbedSheets" 249 mmX8_find 3 8 := ⟨ru_mt 657 (by decide +kernel), ru_mt 605 (by decide +kernel), ru_mt 606 (by decide +kernel), mkX8_find, _, _, rfl⟩
theorem cvL_107 : ruCV "RubbedSheetsLaw" 107 mmX10_odd 4 10 := ⟨ru_mt 658 (by decide +kernel), ru_mt 659 (by decide +kernel), ru_mt 660 (by decide +kernel), mkX10_odd, _, _, rfl⟩
theorem cvX10_263 : ruCV "RubbedSheets" 263 mmX3_roomsWithSheets 1 3 := ⟨ru_mt 662 (by decide +kernel), ru_mt 663 (by decide +kernel), ru_mt 664 (by decide +kernel), mkX3_roomsWithSheets, _, _, rfl⟩
theorem cvX3_88 : ruCV "RubbedSheets$Measures" 88 mmX3_hasSheets 2 3 := ⟨ru_mt 666 (by decide +kernel), ru_mt 596 (by decide +kernel), ru_mt 597 (by decide +kernel), mkX3_hasSheets, _, _, rfl⟩
theorem csX10_266 : ruCS "RubbedSheets" 266 mmJ6_bitCount_0f7a4 1 := ⟨ru_mt 667 (by decide +kernel), ru_mt 632 (by decide +kernel), mkJ6_bitCount_0f7a4⟩
theorem cvX10_271 : ruCV "RubbedSheets" 271 mmX3_workOut 3 3 := ⟨ru_mt 668 (by decide +kernel), ru_mt 669 (by decide +kernel), ru_mt 670 (by decide +kernel), mkX3_workOut, _, _, rfl⟩
theorem cvX3_92 : ruCV "RubbedSheets$Measures" 92 mmX3_of 3 3 := ⟨ru_mt 673 (by decide +kernel), ru_mt 601 (by decide +kernel), ru_mt 602 (by decide +kernel), mkX3_of, _, _, rfl⟩
theorem cvX10_277 : ruCV "RubbedSheets" 277 mmX3_roomsFrom 2 3 := ⟨ru_mt 674 (by decide +kernel), ru_mt 675 (by decide +kernel), ru_mt 676 (by decide +kernel), mkX3_roomsFrom, _, _, rfl⟩
theorem cvL_111 : ruCV "RubbedSheetsLaw" 111 mmX10_feed 2 10 := ⟨ru_mt 678 (by decide +kernel), ru_mt 679 (by decide +kernel), ru_mt 680 (by decide +kernel), mkX10_feed, _, _, rfl⟩
theorem cvL_115 : ruCV "RubbedSheetsLaw" 115 mmX10_wipe 0 10 := ⟨ru_mt 682 (by decide +kernel), ru_mt 683 (by decide +kernel), ru_mt 684 (by decide +kernel), mkX10_wipe, _, _, rfl⟩
theorem cvL_119 : ruCV "RubbedSheetsLaw" 119 mmX10_way 0 10 := ⟨ru_mt 686 (by decide +kernel), ru_mt 687 (by decide +kernel), ru_mt 688 (by decide +kernel), mkX10_way, _, _, rfl⟩
theorem cvX10_287 : ruCV "RubbedSheets" 287 mmX4_faultOf 2 4 := ⟨ru_mt 690 (by decide +kernel), ru_mt 691 (by decide +kernel), ru_mt 692 (by decide +kernel), mkX4_faultOf, _, _, rfl⟩
theorem cvX4_21 : ruCV "RubbedSheets$Reader" 21 mmX4_worthOf 3 4 := ⟨ru_mt 694 (by decide +kernel), ru_mt 695 (by decide +kernel), ru_mt 696 (by decide +kernel), mkX4_worthOf, _, _, rfl⟩
theorem cvX4_35 : ruCV "RubbedSheets$Reader" 35 mmX4_step 0 4 := ⟨ru_mt 698 (by decide +kernel), ru_mt 700 (by decide +kernel), List.mem_append_left _ (List.mem_map.mpr ⟨_, List.mem_of_getElem? (i := 17) (show lw_privs[17]? = some (_, 9) by decide +kernel), rfl⟩), mkX4_step, _, _, rfl⟩
theorem csX4_51 : ruCS "RubbedSheets$Reader" 51 mmX4_isDigit 1 := ⟨ru_mt 702 (by decide +kernel), ru_mt 703 (by decide +kernel), mkX4_isDigit⟩
theorem cvX4_55 : ruCV "RubbedSheets$Reader" 55 mmX4_stepNumber 0 4 := ⟨ru_mt 705 (by decide +kernel), ru_mt 707 (by decide +kernel), List.mem_append_left _ (List.mem_map.mpr ⟨_, List.mem_of_getElem? (i := 18) (show lw_privs[18]? = some (_, 9) by decide +kernel), rfl⟩), mkX4_stepNumber, _, _, rfl⟩
theorem csX4_58 : ruCS "RubbedSheets$Reader" 58 mmX4_isLetter 1 := ⟨ru_mt 709 (by decide +kernel), ru_mt 710 (by decide +kernel), mkX4_isLetter⟩
theorem cvX4_61 : ruCV "RubbedSheets$Reader" 61 mmX4_stepWord 0 4 := ⟨ru_mt 712 (by decide +kernel), ru_mt 714 (by decide +kernel), List.mem_append_left _ (List.mem_map.mpr ⟨_, List.mem_of_getElem? (i := 19) (show lw_privs[19]? = some (_, 9) by decide +kernel), rfl⟩), mkX4_stepWord, _, _, rfl⟩
theorem cvX4_38 : ruCV "RubbedSheets$Reader" 38 mmX4_either 1 4 := ⟨ru_mt 718 (by decide +kernel), ru_mt 720 (by decide +kernel), List.mem_append_left _ (List.mem_map.mpr ⟨_, List.mem_of_getElem? (i := 20) (show lw_privs[20]? = some (_, 9) by decide +kernel), rfl⟩), mkX4_either, _, _, rfl⟩
theorem cvX4_70 : ruCV "RubbedSheets$Reader" 70 mmX4_both 1 4 := ⟨ru_mt 722 (by decide +kernel), ru_mt 724 (by decide +kernel), List.mem_append_left _ (List.mem_map.mpr ⟨_, List.mem_of_getElem? (i := 21) (show lw_privs[21]? = some (_, 9) by decide +kernel), rfl⟩), mkX4_both, _, _, rfl⟩
theorem cvX4_73 : ruCV "RubbedSheets$Reader" 73 mmX4_denied 1 4 := ⟨ru_mt 726 (by decide +kernel), ru_mt 728 (by decide +kernel), List.mem_append_left _ (List.mem_map.mpr ⟨_, List.mem_of_getElem? (i := 22) (show lw_privs[22]? = some (_, 9) by decide +kernel), rfl⟩), mkX4_denied, _, _, rfl⟩
theorem cvX4_76 : ruCV "RubbedSheets$Reader" 76 mmX4_compared 1 4 := ⟨ru_mt 730 (by decide +kernel), ru_mt 732 (by decide +kernel), List.mem_append_left _ (List.mem_map.mpr ⟨_, List.mem_of_getElem? (i := 23) (show lw_privs[23]? = some (_, 9) by decide +kernel), rfl⟩), mkX4_compared, _, _, rfl⟩
theorem cvX4_79 : ruCV "RubbedSheets$Reader" 79 mmX4_sum 1 4 := ⟨ru_mt 734 (by decide +kernel), ru_mt 736 (by decide +kernel), List.mem_append_left _ (List.mem_map.mpr ⟨_, List.mem_of_getElem? (i := 24) (show lw_privs[24]? = some (_, 9) by decide +kernel), rfl⟩), mkX4_sum, _, _, rfl⟩
theorem cvX4_82 : ruCV "RubbedSheets$Reader" 82 mmX4_part 1 4 := ⟨ru_mt 738 (by decide +kernel), ru_mt 740 (by decide +kernel), List.mem_append_left _ (List.mem_map.mpr ⟨_, List.mem_of_getElem? (i := 25) (show lw_privs[25]? = some (_, 9) by decide +kernel), rfl⟩), mkX4_part, _, _, rfl⟩
theorem cvX4_45 : ruCV "RubbedSheets$Reader" 45 mmX4_fail 0 4 := ⟨ru_mt 742 (by decide +kernel), ru_mt 744 (by decide +kernel), List.mem_append_left _ (List.mem_map.mpr ⟨_, List.mem_of_getElem? (i := 26) (show lw_privs[26]? = some (_, 9) by decide +kernel), rfl⟩), mkX4_fail, _, _, rfl⟩
theorem cvX10_291 : ruCV "RubbedSheets" 291 mmX9_taken 2 9 := ⟨ru_mt 746 (by decide +kernel), ru_mt 747 (by decide +kernel), ru_mt 748 (by decide +kernel), mkX9_taken, _, _, rfl⟩
theorem cvL_123 : ruCV "RubbedSheetsLaw" 123 mmX10_says 3 10 := ⟨ru_mt 753 (by decide +kernel), ru_mt 754 (by decide +kernel), ru_mt 755 (by decide +kernel), mkX10_says, _, _, rfl⟩
theorem cvX10_294 : ruCV "RubbedSheets" 294 mmX10_isWay 1 10 := ⟨ru_mt 757 (by decide +kernel), ru_mt 759 (by decide +kernel), List.mem_append_left _ (List.mem_map.mpr ⟨_, List.mem_of_getElem? (i := 27) (show lw_privs[27]? = some (_, 13) by decide +kernel), rfl⟩), mkX10_isWay, _, _, rfl⟩
theorem cvX10_297 : ruCV "RubbedSheets" 297 mmX10_comesTo 3 10 := ⟨ru_mt 761 (by decide +kernel), ru_mt 763 (by decide +kernel), List.mem_append_left _ (List.mem_map.mpr ⟨_, List.mem_of_getElem? (i := 28) (show lw_privs[28]? = some (_, 13) by decide +kernel), rfl⟩), mkX10_comesTo, _, _, rfl⟩
theorem cvX10_395 : ruCV "RubbedSheets" 395 mmX4_worthOf 3 4 := ⟨ru_mt 765 (by decide +kernel), ru_mt 695 (by decide +kernel), ru_mt 696 (by decide +kernel), mkX4_worthOf, _, _, rfl⟩
theorem cvL_127 : ruCV "RubbedSheetsLaw" 127 mmX10_judges 3 10 := ⟨ru_mt 766 (by decide +kernel), ru_mt 767 (by decide +kernel), ru_mt 768 (by decide +kernel), mkX10_judges, _, _, rfl⟩
theorem cvX10_300 : ruCV "RubbedSheets" 300 mmX10_flaggedBy 2 10 := ⟨ru_mt 770 (by decide +kernel), ru_mt 772 (by decide +kernel), List.mem_append_left _ (List.mem_map.mpr ⟨_, List.mem_of_getElem? (i := 29) (show lw_privs[29]? = some (_, 13) by decide +kernel), rfl⟩), mkX10_flaggedBy, _, _, rfl⟩
theorem cvX10_303 : ruCV "RubbedSheets" 303 mmX3_roomsWithPuts 1 3 := ⟨ru_mt 774 (by decide +kernel), ru_mt 775 (by decide +kernel), ru_mt 776 (by decide +kernel), mkX3_roomsWithPuts, _, _, rfl⟩
theorem cvL_131 : ruCV "RubbedSheetsLaw" 131 mmX10_line 3 10 := ⟨ru_mt 778 (by decide +kernel), ru_mt 779 (by decide +kernel), ru_mt 780 (by decide +kernel), mkX10_line, _, _, rfl⟩
theorem cvX10_306 : ruCV "RubbedSheets" 306 mmX3_bestLine 2 3 := ⟨ru_mt 782 (by decide +kernel), ru_mt 783 (by decide +kernel), ru_mt 784 (by decide +kernel), mkX3_bestLine, _, _, rfl⟩
theorem cvX3_102 : ruCV "RubbedSheets$Measures" 102 mmX3_isBetter 4 3 := ⟨ru_mt 787 (by decide +kernel), ru_mt 789 (by decide +kernel), List.mem_append_left _ (List.mem_map.mpr ⟨_, List.mem_of_getElem? (i := 30) (show lw_privs[30]? = some (_, 4) by decide +kernel), rfl⟩), mkX3_isBetter, _, _, rfl⟩
theorem cvX3_106 : ruCV "RubbedSheets$Measures" 106 mmX3_roomsFrom 2 3 := ⟨ru_mt 791 (by decide +kernel), ru_mt 675 (by decide +kernel), ru_mt 676 (by decide +kernel), mkX3_roomsFrom, _, _, rfl⟩
theorem csX3_109 : ruCS "RubbedSheets$Measures" 109 mmJ6_bitCount_0f7a4 1 := ⟨ru_mt 792 (by decide +kernel), ru_mt 632 (by decide +kernel), mkJ6_bitCount_0f7a4⟩
theorem cvL_135 : ruCV "RubbedSheetsLaw" 135 mmX10_holds 4 10 := ⟨ru_mt 793 (by decide +kernel), ru_mt 794 (by decide +kernel), ru_mt 795 (by decide +kernel), mkX10_holds, _, _, rfl⟩
theorem csX10_309 : ruCS "RubbedSheets" 309 mmX10_areHours 2 := ⟨ru_mt 797 (by decide +kernel), ru_mt 798 (by decide +kernel), mkX10_areHours⟩
theorem cvX10_318 : ruCV "RubbedSheets" 318 mmX2_given 4 2 := ⟨ru_mt 800 (by decide +kernel), ru_mt 801 (by decide +kernel), ru_mt 802 (by decide +kernel), mkX2_given, _, _, rfl⟩
theorem cvL_139 : ruCV "RubbedSheetsLaw" 139 mmX10_gaps 4 10 := ⟨ru_mt 804 (by decide +kernel), ru_mt 805 (by decide +kernel), ru_mt 806 (by decide +kernel), mkX10_gaps, _, _, rfl⟩
theorem cvX10_322 : ruCV "RubbedSheets" 322 mmX2_gapCount 3 2 := ⟨ru_mt 808 (by decide +kernel), ru_mt 809 (by decide +kernel), ru_mt 810 (by decide +kernel), mkX2_gapCount, _, _, rfl⟩
theorem cvX2_37 : ruCV "RubbedSheets$Keys" 37 mmX2_holdersAt 2 2 := ⟨ru_mt 812 (by decide +kernel), ru_mt 814 (by decide +kernel), List.mem_append_left _ (List.mem_map.mpr ⟨_, List.mem_of_getElem? (i := 31) (show lw_privs[31]? = some (_, 6) by decide +kernel), rfl⟩), mkX2_holdersAt, _, _, rfl⟩
theorem cvX10_325 : ruCV "RubbedSheets" 325 mmX2_firstGap 3 2 := ⟨ru_mt 816 (by decide +kernel), ru_mt 817 (by decide +kernel), ru_mt 818 (by decide +kernel), mkX2_firstGap, _, _, rfl⟩
theorem cvL_143 : ruCV "RubbedSheetsLaw" 143 mmX10_could 4 10 := ⟨ru_mt 820 (by decide +kernel), ru_mt 821 (by decide +kernel), ru_mt 822 (by decide +kernel), mkX10_could, _, _, rfl⟩
theorem cvX10_328 : ruCV "RubbedSheets" 328 mmX2_holdersOfAtLeast 4 2 := ⟨ru_mt 824 (by decide +kernel), ru_mt 825 (by decide +kernel), ru_mt 826 (by decide +kernel), mkX2_holdersOfAtLeast, _, _, rfl⟩
theorem csX2_41 : ruCS "RubbedSheets$Keys" 41 mmJ7_fill_53178 2 := ⟨ru_mt 828 (by decide +kernel), ru_mt 829 (by decide +kernel), mkJ7_fill_53178⟩
theorem cvL_147 : ruCV "RubbedSheetsLaw" 147 mmX10_form 2 10 := ⟨ru_mt 831 (by decide +kernel), ru_mt 832 (by decide +kernel), ru_mt 833 (by decide +kernel), mkX10_form, _, _, rfl⟩
theorem cvX10_338 : ruCV "RubbedSheets" 338 mmX1_made 2 1 := ⟨ru_mt 835 (by decide +kernel), ru_mt 836 (by decide +kernel), ru_mt 837 (by decide +kernel), mkX1_made, _, _, rfl⟩
theorem csX1_28 : ruCS "RubbedSheets$Forms" 28 mmX1_withThoseUnder 1 := ⟨ru_mt 839 (by decide +kernel), ru_mt 840 (by decide +kernel), mkX1_withThoseUnder⟩
theorem cvL_151 : ruCV "RubbedSheetsLaw" 151 mmX10_cheapest 2 10 := ⟨ru_mt 844 (by decide +kernel), ru_mt 845 (by decide +kernel), ru_mt 846 (by decide +kernel), mkX10_cheapest, _, _, rfl⟩
theorem cvX10_341 : ruCV "RubbedSheets" 341 mmX1_cheapestSet 1 1 := ⟨ru_mt 848 (by decide +kernel), ru_mt 849 (by decide +kernel), ru_mt 850 (by decide +kernel), mkX1_cheapestSet, _, _, rfl⟩
theorem cvX1_39 : ruCV "RubbedSheets$Forms" 39 mmX1_barredBy 1 1 := ⟨ru_mt 852 (by decide +kernel), ru_mt 854 (by decide +kernel), List.mem_append_left _ (List.mem_map.mpr ⟨_, List.mem_of_getElem? (i := 32) (show lw_privs[32]? = some (_, 3) by decide +kernel), rfl⟩), mkX1_barredBy, _, _, rfl⟩
theorem cvX1_42 : ruCV "RubbedSheets$Forms" 42 mmX1_isBetter 2 1 := ⟨ru_mt 856 (by decide +kernel), ru_mt 858 (by decide +kernel), List.mem_append_left _ (List.mem_map.mpr ⟨_, List.mem_of_getElem? (i := 33) (show lw_privs[33]? = some (_, 3) by decide +kernel), rfl⟩), mkX1_isBetter, _, _, rfl⟩
theorem cvX1_45 : ruCV "RubbedSheets$Forms" 45 mmX1_priceOf 1 1 := ⟨ru_mt 860 (by decide +kernel), ru_mt 861 (by decide +kernel), ru_mt 862 (by decide +kernel), mkX1_priceOf, _, _, rfl⟩
theorem csX1_48 : ruCS "RubbedSheets$Forms" 48 mmJ6_bitCount_0f7a4 1 := ⟨ru_mt 864 (by decide +kernel), ru_mt 632 (by decide +kernel), mkJ6_bitCount_0f7a4⟩
theorem cvX10_344 : ruCV "RubbedSheets" 344 mmX1_priceOf 1 1 := ⟨ru_mt 865 (by decide +kernel), ru_mt 861 (by decide +kernel), ru_mt 862 (by decide +kernel), mkX1_priceOf, _, _, rfl⟩
theorem cvL_155 : ruCV "RubbedSheetsLaw" 155 mmX10_slip 3 10 := ⟨ru_mt 866 (by decide +kernel), ru_mt 867 (by decide +kernel), ru_mt 868 (by decide +kernel), mkX10_slip, _, _, rfl⟩
theorem cvX10_347 : ruCV "RubbedSheets" 347 mmX7_renewed 2 7 := ⟨ru_mt 870 (by decide +kernel), ru_mt 871 (by decide +kernel), ru_mt 872 (by decide +kernel), mkX7_renewed, _, _, rfl⟩
theorem csX7_22 : ruCS "RubbedSheets$Slip" 22 mmJ7_fill_53178 2 := ⟨ru_mt 874 (by decide +kernel), ru_mt 829 (by decide +kernel), mkJ7_fill_53178⟩
theorem cvL_159 : ruCV "RubbedSheetsLaw" 159 mmX10_write 3 10 := ⟨ru_mt 875 (by decide +kernel), ru_mt 876 (by decide +kernel), ru_mt 877 (by decide +kernel), mkX10_write, _, _, rfl⟩
theorem cvX10_350 : ruCV "RubbedSheets" 350 mmX7_lowestBits 1 7 := ⟨ru_mt 879 (by decide +kernel), ru_mt 880 (by decide +kernel), ru_mt 881 (by decide +kernel), mkX7_lowestBits, _, _, rfl⟩
theorem cvL_163 : ruCV "RubbedSheetsLaw" 163 mmX10_copy 5 10 := ⟨ru_mt 883 (by decide +kernel), ru_mt 884 (by decide +kernel), ru_mt 885 (by decide +kernel), mkX10_copy, _, _, rfl⟩
theorem cvX10_356 : ruCV "RubbedSheets" 356 mmX7_hasPart 2 7 := ⟨ru_mt 887 (by decide +kernel), ru_mt 888 (by decide +kernel), ru_mt 889 (by decide +kernel), mkX7_hasPart, _, _, rfl⟩
theorem cvL_168 : ruCV "RubbedSheetsLaw" 168 mmX10_check 3 10 := ⟨ru_mt 892 (by decide +kernel), ru_mt 893 (by decide +kernel), ru_mt 894 (by decide +kernel), mkX10_check, _, _, rfl⟩
theorem cvL_172 : ruCV "RubbedSheetsLaw" 172 mmX10_image 0 10 := ⟨ru_mt 896 (by decide +kernel), ru_mt 897 (by decide +kernel), ru_mt 898 (by decide +kernel), mkX10_image, _, _, rfl⟩
theorem cvX10_365 : ruCV "RubbedSheets" 365 mmX0_become 1 0 := ⟨ru_mt 900 (by decide +kernel), ru_mt 901 (by decide +kernel), ru_mt 902 (by decide +kernel), mkX0_become, _, _, rfl⟩
theorem cvX0_44 : ruCV "RubbedSheets$Book" 44 mmX5_become 1 5 := ⟨ru_mt 904 (by decide +kernel), ru_mt 905 (by decide +kernel), ru_mt 906 (by decide +kernel), mkX5_become, _, _, rfl⟩
theorem cvX0_48 : ruCV "RubbedSheets$Book" 48 mmX6_become 1 6 := ⟨ru_mt 909 (by decide +kernel), ru_mt 910 (by decide +kernel), ru_mt 911 (by decide +kernel), mkX6_become, _, _, rfl⟩
theorem cvX0_51 : ruCV "RubbedSheets$Book" 51 mmX9_become 1 9 := ⟨ru_mt 914 (by decide +kernel), ru_mt 915 (by decide +kernel), ru_mt 916 (by decide +kernel), mkX9_become, _, _, rfl⟩
theorem cvX0_54 : ruCV "RubbedSheets$Book" 54 mmX2_become 1 2 := ⟨ru_mt 918 (by decide +kernel), ru_mt 919 (by decide +kernel), ru_mt 920 (by decide +kernel), mkX2_become, _, _, rfl⟩
theorem cvX0_57 : ruCV "RubbedSheets$Book" 57 mmX1_become 1 1 := ⟨ru_mt 923 (by decide +kernel), ru_mt 924 (by decide +kernel), ru_mt 925 (by decide +kernel), mkX1_become, _, _, rfl⟩
theorem cvL_176 : ruCV "RubbedSheetsLaw" 176 mmX10_undo 0 10 := ⟨ru_mt 928 (by decide +kernel), ru_mt 929 (by decide +kernel), ru_mt 930 (by decide +kernel), mkX10_undo, _, _, rfl⟩
theorem cvL_180 : ruCV "RubbedSheetsLaw" 180 mmX10_tear 0 10 := ⟨ru_mt 932 (by decide +kernel), ru_mt 933 (by decide +kernel), ru_mt 934 (by decide +kernel), mkX10_tear, _, _, rfl⟩
theorem cvL_184 : ruCV "RubbedSheetsLaw" 184 mmX10_count 1 10 := ⟨ru_mt 936 (by decide +kernel), ru_mt 937 (by decide +kernel), ru_mt 938 (by decide +kernel), mkX10_count, _, _, rfl⟩
theorem cvX10_369 : ruCV "RubbedSheets" 369 mmX6_howManyIn 1 6 := ⟨ru_mt 940 (by decide +kernel), ru_mt 941 (by decide +kernel), ru_mt 942 (by decide +kernel), mkX6_howManyIn, _, _, rfl⟩
theorem cvX10_372 : ruCV "RubbedSheets" 372 mmX6_howMany 0 6 := ⟨ru_mt 944 (by decide +kernel), ru_mt 945 (by decide +kernel), ru_mt 946 (by decide +kernel), mkX6_howMany, _, _, rfl⟩
theorem cvX6_62 : ruCV "RubbedSheets$Sheets" 62 mmX6_howManyIn 1 6 := ⟨ru_mt 948 (by decide +kernel), ru_mt 941 (by decide +kernel), ru_mt 942 (by decide +kernel), mkX6_howManyIn, _, _, rfl⟩
theorem cvX10_376 : ruCV "RubbedSheets" 376 mmX6_allFilled 0 6 := ⟨ru_mt 949 (by decide +kernel), ru_mt 950 (by decide +kernel), ru_mt 951 (by decide +kernel), mkX6_allFilled, _, _, rfl⟩
theorem cvX6_66 : ruCV "RubbedSheets$Sheets" 66 mmX6_filled 1 6 := ⟨ru_mt 953 (by decide +kernel), ru_mt 552 (by decide +kernel), ru_mt 553 (by decide +kernel), mkX6_filled, _, _, rfl⟩
theorem cvX10_379 : ruCV "RubbedSheets" 379 mmX6_allRights 1 6 := ⟨ru_mt 954 (by decide +kernel), ru_mt 955 (by decide +kernel), ru_mt 956 (by decide +kernel), mkX6_allRights, _, _, rfl⟩
theorem cvX6_69 : ruCV "RubbedSheets$Sheets" 69 mmX6_rights 2 6 := ⟨ru_mt 958 (by decide +kernel), ru_mt 463 (by decide +kernel), ru_mt 464 (by decide +kernel), mkX6_rights, _, _, rfl⟩
theorem cvL_188 : ruCV "RubbedSheetsLaw" 188 mmX10_status 1 10 := ⟨ru_mt 959 (by decide +kernel), ru_mt 960 (by decide +kernel), ru_mt 961 (by decide +kernel), mkX10_status, _, _, rfl⟩
theorem cvL_17 : ruCV "RubbedSheetsLaw" 17 mmX11_question 3 11 := ⟨ru_mt 1054 (by decide +kernel), ru_mt 1055 (by decide +kernel), ru_mt 1056 (by decide +kernel), mkX11_question, _, _, rfl⟩
theorem csX11_78 : ruCS "RubbedSheetsModel" 78 mmX11_isQuestion 1 := ⟨ru_mt 1058 (by decide +kernel), ru_mt 1059 (by decide +kernel), mkX11_isQuestion⟩
theorem csX11_66 : ruCS "RubbedSheetsModel" 66 mmX11_within 3 := ⟨ru_mt 1061 (by decide +kernel), ru_mt 1062 (by decide +kernel), mkX11_within⟩
theorem cvX11_82 : ruCV "RubbedSheetsModel" 82 mmX11_finding 1 11 := ⟨ru_mt 1065 (by decide +kernel), ru_mt 1067 (by decide +kernel), List.mem_append_left _ (List.mem_map.mpr ⟨_, List.mem_of_getElem? (i := 34) (show lw_privs[34]? = some (_, 25) by decide +kernel), rfl⟩), mkX11_finding, _, _, rfl⟩
theorem cvL_22 : ruCV "RubbedSheetsLaw" 22 mmX11_room 0 11 := ⟨ru_mt 1069 (by decide +kernel), ru_mt 1070 (by decide +kernel), ru_mt 1071 (by decide +kernel), mkX11_room, _, _, rfl⟩
theorem cvL_27 : ruCV "RubbedSheetsLaw" 27 mmX11_child 2 11 := ⟨ru_mt 1074 (by decide +kernel), ru_mt 1075 (by decide +kernel), ru_mt 1076 (by decide +kernel), mkX11_child, _, _, rfl⟩
theorem cvX11_87 : ruCV "RubbedSheetsModel" 87 mmX11_is 2 11 := ⟨ru_mt 1078 (by decide +kernel), ru_mt 1080 (by decide +kernel), List.mem_append_left _ (List.mem_map.mpr ⟨_, List.mem_of_getElem? (i := 35) (show lw_privs[35]? = some (_, 25) by decide +kernel), rfl⟩), mkX11_is, _, _, rfl⟩
theorem cvX11_91 : ruCV "RubbedSheetsModel" 91 mmX11_childOf 2 11 := ⟨ru_mt 1082 (by decide +kernel), ru_mt 1084 (by decide +kernel), List.mem_append_left _ (List.mem_map.mpr ⟨_, List.mem_of_getElem? (i := 36) (show lw_privs[36]? = some (_, 25) by decide +kernel), rfl⟩), mkX11_childOf, _, _, rfl⟩
theorem csX11_70 : ruCS "RubbedSheetsModel" 70 mmX11_sheetAt 2 := ⟨ru_mt 1087 (by decide +kernel), ru_mt 1088 (by decide +kernel), mkX11_sheetAt⟩
theorem cvL_32 : ruCV "RubbedSheetsLaw" 32 mmX11_learn 3 11 := ⟨ru_mt 1090 (by decide +kernel), ru_mt 1091 (by decide +kernel), ru_mt 1092 (by decide +kernel), mkX11_learn, _, _, rfl⟩
theorem csX11_95 : ruCS "RubbedSheetsModel" 95 mmX11_has 2 := ⟨ru_mt 1094 (by decide +kernel), ru_mt 1095 (by decide +kernel), mkX11_has⟩
theorem cvL_36 : ruCV "RubbedSheetsLaw" 36 mmX11_forget 2 11 := ⟨ru_mt 1097 (by decide +kernel), ru_mt 1098 (by decide +kernel), ru_mt 1099 (by decide +kernel), mkX11_forget, _, _, rfl⟩
theorem cvL_40 : ruCV "RubbedSheetsLaw" 40 mmX11_childIs 2 11 := ⟨ru_mt 1101 (by decide +kernel), ru_mt 1102 (by decide +kernel), ru_mt 1103 (by decide +kernel), mkX11_childIs, _, _, rfl⟩
theorem cvX11_98 : ruCV "RubbedSheetsModel" 98 mmX11_hasSheet 2 11 := ⟨ru_mt 1105 (by decide +kernel), ru_mt 1107 (by decide +kernel), List.mem_append_left _ (List.mem_map.mpr ⟨_, List.mem_of_getElem? (i := 37) (show lw_privs[37]? = some (_, 25) by decide +kernel), rfl⟩), mkX11_hasSheet, _, _, rfl⟩
theorem cvL_44 : ruCV "RubbedSheetsLaw" 44 mmX11_year 0 11 := ⟨ru_mt 1109 (by decide +kernel), ru_mt 1110 (by decide +kernel), ru_mt 1111 (by decide +kernel), mkX11_year, _, _, rfl⟩
theorem cvL_48 : ruCV "RubbedSheetsLaw" 48 mmX11_sit 2 11 := ⟨ru_mt 1113 (by decide +kernel), ru_mt 1114 (by decide +kernel), ru_mt 1115 (by decide +kernel), mkX11_sit, _, _, rfl⟩
theorem cvX11_104 : ruCV "RubbedSheetsModel" 104 mmX11_fresh 1 11 := ⟨ru_mt 1117 (by decide +kernel), ru_mt 1119 (by decide +kernel), List.mem_append_left _ (List.mem_map.mpr ⟨_, List.mem_of_getElem? (i := 38) (show lw_privs[38]? = some (_, 25) by decide +kernel), rfl⟩), mkX11_fresh, _, _, rfl⟩
theorem cvX11_107 : ruCV "RubbedSheetsModel" 107 mmX11_put 4 11 := ⟨ru_mt 1121 (by decide +kernel), ru_mt 1123 (by decide +kernel), List.mem_append_left _ (List.mem_map.mpr ⟨_, List.mem_of_getElem? (i := 39) (show lw_privs[39]? = some (_, 25) by decide +kernel), rfl⟩), mkX11_put, _, _, rfl⟩
theorem cvX11_112 : ruCV "RubbedSheetsModel" 112 mmX11_rights 2 11 := ⟨ru_mt 1126 (by decide +kernel), ru_mt 1128 (by decide +kernel), List.mem_append_left _ (List.mem_map.mpr ⟨_, List.mem_of_getElem? (i := 40) (show lw_privs[40]? = some (_, 25) by decide +kernel), rfl⟩), mkX11_rights, _, _, rfl⟩
theorem cvX11_101 : ruCV "RubbedSheetsModel" 101 mmX11_isRight 3 11 := ⟨ru_mt 1130 (by decide +kernel), ru_mt 1132 (by decide +kernel), List.mem_append_left _ (List.mem_map.mpr ⟨_, List.mem_of_getElem? (i := 41) (show lw_privs[41]? = some (_, 25) by decide +kernel), rfl⟩), mkX11_isRight, _, _, rfl⟩
theorem cvX11_74 : ruCV "RubbedSheetsModel" 74 mmX11_choice 3 11 := ⟨ru_mt 1134 (by decide +kernel), ru_mt 1136 (by decide +kernel), List.mem_append_left _ (List.mem_map.mpr ⟨_, List.mem_of_getElem? (i := 42) (show lw_privs[42]? = some (_, 25) by decide +kernel), rfl⟩), mkX11_choice, _, _, rfl⟩
theorem cvL_52 : ruCV "RubbedSheetsLaw" 52 mmX11_read 2 11 := ⟨ru_mt 1138 (by decide +kernel), ru_mt 1139 (by decide +kernel), ru_mt 1140 (by decide +kernel), mkX11_read, _, _, rfl⟩
theorem csX11_115 : ruCS "RubbedSheetsModel" 115 mmX11_isSlip 1 := ⟨ru_mt 1142 (by decide +kernel), ru_mt 1143 (by decide +kernel), mkX11_isSlip⟩
theorem cvL_57 : ruCV "RubbedSheetsLaw" 57 mmX11_mark 4 11 := ⟨ru_mt 1147 (by decide +kernel), ru_mt 1148 (by decide +kernel), ru_mt 1149 (by decide +kernel), mkX11_mark, _, _, rfl⟩
theorem cvX11_120 : ruCV "RubbedSheetsModel" 120 mmX11_marks 4 11 := ⟨ru_mt 1151 (by decide +kernel), ru_mt 1153 (by decide +kernel), List.mem_append_left _ (List.mem_map.mpr ⟨_, List.mem_of_getElem? (i := 43) (show lw_privs[43]? = some (_, 25) by decide +kernel), rfl⟩), mkX11_marks, _, _, rfl⟩
theorem cvL_61 : ruCV "RubbedSheetsLaw" 61 mmX11_copies 2 11 := ⟨ru_mt 1155 (by decide +kernel), ru_mt 1156 (by decide +kernel), ru_mt 1157 (by decide +kernel), mkX11_copies, _, _, rfl⟩
theorem cvL_65 : ruCV "RubbedSheetsLaw" 65 mmX11_said 2 11 := ⟨ru_mt 1159 (by decide +kernel), ru_mt 1160 (by decide +kernel), ru_mt 1161 (by decide +kernel), mkX11_said, _, _, rfl⟩
theorem cvX11_124 : ruCV "RubbedSheetsModel" 124 mmX11_isOf 3 11 := ⟨ru_mt 1163 (by decide +kernel), ru_mt 1165 (by decide +kernel), List.mem_append_left _ (List.mem_map.mpr ⟨_, List.mem_of_getElem? (i := 44) (show lw_privs[44]? = some (_, 25) by decide +kernel), rfl⟩), mkX11_isOf, _, _, rfl⟩
theorem cvL_69 : ruCV "RubbedSheetsLaw" 69 mmX11_puts 2 11 := ⟨ru_mt 1167 (by decide +kernel), ru_mt 1168 (by decide +kernel), ru_mt 1169 (by decide +kernel), mkX11_puts, _, _, rfl⟩
theorem cvL_74 : ruCV "RubbedSheetsLaw" 74 mmX11_fills 1 11 := ⟨ru_mt 1171 (by decide +kernel), ru_mt 1172 (by decide +kernel), ru_mt 1173 (by decide +kernel), mkX11_fills, _, _, rfl⟩
theorem cvL_78 : ruCV "RubbedSheetsLaw" 78 mmX11_leaves 1 11 := ⟨ru_mt 1175 (by decide +kernel), ru_mt 1176 (by decide +kernel), ru_mt 1177 (by decide +kernel), mkX11_leaves, _, _, rfl⟩
theorem cvL_82 : ruCV "RubbedSheetsLaw" 82 mmX11_bubble 4 11 := ⟨ru_mt 1180 (by decide +kernel), ru_mt 1181 (by decide +kernel), ru_mt 1182 (by decide +kernel), mkX11_bubble, _, _, rfl⟩
theorem csX11_128 : ruCS "RubbedSheetsModel" 128 mmX11_isYear 1 := ⟨ru_mt 1184 (by decide +kernel), ru_mt 1185 (by decide +kernel), mkX11_isYear⟩
theorem cvX11_131 : ruCV "RubbedSheetsModel" 131 mmX11_kind 3 11 := ⟨ru_mt 1187 (by decide +kernel), ru_mt 1189 (by decide +kernel), List.mem_append_left _ (List.mem_map.mpr ⟨_, List.mem_of_getElem? (i := 45) (show lw_privs[45]? = some (_, 25) by decide +kernel), rfl⟩), mkX11_kind, _, _, rfl⟩
theorem cvL_86 : ruCV "RubbedSheetsLaw" 86 mmX11_sheetIs 3 11 := ⟨ru_mt 1191 (by decide +kernel), ru_mt 1192 (by decide +kernel), ru_mt 1193 (by decide +kernel), mkX11_sheetIs, _, _, rfl⟩
theorem cvX11_137 : ruCV "RubbedSheetsModel" 137 mmX11_unfit 2 11 := ⟨ru_mt 1195 (by decide +kernel), ru_mt 1197 (by decide +kernel), List.mem_append_left _ (List.mem_map.mpr ⟨_, List.mem_of_getElem? (i := 46) (show lw_privs[46]? = some (_, 25) by decide +kernel), rfl⟩), mkX11_unfit, _, _, rfl⟩
theorem cvX11_140 : ruCV "RubbedSheetsModel" 140 mmX11_putsOn 2 11 := ⟨ru_mt 1199 (by decide +kernel), ru_mt 1201 (by decide +kernel), List.mem_append_left _ (List.mem_map.mpr ⟨_, List.mem_of_getElem? (i := 47) (show lw_privs[47]? = some (_, 25) by decide +kernel), rfl⟩), mkX11_putsOn, _, _, rfl⟩
theorem csX11_134 : ruCS "RubbedSheetsModel" 134 mmX11_isUnder 2 := ⟨ru_mt 1203 (by decide +kernel), ru_mt 1204 (by decide +kernel), mkX11_isUnder⟩
theorem csX11_143 : ruCS "RubbedSheetsModel" 143 mmX11_above 1 := ⟨ru_mt 1206 (by decide +kernel), ru_mt 1207 (by decide +kernel), mkX11_above⟩
theorem cvL_90 : ruCV "RubbedSheetsLaw" 90 mmX11_weight 2 11 := ⟨ru_mt 1209 (by decide +kernel), ru_mt 1210 (by decide +kernel), ru_mt 1211 (by decide +kernel), mkX11_weight, _, _, rfl⟩
theorem csX11_146 : ruCS "RubbedSheetsModel" 146 mmX11_weightOf 2 := ⟨ru_mt 1213 (by decide +kernel), ru_mt 1214 (by decide +kernel), mkX11_weightOf⟩
theorem cvL_94 : ruCV "RubbedSheetsLaw" 94 mmX11_as 4 11 := ⟨ru_mt 1216 (by decide +kernel), ru_mt 1217 (by decide +kernel), ru_mt 1218 (by decide +kernel), mkX11_as, _, _, rfl⟩
theorem cvL_98 : ruCV "RubbedSheetsLaw" 98 mmX11_measure 3 11 := ⟨ru_mt 1221 (by decide +kernel), ru_mt 1222 (by decide +kernel), ru_mt 1223 (by decide +kernel), mkX11_measure, _, _, rfl⟩
theorem cvX11_174 : ruCV "RubbedSheetsModel" 174 mmX11_sheetsOf 2 11 := ⟨ru_mt 1225 (by decide +kernel), ru_mt 1227 (by decide +kernel), List.mem_append_left _ (List.mem_map.mpr ⟨_, List.mem_of_getElem? (i := 48) (show lw_privs[48]? = some (_, 25) by decide +kernel), rfl⟩), mkX11_sheetsOf, _, _, rfl⟩
theorem cvX11_180 : ruCV "RubbedSheetsModel" 180 mmX11_measured 3 11 := ⟨ru_mt 1229 (by decide +kernel), ru_mt 1231 (by decide +kernel), List.mem_append_left _ (List.mem_map.mpr ⟨_, List.mem_of_getElem? (i := 49) (show lw_privs[49]? = some (_, 25) by decide +kernel), rfl⟩), mkX11_measured, _, _, rfl⟩
theorem cvX11_170 : ruCV "RubbedSheetsModel" 170 mmX11_findString 3 11 := ⟨ru_mt 1233 (by decide +kernel), ru_mt 1235 (by decide +kernel), List.mem_append_left _ (List.mem_map.mpr ⟨_, List.mem_of_getElem? (i := 50) (show lw_privs[50]? = some (_, 25) by decide +kernel), rfl⟩), mkX11_findString, _, _, rfl⟩
theorem cvX11_160 : ruCV "RubbedSheetsModel" 160 mmX11_hasBlank 4 11 := ⟨ru_mt 1237 (by decide +kernel), ru_mt 1239 (by decide +kernel), List.mem_append_left _ (List.mem_map.mpr ⟨_, List.mem_of_getElem? (i := 51) (show lw_privs[51]? = some (_, 25) by decide +kernel), rfl⟩), mkX11_hasBlank, _, _, rfl⟩
theorem cvX11_163 : ruCV "RubbedSheetsModel" 163 mmX11_likes 4 11 := ⟨ru_mt 1241 (by decide +kernel), ru_mt 1243 (by decide +kernel), List.mem_append_left _ (List.mem_map.mpr ⟨_, List.mem_of_getElem? (i := 52) (show lw_privs[52]? = some (_, 25) by decide +kernel), rfl⟩), mkX11_likes, _, _, rfl⟩
theorem csX11_167 : ruCS "RubbedSheetsModel" 167 mmX11_bits 1 := ⟨ru_mt 1245 (by decide +kernel), ru_mt 1246 (by decide +kernel), mkX11_bits⟩
theorem cvL_102 : ruCV "RubbedSheetsLaw" 102 mmX11_looked 0 11 := ⟨ru_mt 1248 (by decide +kernel), ru_mt 1249 (by decide +kernel), ru_mt 1250 (by decide +kernel), mkX11_looked, _, _, rfl⟩
theorem cvL_106 : ruCV "RubbedSheetsLaw" 106 mmX11_string 4 11 := ⟨ru_mt 1252 (by decide +kernel), ru_mt 1253 (by decide +kernel), ru_mt 1254 (by decide +kernel), mkX11_string, _, _, rfl⟩
theorem cvL_110 : ruCV "RubbedSheetsLaw" 110 mmX11_odd 4 11 := ⟨ru_mt 1256 (by decide +kernel), ru_mt 1257 (by decide +kernel), ru_mt 1258 (by decide +kernel), mkX11_odd, _, _, rfl⟩
theorem cvL_114 : ruCV "RubbedSheetsLaw" 114 mmX11_feed 2 11 := ⟨ru_mt 1260 (by decide +kernel), ru_mt 1261 (by decide +kernel), ru_mt 1262 (by decide +kernel), mkX11_feed, _, _, rfl⟩
theorem cvL_118 : ruCV "RubbedSheetsLaw" 118 mmX11_wipe 0 11 := ⟨ru_mt 1264 (by decide +kernel), ru_mt 1265 (by decide +kernel), ru_mt 1266 (by decide +kernel), mkX11_wipe, _, _, rfl⟩
theorem cvL_122 : ruCV "RubbedSheetsLaw" 122 mmX11_way 0 11 := ⟨ru_mt 1268 (by decide +kernel), ru_mt 1269 (by decide +kernel), ru_mt 1270 (by decide +kernel), mkX11_way, _, _, rfl⟩
theorem cvX11_202 : ruCV "RubbedSheetsModel" 202 mmX11_next 0 11 := ⟨ru_mt 1272 (by decide +kernel), ru_mt 1274 (by decide +kernel), List.mem_append_left _ (List.mem_map.mpr ⟨_, List.mem_of_getElem? (i := 53) (show lw_privs[53]? = some (_, 25) by decide +kernel), rfl⟩), mkX11_next, _, _, rfl⟩
theorem cvX11_195 : ruCV "RubbedSheetsModel" 195 mmX11_isByte 3 11 := ⟨ru_mt 1276 (by decide +kernel), ru_mt 1278 (by decide +kernel), List.mem_append_left _ (List.mem_map.mpr ⟨_, List.mem_of_getElem? (i := 54) (show lw_privs[54]? = some (_, 25) by decide +kernel), rfl⟩), mkX11_isByte, _, _, rfl⟩
theorem cvX11_246 : ruCV "RubbedSheetsModel" 246 mmX11_either 0 11 := ⟨ru_mt 1280 (by decide +kernel), ru_mt 1282 (by decide +kernel), List.mem_append_left _ (List.mem_map.mpr ⟨_, List.mem_of_getElem? (i := 55) (show lw_privs[55]? = some (_, 25) by decide +kernel), rfl⟩), mkX11_either, _, _, rfl⟩
theorem cvX11_216 : ruCV "RubbedSheetsModel" 216 mmX11_both 0 11 := ⟨ru_mt 1284 (by decide +kernel), ru_mt 1286 (by decide +kernel), List.mem_append_left _ (List.mem_map.mpr ⟨_, List.mem_of_getElem? (i := 56) (show lw_privs[56]? = some (_, 25) by decide +kernel), rfl⟩), mkX11_both, _, _, rfl⟩
theorem cvX11_230 : ruCV "RubbedSheetsModel" 230 mmX11_not 0 11 := ⟨ru_mt 1288 (by decide +kernel), ru_mt 1290 (by decide +kernel), List.mem_append_left _ (List.mem_map.mpr ⟨_, List.mem_of_getElem? (i := 57) (show lw_privs[57]? = some (_, 25) by decide +kernel), rfl⟩), mkX11_not, _, _, rfl⟩
theorem cvX11_219 : ruCV "RubbedSheetsModel" 219 mmX11_isSign 1 11 := ⟨ru_mt 1292 (by decide +kernel), ru_mt 1294 (by decide +kernel), List.mem_append_left _ (List.mem_map.mpr ⟨_, List.mem_of_getElem? (i := 58) (show lw_privs[58]? = some (_, 25) by decide +kernel), rfl⟩), mkX11_isSign, _, _, rfl⟩
theorem cvX11_222 : ruCV "RubbedSheetsModel" 222 mmX11_need 1 11 := ⟨ru_mt 1296 (by decide +kernel), ru_mt 1298 (by decide +kernel), List.mem_append_left _ (List.mem_map.mpr ⟨_, List.mem_of_getElem? (i := 59) (show lw_privs[59]? = some (_, 25) by decide +kernel), rfl⟩), mkX11_need, _, _, rfl⟩
theorem cvX11_226 : ruCV "RubbedSheetsModel" 226 mmX11_emit 1 11 := ⟨ru_mt 1300 (by decide +kernel), ru_mt 1302 (by decide +kernel), List.mem_append_left _ (List.mem_map.mpr ⟨_, List.mem_of_getElem? (i := 60) (show lw_privs[60]? = some (_, 25) by decide +kernel), rfl⟩), mkX11_emit, _, _, rfl⟩
theorem cvX11_236 : ruCV "RubbedSheetsModel" 236 mmX11_sum 0 11 := ⟨ru_mt 1304 (by decide +kernel), ru_mt 1306 (by decide +kernel), List.mem_append_left _ (List.mem_map.mpr ⟨_, List.mem_of_getElem? (i := 61) (show lw_privs[61]? = some (_, 25) by decide +kernel), rfl⟩), mkX11_sum, _, _, rfl⟩
theorem cvX11_239 : ruCV "RubbedSheetsModel" 239 mmX11_part 0 11 := ⟨ru_mt 1308 (by decide +kernel), ru_mt 1310 (by decide +kernel), List.mem_append_left _ (List.mem_map.mpr ⟨_, List.mem_of_getElem? (i := 62) (show lw_privs[62]? = some (_, 25) by decide +kernel), rfl⟩), mkX11_part, _, _, rfl⟩
theorem cvX11_242 : ruCV "RubbedSheetsModel" 242 mmX11_isWord 1 11 := ⟨ru_mt 1312 (by decide +kernel), ru_mt 1314 (by decide +kernel), List.mem_append_left _ (List.mem_map.mpr ⟨_, List.mem_of_getElem? (i := 63) (show lw_privs[63]? = some (_, 25) by decide +kernel), rfl⟩), mkX11_isWord, _, _, rfl⟩
theorem csJ0_495 : ruCS "java/lang/String" 495 mmJ1_charAt_3b067 2 := ⟨ru_mt 1334 (by decide +kernel), ru_mt 1335 (by decide +kernel), mkJ1_charAt_3b067⟩
theorem csJ1_9 : ruCS "java/lang/StringLatin1" 9 mmJ0_checkIndex_df160 2 := ⟨ru_mt 1337 (by decide +kernel), ru_mt 1338 (by decide +kernel), mkJ0_checkIndex_df160⟩
theorem csJ0_1059 : ruCS "java/lang/String" 1059 mmJ3_checkIndex_8e157 3 := ⟨ru_mt 1342 (by decide +kernel), ru_mt 1343 (by decide +kernel), mkJ3_checkIndex_8e157⟩
theorem csJ0_498 : ruCS "java/lang/String" 498 mmJ2_charAt_3b067 2 := ⟨ru_mt 1345 (by decide +kernel), ru_mt 1346 (by decide +kernel), mkJ2_charAt_3b067⟩
theorem csJ2_67 : ruCS "java/lang/StringUTF16" 67 mmJ2_checkIndex_2214a 2 := ⟨ru_mt 1348 (by decide +kernel), ru_mt 1349 (by decide +kernel), mkJ2_checkIndex_2214a⟩
theorem csJ2_48 : ruCS "java/lang/StringUTF16" 48 mmJ2_length_9d52b 1 := ⟨ru_mt 1351 (by decide +kernel), ru_mt 1352 (by decide +kernel), mkJ2_length_9d52b⟩
theorem csJ2_414 : ruCS "java/lang/StringUTF16" 414 mmJ0_checkIndex_df160 2 := ⟨ru_mt 1354 (by decide +kernel), ru_mt 1338 (by decide +kernel), mkJ0_checkIndex_df160⟩
theorem csJ2_71 : ruCS "java/lang/StringUTF16" 71 mmJ2_getChar_3b067 2 := ⟨ru_mt 1355 (by decide +kernel), ru_mt 1356 (by decide +kernel), mkJ2_getChar_3b067⟩
theorem cvL_126 : ruCV "RubbedSheetsLaw" 126 mmX11_says 3 11 := ⟨ru_mt 1364 (by decide +kernel), ru_mt 1365 (by decide +kernel), ru_mt 1366 (by decide +kernel), mkX11_says, _, _, rfl⟩
theorem cvX11_252 : ruCV "RubbedSheetsModel" 252 mmX11_worked 3 11 := ⟨ru_mt 1368 (by decide +kernel), ru_mt 1370 (by decide +kernel), List.mem_append_left _ (List.mem_map.mpr ⟨_, List.mem_of_getElem? (i := 64) (show lw_privs[64]? = some (_, 25) by decide +kernel), rfl⟩), mkX11_worked, _, _, rfl⟩
theorem csX11_249 : ruCS "RubbedSheetsModel" 249 mmX11_done 3 := ⟨ru_mt 1372 (by decide +kernel), ru_mt 1373 (by decide +kernel), mkX11_done⟩
theorem cvL_130 : ruCV "RubbedSheetsLaw" 130 mmX11_judges 3 11 := ⟨ru_mt 1375 (by decide +kernel), ru_mt 1376 (by decide +kernel), ru_mt 1377 (by decide +kernel), mkX11_judges, _, _, rfl⟩
theorem cvL_134 : ruCV "RubbedSheetsLaw" 134 mmX11_line 3 11 := ⟨ru_mt 1379 (by decide +kernel), ru_mt 1380 (by decide +kernel), ru_mt 1381 (by decide +kernel), mkX11_line, _, _, rfl⟩
theorem cvL_138 : ruCV "RubbedSheetsLaw" 138 mmX11_holds 4 11 := ⟨ru_mt 1383 (by decide +kernel), ru_mt 1384 (by decide +kernel), ru_mt 1385 (by decide +kernel), mkX11_holds, _, _, rfl⟩
theorem csX11_255 : ruCS "RubbedSheetsModel" 255 mmX11_areHours 2 := ⟨ru_mt 1387 (by decide +kernel), ru_mt 1388 (by decide +kernel), mkX11_areHours⟩
theorem cvL_142 : ruCV "RubbedSheetsLaw" 142 mmX11_gaps 4 11 := ⟨ru_mt 1390 (by decide +kernel), ru_mt 1391 (by decide +kernel), ru_mt 1392 (by decide +kernel), mkX11_gaps, _, _, rfl⟩
theorem cvX11_258 : ruCV "RubbedSheetsModel" 258 mmX11_isHeld 3 11 := ⟨ru_mt 1394 (by decide +kernel), ru_mt 1396 (by decide +kernel), List.mem_append_left _ (List.mem_map.mpr ⟨_, List.mem_of_getElem? (i := 65) (show lw_privs[65]? = some (_, 25) by decide +kernel), rfl⟩), mkX11_isHeld, _, _, rfl⟩
theorem cvL_146 : ruCV "RubbedSheetsLaw" 146 mmX11_could 4 11 := ⟨ru_mt 1398 (by decide +kernel), ru_mt 1399 (by decide +kernel), ru_mt 1400 (by decide +kernel), mkX11_could, _, _, rfl⟩
theorem cvL_150 : ruCV "RubbedSheetsLaw" 150 mmX11_form 2 11 := ⟨ru_mt 1402 (by decide +kernel), ru_mt 1403 (by decide +kernel), ru_mt 1404 (by decide +kernel), mkX11_form, _, _, rfl⟩
theorem cvL_154 : ruCV "RubbedSheetsLaw" 154 mmX11_cheapest 2 11 := ⟨ru_mt 1406 (by decide +kernel), ru_mt 1407 (by decide +kernel), ru_mt 1408 (by decide +kernel), mkX11_cheapest, _, _, rfl⟩
theorem cvX11_261 : ruCV "RubbedSheetsModel" 261 mmX11_isBarred 2 11 := ⟨ru_mt 1410 (by decide +kernel), ru_mt 1412 (by decide +kernel), List.mem_append_left _ (List.mem_map.mpr ⟨_, List.mem_of_getElem? (i := 66) (show lw_privs[66]? = some (_, 25) by decide +kernel), rfl⟩), mkX11_isBarred, _, _, rfl⟩
theorem cvL_158 : ruCV "RubbedSheetsLaw" 158 mmX11_slip 3 11 := ⟨ru_mt 1414 (by decide +kernel), ru_mt 1415 (by decide +kernel), ru_mt 1416 (by decide +kernel), mkX11_slip, _, _, rfl⟩
theorem cvL_162 : ruCV "RubbedSheetsLaw" 162 mmX11_write 3 11 := ⟨ru_mt 1418 (by decide +kernel), ru_mt 1419 (by decide +kernel), ru_mt 1420 (by decide +kernel), mkX11_write, _, _, rfl⟩
theorem csX11_264 : ruCS "RubbedSheetsModel" 264 mmX11_cut 2 := ⟨ru_mt 1422 (by decide +kernel), ru_mt 1423 (by decide +kernel), mkX11_cut⟩
theorem cvL_167 : ruCV "RubbedSheetsLaw" 167 mmX11_copy 5 11 := ⟨ru_mt 1425 (by decide +kernel), ru_mt 1426 (by decide +kernel), ru_mt 1427 (by decide +kernel), mkX11_copy, _, _, rfl⟩
theorem cvL_171 : ruCV "RubbedSheetsLaw" 171 mmX11_check 3 11 := ⟨ru_mt 1429 (by decide +kernel), ru_mt 1430 (by decide +kernel), ru_mt 1431 (by decide +kernel), mkX11_check, _, _, rfl⟩
theorem cvL_175 : ruCV "RubbedSheetsLaw" 175 mmX11_image 0 11 := ⟨ru_mt 1433 (by decide +kernel), ru_mt 1434 (by decide +kernel), ru_mt 1435 (by decide +kernel), mkX11_image, _, _, rfl⟩
theorem cvL_179 : ruCV "RubbedSheetsLaw" 179 mmX11_undo 0 11 := ⟨ru_mt 1437 (by decide +kernel), ru_mt 1438 (by decide +kernel), ru_mt 1439 (by decide +kernel), mkX11_undo, _, _, rfl⟩
theorem cvL_183 : ruCV "RubbedSheetsLaw" 183 mmX11_tear 0 11 := ⟨ru_mt 1441 (by decide +kernel), ru_mt 1442 (by decide +kernel), ru_mt 1443 (by decide +kernel), mkX11_tear, _, _, rfl⟩
theorem cvL_187 : ruCV "RubbedSheetsLaw" 187 mmX11_count 1 11 := ⟨ru_mt 1445 (by decide +kernel), ru_mt 1446 (by decide +kernel), ru_mt 1447 (by decide +kernel), mkX11_count, _, _, rfl⟩
theorem cvX11_270 : ruCV "RubbedSheetsModel" 270 mmX11_allOf 3 11 := ⟨ru_mt 1449 (by decide +kernel), ru_mt 1451 (by decide +kernel), List.mem_append_left _ (List.mem_map.mpr ⟨_, List.mem_of_getElem? (i := 67) (show lw_privs[67]? = some (_, 25) by decide +kernel), rfl⟩), mkX11_allOf, _, _, rfl⟩
theorem cvL_191 : ruCV "RubbedSheetsLaw" 191 mmX11_status 1 11 := ⟨ru_mt 1453 (by decide +kernel), ru_mt 1454 (by decide +kernel), ru_mt 1455 (by decide +kernel), mkX11_status, _, _, rfl⟩
theorem cnX5_46 : ruCN "RubbedSheets$School" 46 mmX10_has 2 := ⟨List.mem_of_getElem? (i := 0) rfl, ru_mt 409 (by decide +kernel), mkX10_has⟩
theorem cnX7_28 : ruCN "RubbedSheets$Slip" 28 mmX10_isWithin 3 := ⟨List.mem_of_getElem? (i := 1) rfl, ru_mt 359 (by decide +kernel), mkX10_isWithin⟩
theorem cnX6_51 : ruCN "RubbedSheets$Sheets" 51 mmX10_has 2 := ⟨List.mem_of_getElem? (i := 2) rfl, ru_mt 409 (by decide +kernel), mkX10_has⟩
theorem cnX8_79 : ruCN "RubbedSheets$Strings" 79 mmX10_has 2 := ⟨List.mem_of_getElem? (i := 3) rfl, ru_mt 409 (by decide +kernel), mkX10_has⟩
theorem cnX3_95 : ruCN "RubbedSheets$Measures" 95 mmX10_has 2 := ⟨List.mem_of_getElem? (i := 4) rfl, ru_mt 409 (by decide +kernel), mkX10_has⟩
theorem cnX3_98 : ruCN "RubbedSheets$Measures" 98 mmX10_isWithin 3 := ⟨List.mem_of_getElem? (i := 5) rfl, ru_mt 359 (by decide +kernel), mkX10_isWithin⟩
theorem cnX1_32 : ruCN "RubbedSheets$Forms" 32 mmX10_has 2 := ⟨List.mem_of_getElem? (i := 6) rfl, ru_mt 409 (by decide +kernel), mkX10_has⟩
theorem ckX10_81 : Cond.constant "RubbedSheets" 81 (-1000001) ∈ lw_tbl := ru_mt 361 (by decide +kernel)
theorem ckX10_97 : Cond.constant "RubbedSheets" 97 (-1000002) ∈ lw_tbl := ru_mt 370 (by decide +kernel)
theorem ckX10_105 : Cond.constant "RubbedSheets" 105 (-1000005) ∈ lw_tbl := ru_mt 383 (by decide +kernel)
theorem ckX10_387 : Cond.constant "RubbedSheets" 387 1103515245 ∈ lw_tbl := ru_mt 461 (by decide +kernel)
theorem ckX10_169 : Cond.constant "RubbedSheets" 169 (-1000006) ∈ lw_tbl := ru_mt 481 (by decide +kernel)
theorem ckX10_173 : Cond.constant "RubbedSheets" 173 (-1000007) ∈ lw_tbl := ru_mt 482 (by decide +kernel)
theorem ckX10_202 : Cond.constant "RubbedSheets" 202 (-1000004) ∈ lw_tbl := ru_mt 535 (by decide +kernel)
theorem ckX10_237 : Cond.constant "RubbedSheets" 237 (-1000003) ∈ lw_tbl := ru_mt 590 (by decide +kernel)
theorem ckJ6_265 : Cond.constant "java/lang/Integer" 265 1431655765 ∈ lw_tbl := ru_mt 634 (by decide +kernel)
theorem ckJ6_266 : Cond.constant "java/lang/Integer" 266 858993459 ∈ lw_tbl := ru_mt 635 (by decide +kernel)
theorem ckJ6_267 : Cond.constant "java/lang/Integer" 267 252645135 ∈ lw_tbl := ru_mt 636 (by decide +kernel)
theorem ckX11_65 : Cond.constant "RubbedSheetsModel" 65 (-1000001) ∈ lw_tbl := ru_mt 1064 (by decide +kernel)
theorem ckX11_86 : Cond.constant "RubbedSheetsModel" 86 (-1000002) ∈ lw_tbl := ru_mt 1073 (by decide +kernel)
theorem ckX11_94 : Cond.constant "RubbedSheetsModel" 94 (-1000005) ∈ lw_tbl := ru_mt 1086 (by decide +kernel)
theorem ckX11_111 : Cond.constant "RubbedSheetsModel" 111 1103515245 ∈ lw_tbl := ru_mt 1125 (by decide +kernel)
theorem ckX11_118 : Cond.constant "RubbedSheetsModel" 118 (-1000006) ∈ lw_tbl := ru_mt 1145 (by decide +kernel)
theorem ckX11_119 : Cond.constant "RubbedSheetsModel" 119 (-1000007) ∈ lw_tbl := ru_mt 1146 (by decide +kernel)
theorem ckX11_127 : Cond.constant "RubbedSheetsModel" 127 (-1000004) ∈ lw_tbl := ru_mt 1179 (by decide +kernel)
theorem ckX11_149 : Cond.constant "RubbedSheetsModel" 149 (-1000003) ∈ lw_tbl := ru_mt 1220 (by decide +kernel)
theorem caX9_24 : Cond.methodLink "RubbedSheets$Ways" 24 arraycopyName ∈ lw_tbl := ru_mt 750 (by decide +kernel)
theorem caX10_359 : Cond.methodLink "RubbedSheets" 359 arraycopyName ∈ lw_tbl := ru_mt 891 (by decide +kernel)
theorem caX5_40 : Cond.methodLink "RubbedSheets$School" 40 arraycopyName ∈ lw_tbl := ru_mt 908 (by decide +kernel)
theorem caX6_25 : Cond.methodLink "RubbedSheets$Sheets" 25 arraycopyName ∈ lw_tbl := ru_mt 913 (by decide +kernel)
theorem caX2_31 : Cond.methodLink "RubbedSheets$Keys" 31 arraycopyName ∈ lw_tbl := ru_mt 922 (by decide +kernel)
theorem caX1_22 : Cond.methodLink "RubbedSheets$Forms" 22 arraycopyName ∈ lw_tbl := ru_mt 927 (by decide +kernel)
theorem unX10_231 : Cond.fieldLink "RubbedSheets" 231 "RubbedSheets" "UNDER" "[I" ∈ lw_tbl := ru_mt 589 (by decide +kernel)
theorem nmX4_67 : Cond.fieldLink "RubbedSheets$Reader" 67 "RubbedSheets$Reader" "NAMES" "[I" ∈ lw_tbl := ru_mt 716 (by decide +kernel)
theorem uNX6_45 : Cond.fieldLinkNest "RubbedSheets$Sheets" 45 "RubbedSheets" "UNDER" "[I" "RubbedSheets" ∈ ruNe := List.mem_of_getElem? (i := 7) rfl
theorem uNX1_36 : Cond.fieldLinkNest "RubbedSheets$Forms" 36 "RubbedSheets" "UNDER" "[I" "RubbedSheets" ∈ ruNe := List.mem_of_getElem? (i := 8) rfl
