/** A test for each sentence of the text format and its errors that names a boundary case. */
public final class BoundaryTextTest {
    private static final String HEAD = "lift 10 4 sweep;";
    // At time 3 two of them ride up from floor 2 and two wait behind the lift.
    private static final String RIDERS = HEAD + "call 0 9; call 0 8; run 3; call 0 9; call 1 9;";

    public static void main(String[] args) {
        tokens();
        errors();
        numbers();
        commands();
        Check.end();
    }

    private static void tokens() {
        Check.holds("a word is a longest run of letters", BoundaryTextTest::longestWords);
        Check.holds("a number is a longest run of digits", BoundaryTextTest::longestNumbers);
        Check.holds("a semicolon or a bracket is a token", BoundaryTextTest::singleSigns);
        Check.holds("spaces, tabs and line feeds", BoundaryTextTest::spaces);
        Check.holds("every other byte is an invalid token", BoundaryTextTest::allBytes);
        Check.holds("quoted words stand for themselves", BoundaryTextTest::wordsThemselves);
        Check.holds("any number of repetitions (also zero): commands", BoundaryTextTest::noCommands);
        Check.holds("any number of repetitions (also zero): repeat", BoundaryTextTest::noSimpleCommands);
        Check.holds("a part may be left out", BoundaryTextTest::partLeftOut);
    }

    private static void errors() {
        Check.holds("parsing stops at the first wrong token", BoundaryTextTest::firstWrongToken);
        Check.holds("the index of its first byte", BoundaryTextTest::firstByteOfToken);
        Check.holds("the number of bytes if the text ends too early", BoundaryTextTest::endsTooEarly);
        Check.holds("the lowest code is reported: 1 before 2", BoundaryTextTest::placeBeforeNumber);
        Check.holds("the lowest code is reported: 1 before 3", BoundaryTextTest::placeBeforeCall);
        Check.holds("the lowest code is reported: 1 before 5", BoundaryTextTest::placeBeforeExpect);
        Check.holds("the lowest code is reported: 2 before 4", BoundaryTextTest::rangeBeforeState);
        Check.holds("1: the token is not allowed at this place", BoundaryTextTest::notAtThisPlace);
        Check.holds("1: a part that must not be left out", BoundaryTextTest::partsLeftOut);
        Check.holds("3: the word call of a 41st passenger", BoundaryTextTest::call41);
        Check.holds("3: in a later round of repeat", BoundaryTextTest::call41InRepeat);
        Check.holds("4: the ticks of run if the time would be greater than 999", BoundaryTextTest::runBeyond);
        Check.holds("4: the value of until at the time 999", BoundaryTextTest::untilBeyond);
        Check.holds("4: the capacity if more are riding", BoundaryTextTest::capacityBelowRiders);
        Check.holds("5: the condition does not hold", BoundaryTextTest::unexpected);
        Check.holds("5: when the value has been read, before the semicolon", BoundaryTextTest::expectAndValue);
    }

    private static void numbers() {
        Check.holds("2: more than 3 digits", BoundaryTextTest::digits);
        Check.holds("2: numbers that wrap round", BoundaryTextTest::numbersThatWrap);
        Check.holds("2: the floors are 2 to 20", BoundaryTextTest::floors);
        Check.holds("2: a capacity is 1 to 8, in the head", BoundaryTextTest::headCapacity);
        Check.holds("2: a capacity is 1 to 8, as a command", BoundaryTextTest::commandCapacity);
        Check.holds("2: the origin is a floor", BoundaryTextTest::origins);
        Check.holds("2: the destination is a floor", BoundaryTextTest::destinations);
        Check.holds("2: the destination is not the origin", BoundaryTextTest::sameFloor);
        Check.holds("2: the time of at is the present time to 999", BoundaryTextTest::times);
        Check.holds("2: ticks are 1 to 999", BoundaryTextTest::ticks);
        Check.holds("2: times are 1 to 9", BoundaryTextTest::rounds);
        Check.holds("2: a value of until is 0 to 999", BoundaryTextTest::untilValues);
        Check.holds("2: a value of expect is 0 to 999", BoundaryTextTest::expectValues);
    }

    private static void commands() {
        Check.holds("call with the present time if there is no at", BoundaryTextTest::callNow);
        Check.holds("call as addPassenger, up to 40", BoundaryTextTest::calls40);
        Check.holds("finish as runToEnd", BoundaryTextTest::finish);
        Check.holds("policy may name the current policy", BoundaryTextTest::samePolicy);
        Check.holds("until simulates as long as the counter is less", BoundaryTextTest::untilReached);
        Check.holds("until that is reached simulates nothing", BoundaryTextTest::untilAlready);
        Check.holds("reverse is not counted by reversals", BoundaryTextTest::reverse);
        Check.holds("expect changes nothing", BoundaryTextTest::expectChangesNothing);
        Check.holds("each counter is what it says", BoundaryTextTest::counters);
        Check.holds("as often as times tells", BoundaryTextTest::timesTell);
        Check.holds("each time their tokens are checked again", BoundaryTextTest::checkedAgain);
        Check.holds("repeat has simple commands alone", BoundaryTextTest::noRepeatInRepeat);
    }

    // ---- tokens ----

    private static void longestWords() {
        Check.errorOf("a letter more", "lift 10 4 sweeps;", 1, 10);
        Check.errorOf("a letter less", "lift 10 4 swee;", 1, 10);
        Check.errorOf("two words in one", HEAD + "callat 0 1;", 1, 16);
        Check.errorOf("one word in two", HEAD + "ca ll 0 1;", 1, 16);
        Check.errorOf("a letter before", HEAD + "call 0 1 bat 3;", 1, 25);
        Check.errorOf("a word of 484 letters", HEAD + "z".repeat(484), 1, 16);
        Check.same("a number ends a word", Check.loaded("lift10 4sweep;call0 1at5;").arrivalOf(0), 5);
    }

    private static void longestNumbers() {
        Check.same("a word ends a number", Check.loaded("lift 12 3nearest;").capacity(), 3);
        Check.same("of all its digits", Check.loaded(HEAD + "run 123;").time(), 123);
        Check.errorOf("one number in two", HEAD + "run 1 2;", 1, 22);
        Check.errorOf("two numbers in one", HEAD + "call 01;", 1, 23);
    }

    private static void singleSigns() {
        Check.same("without spaces", Check.loaded(HEAD + "repeat 2(run 1;);run 1;").time(), 3);
        Check.errorOf("two semicolons are two tokens", HEAD + ";;", 1, 16);
        Check.errorOf("a second semicolon", HEAD + "run 1;;", 1, 22);
        Check.errorOf("two brackets are two tokens", HEAD + "repeat 2((", 1, 25);
    }

    private static void spaces() {
        for (String space : new String[] {" ", "\t", "\n", " \t\n\n\t "}) {
            String text = (" lift 10 4 sweep ; repeat 2 ( call 0 1 at 9 ; run 1 ; ) ; ").replace(" ", space);
            Check.same("between all tokens", Check.loaded(text).time(), 2);
            Check.errorOf("in a number", "lift 1" + space + "0 4 sweep;", 2, 5);
        }
    }

    private static void allBytes() {
        for (int value = 0; value < 256; value++) {
            boolean space = value == 32 || value == 9 || value == 10;
            boolean digit = value >= '0' && value <= '9';
            boolean letter = value >= 'a' && value <= 'z';
            String behind = HEAD + (char) value;
            String inside = HEAD + "run" + (char) value + "1;";
            if (space) {
                Check.same("space " + value, Check.loaded(behind).passengerCount(), 0);
                Check.same("space inside " + value, Check.loaded(inside).time(), 1);
            } else {
                Check.errorOf("byte " + value, behind, 1, 16);
                if (!digit) {
                    Check.errorOf("byte inside " + value, inside, 1, letter ? 16 : 19);
                }
            }
        }
    }

    private static void wordsThemselves() {
        String[] words = {"lift", "first", "repeats", "done", "riding", "calls", "Run", "ru", "r"};
        for (String word : words) {
            Check.errorOf(word + " as a command", HEAD + word + " 1 2;", 1, 16);
            Check.errorOf(word + " for at", HEAD + "call 1 2 " + word + " 2;", 1, 25);
        }
        Check.errorOf("a counter that is none", HEAD + "until policy 1;", 1, 22);
        Check.errorOf("a policy that is none", HEAD + "policy time;", 1, 23);
    }

    private static void noCommands() {
        Check.same("a text without commands", Check.state(Check.loaded("lift 2 1 first;")),
                "2 1 0 0 0 true 0 0 0 0:");
        Check.same("a script without commands", Check.play(new LiftScheduler(), ""), 0);
    }

    private static void noSimpleCommands() {
        LiftScheduler lift = new LiftScheduler();
        Check.same("empty brackets", Check.play(lift, "repeat 9 ();"), 0);
        Check.same("time", lift.time(), 0);
        Check.same("brackets with three", Check.play(lift, "repeat 2 (run 1; run 1; run 1;);"), 6);
    }

    private static void partLeftOut() {
        LiftScheduler lift = Check.loaded(HEAD + "run 3; call 0 1; call 0 1 at 4;");
        Check.same("left out", lift.arrivalOf(0), 3);
        Check.same("not left out", lift.arrivalOf(1), 4);
        Check.errorOf("only half of it", HEAD + "call 0 1 at;", 1, 27);
        Check.errorOf("only the other half", HEAD + "call 0 1 4;", 1, 25);
    }

    // ---- errors ----

    private static void firstWrongToken() {
        Check.errorOf("of three", HEAD + "run 0; walk; call 1 1;", 2, 20);
        Check.errorOf("a wrong byte far behind", HEAD + "run 0;\0", 2, 20);
        Check.errorOf("a wrong byte before", HEAD + "\0run 0;", 1, 16);
        Check.errorOf("the origin before the destination", HEAD + "call 10 10;", 2, 21);
        Check.errorOf("a wrong number before the end", HEAD + "run 0", 2, 20);
    }

    private static void firstByteOfToken() {
        Check.errorOf("of a word", HEAD + " \n walking;", 1, 19);
        Check.errorOf("of a number", HEAD + "run \t\n 12345;", 2, 23);
        Check.errorOf("of a semicolon", HEAD + "run  ;", 1, 21);
        Check.errorOf("of an invalid byte", HEAD + "  ,,", 1, 18);
    }

    private static void endsTooEarly() {
        String whole = HEAD + "repeat 2 (call 0 1 at 99;);";
        // Behind each semicolon of the top level the text may end.
        for (int length = 0; length < whole.length(); length++) {
            String text = whole.substring(0, length);
            boolean cutsWord = length > 0 && length < whole.length()
                    && Character.isLetter(whole.charAt(length - 1)) && Character.isLetter(whole.charAt(length));
            if (length != HEAD.length() && length != 6 && !cutsWord) {
                Check.errorOf("the text \"" + text + "\"", text, 1, length);
                Check.errorOf("the text \"" + text + "\" and spaces", text + " \n", 1, length + 2);
            }
        }
        Check.same("the whole one", Check.loaded(whole).passengerCount(), 2);
    }

    private static void placeBeforeNumber() {
        Check.errorOf("a long number for a word", "1234 10 4 sweep;", 1, 0);
        Check.errorOf("a long number for a command", HEAD + "1234;", 1, 16);
        Check.errorOf("a long number for a semicolon", HEAD + "run 1 1234;", 1, 22);
        Check.errorOf("a long number for a counter", HEAD + "until 1234;", 1, 22);
        Check.errorOf("a word for a number", HEAD + "run run;", 1, 20);
    }

    private static void placeBeforeCall() {
        Check.errorOf("where a semicolon is due", HEAD + "call 0 1;".repeat(40) + "run 1 call", 1, 382);
        Check.errorOf("where a number is due", HEAD + "call 0 1;".repeat(40) + "run call", 1, 380);
    }

    private static void placeBeforeExpect() {
        Check.errorOf("where a semicolon is due", HEAD + "run 1 expect time 0;", 1, 22);
        Check.errorOf("where a number is due", HEAD + "run expect time 0;", 1, 20);
    }

    private static void rangeBeforeState() {
        Check.errorOf("run 1000 at 999", HEAD + "run 999; run 1000;", 2, 29);
        Check.errorOf("run 0 at 999", HEAD + "run 999; run 0;", 2, 29);
        Check.errorOf("until 1000 at 999", HEAD + "run 999; until time 1000;", 2, 36);
        Check.errorOf("capacity 0 with riders", RIDERS + "capacity 0;", 2, 71);
    }

    private static void notAtThisPlace() {
        Check.errorOf("a text needs its head", ";" + HEAD, 1, 0);
        Check.errorOf("a second head", HEAD + HEAD, 1, 16);
        Check.errorOf("a bracket to open", HEAD + "(run 1;);", 1, 16);
        Check.errorOf("a bracket to close", HEAD + "run 1;);", 1, 22);
        Check.errorOf("a bracket twice", HEAD + "repeat 1 (run 1;)); ", 1, 33);
        Check.errorOf("finish with a number", HEAD + "finish 1;", 1, 23);
        Check.errorOf("reverse with a number", HEAD + "reverse 1;", 1, 24);
    }

    /** The semicolon comes too early: the wrong token is itself one that may end a command. */
    private static void partsLeftOut() {
        for (String head : new String[] {"lift", "lift 10", "lift 10 4"}) {
            Check.errorOf(head, head + ";", 1, head.length());
        }
        String[] commands = {"call", "call 3", "call 3 4 at", "run", "until", "until time", "policy",
            "capacity", "expect", "expect time", "repeat", "repeat 2"};
        for (String command : commands) {
            Check.errorOf(command, HEAD + command + ";", 1, HEAD.length() + command.length());
            Check.errorOf(command + " and an end", HEAD + command, 1, HEAD.length() + command.length());
        }
        for (String command : new String[] {"call", "run", "until time", "policy", "expect"}) {
            Check.errorOf(command + " in brackets", HEAD + "repeat 2 (" + command + ";);", 1,
                    HEAD.length() + 10 + command.length());
        }
    }

    private static void call41() {
        Check.same("40 calls", Check.loaded(HEAD + "call 0 1;".repeat(40)).passengerCount(), 40);
        Check.errorOf("41 calls", HEAD + "call 0 1;".repeat(41), 3, 376);
        Check.errorOf("the word alone", HEAD + "call 0 1;".repeat(40) + "call", 3, 376);
        LiftScheduler lift = Check.loaded(HEAD + "call 0 1;".repeat(40));
        Check.wrongArgument("the 41st in a script", () -> Check.play(lift, "run 1; call 0 1;"));
        Check.same("code", lift.parseError(), 3);
        Check.same("position", lift.parseErrorPosition(), 7);
        Check.same("done ones count too", Check.play(lift, "finish; expect done 40;"), 2);
        Check.wrongArgument("the 41st when all are done", () -> Check.play(lift, "call 0 1;"));
        Check.same("code when all are done", lift.parseError(), 3);
    }

    private static void call41InRepeat() {
        Check.same("36 and 4", Check.loaded(HEAD + "call 0 1;".repeat(4) + "repeat 9 ("
                + "call 0 1;".repeat(4) + ");").passengerCount(), 40);
        Check.errorOf("the last one of the last round", HEAD + "call 0 1;".repeat(5) + "repeat 9 ("
                + "call 0 1;".repeat(4) + ");", 3, 98);
    }

    private static void runBeyond() {
        Check.same("to 999", Check.loaded(HEAD + "run 1; run 998;").time(), 999);
        Check.errorOf("to 1000", HEAD + "run 1; run 999;", 4, 27);
        Check.errorOf("one more at 999", HEAD + "run 999; run 1;", 4, 29);
    }

    private static void untilBeyond() {
        String text = HEAD + "call 0 9 at ";
        Check.same("reached at 999", Check.loaded(text + "988; until done 1;").time(), 999);
        Check.errorOf("reached at 1000", text + "989; until done 1;", 4, 44);
        Check.errorOf("never", HEAD + "until floor 999;", 4, 28);
        Check.errorOf("at 999", HEAD + "run 999; until done 1;", 4, 36);
        Check.same("the time 999 itself", Check.loaded(HEAD + "until time 999;").time(), 999);
    }

    private static void capacityBelowRiders() {
        Check.same("just the riders", Check.loaded(RIDERS + "capacity 2;").isFull(), true);
        Check.errorOf("one less", RIDERS + "capacity 1;", 4, 71);
    }

    private static void unexpected() {
        Check.same("it holds", Check.loaded(HEAD + "run 5; expect time 5;").time(), 5);
        Check.errorOf("one less", HEAD + "run 5; expect time 4;", 5, 23);
        Check.errorOf("one more", HEAD + "run 5; expect time 6;", 5, 23);
        Check.errorOf("before it came true", HEAD + "expect time 1; run 1;", 5, 16);
    }

    private static void expectAndValue() {
        Check.errorOf("before a missing semicolon", HEAD + "expect time 6", 5, 16);
        Check.errorOf("before a wrong byte", HEAD + "expect time 6\0", 5, 16);
        Check.errorOf("a missing semicolon if it holds", HEAD + "expect time 0", 1, 29);
        Check.errorOf("behind a missing value", HEAD + "expect time;", 1, 27);
        Check.errorOf("behind a wrong value", HEAD + "expect time 1000;", 2, 28);
    }

    // ---- numbers ----

    private static void digits() {
        Check.same("3 digits", Check.loaded("lift 010 004 sweep;").floorCount(), 10);
        Check.errorOf("4 digits", "lift 0010 4 sweep;", 2, 5);
        Check.errorOf("4 digits of a capacity", "lift 10 0004 sweep;", 2, 8);
        Check.errorOf("4 digits of an origin", HEAD + "call 0000 1;", 2, 21);
        Check.errorOf("4 digits of a destination", HEAD + "call 0 0001;", 2, 23);
        Check.errorOf("4 digits of a time", HEAD + "call 0 1 at 0001;", 2, 28);
        Check.errorOf("4 digits of ticks", HEAD + "run 0001;", 2, 20);
        Check.errorOf("4 digits of times", HEAD + "repeat 0001 ();", 2, 23);
        Check.errorOf("4 digits of a value", HEAD + "until time 0001;", 2, 27);
        Check.errorOf("4 digits of an expected value", HEAD + "expect time 0000;", 2, 28);
        Check.errorOf("480 digits", HEAD + "run " + "0".repeat(478) + "1;", 2, 20);
    }

    private static void numbersThatWrap() {
        for (String ten : new String[] {"65546", "4294967306", "18446744073709551626"}) {
            Check.errorOf("floors " + ten, "lift " + ten + " 4 sweep;", 2, 5);
            Check.errorOf("run " + ten, HEAD + "run " + ten + ";", 2, 20);
        }
    }

    private static void floors() {
        Check.same("2", Check.loaded("lift 2 4 sweep;").floorCount(), 2);
        Check.same("20", Check.loaded("lift 20 4 sweep;").floorCount(), 20);
        for (int wrong : new int[] {0, 1, 21, 999}) {
            Check.errorOf("floors " + wrong, "lift " + wrong + " 4 sweep;", 2, 5);
        }
    }

    private static void headCapacity() {
        Check.same("1", Check.loaded("lift 10 1 sweep;").capacity(), 1);
        Check.same("8", Check.loaded("lift 10 8 sweep;").capacity(), 8);
        for (int wrong : new int[] {0, 9, 999}) {
            Check.errorOf("capacity " + wrong, "lift 10 " + wrong + " sweep;", 2, 8);
        }
    }

    private static void commandCapacity() {
        Check.same("1", Check.loaded(HEAD + "capacity 1;").capacity(), 1);
        Check.same("8", Check.loaded(HEAD + "capacity 8;").capacity(), 8);
        Check.same("the same", Check.loaded(HEAD + "capacity 4;").capacity(), 4);
        for (int wrong : new int[] {0, 9, 999}) {
            Check.errorOf("capacity " + wrong, HEAD + "capacity " + wrong + ";", 2, 25);
        }
    }

    private static void origins() {
        Check.same("0 and the highest", Check.loaded("lift 20 4 sweep; call 0 5; call 19 5;").originOf(1), 19);
        Check.errorOf("10 of 10", HEAD + "call 10 5;", 2, 21);
        Check.errorOf("20 of 20", "lift 20 4 sweep;call 20 5;", 2, 21);
        Check.errorOf("2 of 2", "lift 2 4 sweep;call 2 0;", 2, 20);
    }

    private static void destinations() {
        Check.same("0 and the highest",
                Check.loaded("lift 20 4 sweep; call 5 0; call 5 19;").destinationOf(1), 19);
        Check.errorOf("10 of 10", HEAD + "call 5 10;", 2, 23);
        Check.errorOf("20 of 20", "lift 20 4 sweep;call 5 20;", 2, 23);
        Check.errorOf("2 of 2", "lift 2 4 sweep;call 0 2;", 2, 22);
    }

    private static void sameFloor() {
        Check.errorOf("0 to 0", HEAD + "call 0 0;", 2, 23);
        Check.errorOf("9 to 9", HEAD + "call 9 9;", 2, 23);
        Check.errorOf("before a wrong time", HEAD + "call 9 09 at 1000;", 2, 23);
        Check.same("next to each other", Check.loaded(HEAD + "call 8 9; call 9 8;").passengerCount(), 2);
    }

    private static void times() {
        Check.same("at 0", Check.loaded(HEAD + "call 0 1 at 0;").arrivalOf(0), 0);
        Check.same("at the present time", Check.loaded(HEAD + "run 5; call 0 1 at 5;").arrivalOf(0), 5);
        Check.same("at 999", Check.loaded(HEAD + "call 0 1 at 999;").arrivalOf(0), 999);
        Check.same("at 999 at 999", Check.loaded(HEAD + "run 999; call 0 1 at 999;").arrivalOf(0), 999);
        Check.errorOf("one tick too early", HEAD + "run 5; call 0 1 at 4;", 2, 35);
        Check.errorOf("at 998 at 999", HEAD + "run 999; call 0 1 at 998;", 2, 37);
        Check.errorOf("at 1000", HEAD + "call 0 1 at 1000;", 2, 28);
    }

    private static void ticks() {
        Check.same("1", Check.loaded(HEAD + "run 1;").time(), 1);
        Check.same("999", Check.loaded(HEAD + "run 999;").time(), 999);
        Check.errorOf("0", HEAD + "run 0;", 2, 20);
        Check.errorOf("1000", HEAD + "run 1000;", 2, 20);
    }

    private static void rounds() {
        Check.same("1", Check.loaded(HEAD + "repeat 1 (run 1;);").time(), 1);
        Check.same("9", Check.loaded(HEAD + "repeat 9 (run 1;);").time(), 9);
        Check.errorOf("0", HEAD + "repeat 0 (run 1;);", 2, 23);
        Check.errorOf("10", HEAD + "repeat 10 (run 1;);", 2, 23);
    }

    private static void untilValues() {
        Check.same("0", Check.loaded(HEAD + "until time 0;").time(), 0);
        Check.same("999", Check.loaded(HEAD + "until time 999;").time(), 999);
        Check.errorOf("1000", HEAD + "until time 1000;", 2, 27);
    }

    private static void expectValues() {
        Check.same("0", Check.loaded(HEAD + "expect time 0;").time(), 0);
        Check.same("999", Check.loaded(HEAD + "run 999; expect time 999;").time(), 999);
        Check.errorOf("999 that does not hold", HEAD + "expect time 999;", 5, 16);
        Check.errorOf("1000", HEAD + "run 999; expect time 1000;", 2, 37);
    }

    // ---- commands ----

    private static void callNow() {
        Check.same("at 0", Check.loaded(HEAD + "call 0 1;").arrivalOf(0), 0);
        Check.same("at 7", Check.loaded(HEAD + "run 7; call 0 1;").arrivalOf(0), 7);
        Check.same("at 999", Check.loaded(HEAD + "run 999; call 0 1;").arrivalOf(0), 999);
    }

    private static void calls40() {
        LiftScheduler lift = new LiftScheduler();
        for (int i = 0; i < 39; i++) {
            lift.addPassenger(0, 1, 0);
        }
        Check.same("the 40th by a script", Check.play(lift, "call 8 9 at 999;"), 1);
        Check.same("its number", lift.originOf(39), 8);
    }

    private static void finish() {
        Check.same("of nobody", Check.loaded(HEAD + "finish;").time(), 0);
        Check.same("just until all are done", Check.loaded(HEAD + "call 0 1; finish;").time(), 3);
        Check.same("up to 999", Check.loaded(HEAD + "call 0 1 at 997; finish;").time(), 999);
        Check.same("at 999", Check.loaded(HEAD + "run 999; call 0 1; finish; expect waiting 1;").time(), 999);
    }

    private static void samePolicy() {
        String[] names = {"first", "nearest", "sweep"};
        for (int policy = 0; policy < names.length; policy++) {
            String twice = "policy " + names[policy] + ";policy " + names[policy] + ";";
            Check.same(names[policy], Check.loaded(HEAD + twice).policy(), policy);
        }
    }

    private static void untilReached() {
        String call = HEAD + "call 0 9 at 2; call 0 9 at 4;";
        Check.same("waiting", Check.loaded(call + "until waiting 1;").time(), 2);
        Check.same("riding", Check.loaded(call + "until riding 1;").time(), 3);
        Check.same("distance", Check.loaded(call + "until distance 1;").time(), 4);
        Check.same("floor", Check.loaded(call + "until floor 9;").time(), 12);
        Check.same("done", Check.loaded(call + "until done 2;").time(), 33);
        Check.same("time", Check.loaded(call + "until time 1;").time(), 1);
    }

    private static void untilAlready() {
        LiftScheduler lift = Check.loaded(HEAD + "call 0 5; finish; call 9 0; until time 7;");
        String before = Check.state(lift);
        Check.same("as much", Check.play(lift, "until time 7; until done 1; until floor 5; until distance 5;"
                + "until waiting 1; until riding 0;"), 6);
        Check.same("state after as much", Check.state(lift), before);
        Check.same("more", Check.play(lift, "until time 6; until done 0; until floor 4; until distance 0;"), 4);
        Check.same("state after more", Check.state(lift), before);
    }

    private static void reverse() {
        LiftScheduler lift = Check.loaded(HEAD + "reverse;");
        Check.same("down", lift.isUpward(), false);
        Check.same("reversals", lift.reversals(), 0);
        Check.play(lift, "reverse;");
        Check.same("up", lift.isUpward(), true);
        Check.same("still no reversals", lift.reversals(), 0);
        // Downwards there is no stop below floor 0, so SWEEP reverses once by itself.
        Check.play(lift, "reverse; call 4 5; run 1;");
        Check.same("a reversal of the policy", lift.reversals(), 1);
    }

    private static void expectChangesNothing() {
        LiftScheduler lift = Check.loaded(RIDERS);
        String before = Check.state(lift);
        Check.play(lift, "expect time 3; expect floor 2; expect riding 2; expect waiting 2;"
                + "expect done 0; expect distance 2;");
        Check.same("state", Check.state(lift), before);
    }

    private static void counters() {
        // Absent ones count for none of the counters.
        String text = RIDERS + "call 9 0 at 99;";
        Check.errorOf("absent ones do not wait", text + "expect waiting 3;", 5, 77);
        Check.errorOf("waiting ones do not ride", text + "expect riding 4;", 5, 77);
        Check.errorOf("riding ones are not done", text + "expect done 2;", 5, 77);
        Check.same("at the end", Check.play(Check.loaded(text),
                "finish; expect done 5; expect riding 0; expect waiting 0; expect floor 0;"), 5);
    }

    private static void timesTell() {
        for (int times = 1; times <= 9; times++) {
            LiftScheduler lift = new LiftScheduler();
            Check.same("commands", Check.play(lift, "repeat " + times + " (run 1; call 0 1;); run 1;"),
                    2 * times + 1);
            Check.same("ticks", lift.time(), times + 1);
            Check.same("passengers", lift.passengerCount(), times);
        }
    }

    private static void checkedAgain() {
        Check.errorOf("at, in the second round", HEAD + "repeat 9 (call 0 1 at 0; run 1;);", 2, 38);
        Check.errorOf("run, in the last round", HEAD + "repeat 9 (run 120;);", 4, 30);
        Check.same("run, in no round", Check.loaded(HEAD + "repeat 9 (run 111;);").time(), 999);
        Check.errorOf("expect, in the second round", HEAD + "repeat 2 (expect time 0; run 1;);", 5, 26);
        Check.same("expect, in one round", Check.loaded(HEAD + "repeat 1 (expect time 0; run 1;);").time(), 1);
        Check.errorOf("until, in the second round",
                HEAD + "call 0 9; repeat 2 (until riding 1; finish;);", 4, 49);
        Check.errorOf("capacity, in the second round",
                HEAD + "repeat 2 (capacity 1; capacity 2; call 0 9; call 0 8; run 1;);", 4, 35);
    }

    private static void noRepeatInRepeat() {
        Check.errorOf("repeat in repeat", HEAD + "repeat 2 (repeat 2 (run 1;););", 1, 26);
        Check.errorOf("repeat behind a command", HEAD + "repeat 2 (run 1; repeat 2 (run 1;););", 1, 33);
        Check.same("repeat behind repeat", Check.loaded(HEAD + "repeat 2 (run 1;);repeat 3 (run 1;);").time(), 5);
    }
}
