import java.util.List;

/** The texts among the terms, and promises 19 to 22. */
final class BoundariesOfTexts extends Boundaries {
    private static final String CHANGE = "This is a change (one, with all of them; also if none is carried out).";

    BoundariesOfTexts(Sentences sentences) {
        super(sentences);
    }

    @Override
    void all() {
        section("Terms");
        texts();
        put();
        section("Promise 20: wipe");
        test("Empties the pad, and returns the length that it had.", this::wiping);
        section("Promise 21: fault");
        test("Returns the fault of the pad, NONE if there is none.", this::faultOfPad);
        carryOut();
    }

    private void texts() {
        test("The pad is a text of at most 80 characters, a row of orders:", this::longestPad);
        test("text = order { \";\" order }", this::rowOfOrders);
        test("order = \"g\" number \",\" number \",\" number \",\" number \"*\" digit [ ( \"+\" | \"-\" ) number ] "
                + "[ \"@\" digit ]", this::orderThing);
        test("| \"f\" number \".\" number", this::orderFlash);
        test("| \"w\" number", this::orderPass);
        test("| \"p\"", this::orderShoot);
        test("\"g\": a thing comes with its line, left column, height, width, brightness, speed (0 without), on the ground or on "
                + "another thing, at once:", this::thingComes);
        test("errors as for thing(), speed() and ride(), in this order (with one of them nothing of the order is done);",
                this::thingRefused);
        test("\"f\": flash() in so many ticks, for so many;", this::flashOfText);
        test("\"w\": pass();", this::passOfText);
        test("\"p\": shoot().", this::shootOfText);
        test("A digit is 0 to 9, a number 0 to 99, without leading zeros.", this::digitsAndNumbers);
        test("The fault is the index of the first character that cannot stand at its place when the text is read from left to "
                + "right (also of a digit by which a number would be above 99);", this::firstWrong);
        test("if there is none and the text ends too early (also if it is empty), it is the length of the text.",
                this::endsTooEarly);
    }

    private void put() {
        section("Promise 19: put");
        test("Appends characters to the pad.", this::appends);
        test("They are given as a number: its lowest 8 bits are the last character, the next 8 bits the one before, and so on;",
                this::lastCharacterLowest);
        test("8 bits that are 0 mean that there are no more characters, and everything above them has to be 0, too.",
                this::zeroBits);
        test("- `characters`: 1 to 8 characters", this::oneToEight);
        test("Returns the length of the pad then;", this::lengthThen);
        test("BAD_VALUE if there is no character, a code is not 33 to 126, or a bit above 8 bits that are 0 is not 0;",
                this::wrongCharacters);
        test("TOO_MANY if the pad would be longer than 80.", this::padTooLong);
    }

    private void carryOut() {
        section("Promise 22: carryOut");
        test("Carries the orders of the pad out, one after the other, up to the first one that returns an error, and empties "
                + "the pad.", this::upToTheFirstError);
        test(CHANGE, this::carryOutIsChange);
        test("Returns how many orders were carried out;", this::howMany);
        test("BAD_TEXT if the pad has a fault (then it stays).", this::badText);
    }

    private void longestPad(Run x) {
        String orders = "p;".repeat(39);
        x.text(orders);
        x.due("count(12)", 78);
        x.refused(Calls.put("w99"), TOO_MANY);
        x.due(Calls.put("w9"), 80);
        x.refused(Calls.put(";"), TOO_MANY);
        x.due("fault()", NONE);
        x.due("carryOut()", 40);
        x.due("count(0)", 39 * 34 + 9);
        x.due("count(12)", 0);
        x.text(orders + "p;");
        x.due("fault()", 80);
        x.make("wipe()");
        x.text(orders + "pp");
        x.due("fault()", 79);
        x.make("wipe()");
        x.text("x".repeat(80));
        x.due("fault()", 0);
    }

    /** Behind the text that is read so far each character is tried: some end it, some go on, no other one can stand. */
    private void next(Run x, String text, String ends, String goesOn) {
        for (char one = 33; one <= 126; one++) {
            int place = text.length();
            int want = ends.indexOf(one) >= 0 ? NONE : goesOn.indexOf(one) >= 0 ? place + 1 : place;
            faultIs(x, text + one, want);
            if (want == place) {
                // what comes behind it does not matter
                faultIs(x, text + one + ";p", want);
            }
        }
    }

    private void faultIs(Run x, String text, int want) {
        Run y = x.another();
        y.text(text);
        y.equal("fault() of " + text, y.make("fault()"), want);
    }

    private void rowOfOrders(Run x) {
        next(x, "", "p", "gfw");
        next(x, "p;", "p", "gfw");
        next(x, "w9;f1.2;", "p", "gfw");
        String[] rows = {"p;p", "p;w1;f1.2;g1,2,3,4*5", "g1,2,3,4*5;g1,2,3,4*5-6@7;p", "p;".repeat(39) + "p"};
        for (String row : rows) {
            faultIs(x, row, NONE);
            faultIs(x, row + ";", row.length() + 1);
            faultIs(x, ";" + row.substring(0, row.length() - 1), 0);
        }
        faultIs(x, "p;;p", 2);
        faultIs(x, "p,p", 1);
    }

    private void orderThing(Run x) {
        String[] before = {"g", "g1,", "g1,2,", "g1,2,3,"};
        for (int number = 0; number < 4; number++) {
            String behind = number < 3 ? "," : "*";
            next(x, before[number], "", DIGITS);
            next(x, before[number] + "0", "", behind);
            next(x, before[number] + "1", "", DIGITS + behind);
            next(x, before[number] + "9", "", DIGITS + behind);
            next(x, before[number] + "10", "", behind);
            next(x, before[number] + "99", "", behind);
        }
        next(x, "g1,2,3,4*", DIGITS, "");
        next(x, "g1,2,3,4*0", "", "+-@;");
        next(x, "g1,2,3,4*9", "", "+-@;");
        for (char sign : new char[] {'+', '-'}) {
            String text = "g1,2,3,4*5" + sign;
            next(x, text, DIGITS, "");
            next(x, text + "0", "", "@;");
            next(x, text + "1", DIGITS, "@;");
            next(x, text + "99", "", "@;");
            next(x, text + "99@", DIGITS, "");
            next(x, text + "9@9", "", ";");
        }
        next(x, "g1,2,3,4*5@", DIGITS, "");
        next(x, "g1,2,3,4*5@0", "", ";");
        faultIs(x, "g0,0,0,0*0", NONE);
        faultIs(x, "g99,99,99,99*9-99@9", NONE);
    }

    private void orderFlash(Run x) {
        next(x, "f", "", DIGITS);
        next(x, "f0", "", ".");
        next(x, "f1", "", DIGITS + ".");
        next(x, "f99", "", ".");
        next(x, "f1.", DIGITS, "");
        next(x, "f1.0", "", ";");
        next(x, "f1.1", DIGITS, ";");
        next(x, "f1.99", "", ";");
        faultIs(x, "f0.0", NONE);
        faultIs(x, "f99.99", NONE);
    }

    private void orderPass(Run x) {
        next(x, "w", DIGITS, "");
        next(x, "w0", "", ";");
        next(x, "w1", DIGITS, ";");
        next(x, "w9", DIGITS, ";");
        next(x, "w10", "", ";");
        next(x, "w99", "", ";");
    }

    private void orderShoot(Run x) {
        next(x, "p", "", ";");
        faultIs(x, "p", NONE);
    }

    private void thingComes(Run x) {
        x.make("pass(7)", "thing(0, 9, 1, 1, 1)", "speed(0, 10)", "pass(3)");
        x.text("g0,0,1,1*1;g15,23,16,24*9+40@0;g7,8,9,10*5-40@2;g1,2,3,4*5-0;g1,2,3,4*5+0@3");
        x.due("carryOut()", 5);
        int[][] things = {{0, 1012, 1, 1, 1, 110, NONE, 1010}, {0, 1000, 1, 1, 1, 100, NONE, 1000},
            {15, 1023, 16, 24, 9, 140, 0, 1050}, {7, 1008, 9, 10, 5, 60, 2, 1010}, {1, 1002, 3, 4, 5, 100, NONE, 1000},
            {1, 1002, 3, 4, 5, 100, 3, 1010}};
        for (int what = 0; what < 8; what++) {
            if (what != 1) {
                x.due(call("of", 0, what), things[0][what]);
            }
        }
        for (int thing = 1; thing < 6; thing++) {
            for (int what = 0; what < 8; what++) {
                x.due(call("of", thing, what), things[thing][what]);
            }
        }
        // at once: that on which it rides was at 12 then
        x.make("pass(1)");
        x.due("of(0, 1)", 1013);
        x.due("of(2, 1)", 1023 + 4 + 1);
        x.due("of(3, 1)", 1008 - 4 + 4 + 1);
        x.due("of(4, 1)", 1002);
        x.due("of(5, 1)", 1002 + 1);
        // without a speed, and on the ground, also behind an order with both
        Run y = x.another();
        y.text("g1,2,3,4*5;g1,2,3,4*5+40@0;g1,2,3,4*5;g1,2,3,4*5-40;g1,2,3,4*5@0");
        y.due("carryOut()", 5);
        int[] speeds = {100, 140, 100, 60, 100};
        int[] rides = {NONE, 0, NONE, NONE, 0};
        for (int thing = 0; thing < 5; thing++) {
            y.due(call("of", thing, 5), speeds[thing]);
            y.due(call("of", thing, 6), rides[thing]);
        }
    }

    private void thingRefused(Run x) {
        String[] wrong = {"g16,0,1,1*1", "g99,0,1,1*1", "g0,24,1,1*1", "g0,99,1,1*1", "g0,0,0,1*1", "g0,0,17,1*1",
            "g0,0,99,1*1", "g0,0,1,0*1", "g0,0,1,25*1", "g0,0,1,99*1", "g0,0,1,1*0", "g0,0,1,1*1+41", "g0,0,1,1*1-41",
            "g0,0,1,1*1+99", "g0,0,1,1*1-99", "g0,0,1,1*1@2", "g0,0,1,1*1@3", "g0,0,1,1*1@9", "g0,0,1,1*1+40@2",
            "g0,0,1,1*1-41@1", "g16,24,17,25*0+41@9"};
        for (String order : wrong) {
            Run y = x.another();
            y.make("thing(1, 2, 3, 4, 5)", "speed(0, 7)", "thing(1, 2, 3, 4, 5)", "pass(3)");
            // "w0" is refused, too: nothing is done of either of them
            likeNothing(y, order);
            y.text(order);
            y.due("carryOut()", 0);
            y.due("count(1)", 2);
        }
        Run y = x.another();
        eightThings(y, 1);
        likeNothing(y, "g0,0,1,1*1");
        likeNothing(y, "g0,0,1,1*1+41@9");
        Run z = x.another();
        z.text("g0,0,1,1*1@0");
        z.due("carryOut()", 0);
        z.text("g15,23,16,24*9+40;g0,0,1,1*1-40@0;g0,0,1,1*1@0");
        z.due("carryOut()", 3);
    }

    private void likeNothing(Run x, String order) {
        x.same("the order " + order, carried(order), carried("w0"));
    }

    private static List<String> carried(String orders) {
        List<String> calls = Run.puts(orders);
        calls.add("carryOut()");
        return calls;
    }

    private void flashOfText(Run x) {
        x.make("pass(5)");
        carries(x, "f0.1", 1);
        x.due("count(6)", 5);
        x.due("count(7)", 1);
        carries(x, "f99.20", 1);
        x.due("count(6)", 104);
        x.due("count(7)", 20);
        for (String wrong : new String[] {"f0.0", "f99.21", "f99.99", "f0.21"}) {
            likeNothing(x, wrong);
            carries(x, wrong, 0);
        }
        x.due("count(6)", 104);
        carries(x, "w9;f3.4;w1", 3);
        x.due("count(6)", 17);
        x.same("f7.8", carried("f7.8"), List.of("flash(7, 8)"));
    }

    private void passOfText(Run x) {
        carries(x, "w0", 0);
        carries(x, "w1", 1);
        x.due("count(0)", 1);
        carries(x, "w99", 1);
        x.due("count(0)", 100);
        x.same("w42", carried("w42"), List.of("pass(42)"));
        x.passTo(9900);
        carries(x, "w98;w2", 1);
        x.due("count(0)", 9998);
        carries(x, "w1;w1", 1);
        x.due("count(0)", 9999);
        carries(x, "w1", 0);
        likeNothing(x, "w99");
    }

    private void shootOfText(Run x) {
        x.make("thing(0, 0, 16, 24, 1)", "speed(0, 3)");
        x.same("p", carried("p"), List.of("shoot()"));
        x.passTo(9999 - 34);
        carries(x, "p", 1);
        x.due("count(0)", 9999);
        carries(x, "p", 0);
        x.due("count(2)", 1);
        Run y = x.another();
        y.passTo(9999 - 33);
        carries(y, "p", 0);
        y.due("count(2)", 0);
    }

    private void carries(Run x, String text, int want) {
        x.text(text);
        x.due("carryOut()", want);
        x.due("count(12)", 0);
    }

    private void digitsAndNumbers(Run x) {
        String[] right = {"w0", "w1", "w9", "w10", "w11", "w90", "w99", "f0.0", "f9.9", "f10.99", "g0,0,0,0*0", "g1,2,3,4*9@9"};
        for (String text : right) {
            faultIs(x, text, NONE);
        }
        String[] leadingZeros = {"w00", "w01", "w09", "f00.1", "f1.01", "g01,2,3,4*5", "g1,00,3,4*5", "g1,2,3,4*5+01",
            "g1,2,3,4*5-00", "w100", "w999", "g1,2,3,4*10", "g1,2,3,4*5@10"};
        int[] faults = {2, 2, 2, 2, 4, 2, 4, 12, 12, 3, 3, 10, 12};
        for (int text = 0; text < faults.length; text++) {
            faultIs(x, leadingZeros[text], faults[text]);
        }
        // the codes next to those of 0 and 9 are no digits
        faultIs(x, "w/", 1);
        faultIs(x, "w:", 1);
        faultIs(x, "w1/", 2);
        faultIs(x, "w1:", 2);
        faultIs(x, "g1,2,3,4*/", 9);
        faultIs(x, "g1,2,3,4*:", 9);
    }

    private void firstWrong(Run x) {
        // a bar stands before the character
        String[] texts = {"|x", "|;p", "|1", "|P;", "w|w5", "w10|0", "w99|9", "w1;w|x;|", "f99|9.1", "f1.99|9", "g99|9,1",
            "g1,99|9", "g1,2,99|9", "g1,2,3,99|9", "g1,2,3,4*9|9", "g1,2,3,4*5+99|9", "g1,2,3,4*5-99|0", "g1,2,3,4*5@9|9",
            "p;|;", "p|p", "p;p;p;|!", "g1,2,3,4*5|*6", "g1,2,3,4*5+1|-1", "g1,2,3,4*5@1|+1", "g1,2,3,4*5@1|@1", "f1|,2",
            "g1|.2", "g1,2,3|;p"};
        for (String text : texts) {
            int want = text.indexOf('|');
            faultIs(x, text.replace("|", ""), want);
            // with a second one behind it, and with a whole order
            faultIs(x, text.replace("|", "") + "!", want);
            faultIs(x, text.replace("|", "") + ";p", want);
        }
    }

    private void endsTooEarly(Run x) {
        x.due("fault()", 0);
        String longest = "g12,13,14,15*6-17@8";
        int[] complete = {14, 16, 17, 19};
        for (int length = 1; length <= longest.length(); length++) {
            int want = length;
            for (int one : complete) {
                want = one == length ? NONE : want;
            }
            faultIs(x, longest.substring(0, length), want);
        }
        String[] early = {"g", "f", "w", "f1", "f12", "f1.", "p;", "w5;", "f1.2;", "g1,2,3,4*5;", "p;p;p;w"};
        for (String text : early) {
            faultIs(x, text, text.length());
        }
        x.text("p");
        x.make("wipe()");
        x.due("fault()", 0);
    }

    private void appends(Run x) {
        x.due(Calls.put("w"), 1);
        x.due(Calls.put("12"), 3);
        x.due(Calls.put(";f3.4;p;"), 11);
        x.due(Calls.put("w5"), 13);
        x.due("fault()", NONE);
        x.due("count(13)", 0);
        x.due("carryOut()", 4);
        x.due("count(0)", 12 + 34 + 5);
        x.due("count(6)", 15);
        x.due("count(7)", 4);
    }

    private void lastCharacterLowest(Run x) {
        x.due(call("put", 'w' << 16 | '1' << 8 | '2'), 3);
        x.due("fault()", NONE);
        x.due("carryOut()", 1);
        x.due("count(0)", 12);
        // eight of them, of which the first stands in the highest bits
        long eight = 0;
        for (char one : "f12.3;w4".toCharArray()) {
            eight = eight * 256 + one;
        }
        x.due(call("put", eight), 8);
        x.due("carryOut()", 2);
        x.due("count(6)", 24);
        x.due("count(0)", 16);
        x.due(call("put", '2' << 16 | '1' << 8 | 'w'), 3);
        x.due("fault()", 0);
    }

    private void zeroBits(Run x) {
        for (int zeros = 0; zeros < 8; zeros++) {
            // 8 bits that are 0, with a character, with one bit, or with the highest one anywhere above them
            long below = Checks.packed("pppppppp".substring(0, zeros));
            for (int above = zeros + 1; above < 8; above++) {
                x.refused(call("put", below | (long) 'p' << 8 * above), BAD_VALUE);
                x.refused(call("put", below | 1L << 8 * above), BAD_VALUE);
                x.refused(call("put", below | 1L << 8 * above + 7), BAD_VALUE);
            }
        }
        for (int many = 1; many <= 8; many++) {
            Run y = x.another();
            y.due(call("put", Checks.packed("pppppppp".substring(0, many))), many);
        }
    }

    private void oneToEight(Run x) {
        x.refused("put(0)", BAD_VALUE);
        x.due(call("put", 'w'), 1);
        x.due(Calls.put("1;w2;w3;"), 9);
        x.due(Calls.put("p"), 10);
        x.due("carryOut()", 4);
        x.due("count(0)", 6 + 34);
    }

    private void lengthThen(Run x) {
        for (int many = 1; many <= 8; many++) {
            Run y = x.another();
            y.due(Calls.put("x".repeat(many)), many);
            y.due(Calls.put("x".repeat(9 - many)), 9);
        }
        x.text("x".repeat(79));
        x.due(Calls.put("x"), 80);
        x.make("wipe()");
        x.due(Calls.put("x"), 1);
    }

    private void wrongCharacters(Run x) {
        x.text("w5;");
        x.eachRefused(BAD_VALUE, "put(0)", "put(-1)", call("put", Long.MIN_VALUE), call("put", Long.MAX_VALUE),
                call("put", Long.MIN_VALUE + 'p'), call("put", 'p' + (1L << 16)), call("put", 'p' << 8));
        int[] codes = {1, 10, 31, 32, 127, 128, 161, 254, 255};
        for (int place = 0; place < 8; place++) {
            long others = Checks.packed("pppppppp") & ~(255L << 8 * place);
            for (int code : codes) {
                x.refused(call("put", others | (long) code << 8 * place), BAD_VALUE);
            }
            Run y = x.another();
            y.due(call("put", others | 33L << 8 * place), 8);
            y.due(call("put", others | 126L << 8 * place), 16);
        }
        for (int code = 1; code < 256; code++) {
            if (code >= 33 && code <= 126) {
                x.another().due(call("put", code), 1);
            } else {
                x.refused(call("put", code), BAD_VALUE);
            }
        }
        // also when there is no room for them
        x.text("x".repeat(77));
        x.eachRefused(BAD_VALUE, "put(0)", "put(32)", "put(127)", "put(-1)");
    }

    private void padTooLong(Run x) {
        for (int room = 0; room < 8; room++) {
            Run y = x.another();
            y.text("x".repeat(80 - room));
            for (int many = room + 1; many <= 8; many++) {
                y.refused(Calls.put("p".repeat(many)), TOO_MANY);
            }
            y.due("count(12)", 80 - room);
            if (room > 0) {
                y.due(Calls.put("p".repeat(room)), 80);
            }
            y.eachRefused(TOO_MANY, Calls.put("p"), Calls.put("pppppppp"));
        }
        x.text("x".repeat(72));
        x.due(Calls.put("pppppppp"), 80);
    }

    private void wiping(Run x) {
        x.due("wipe()", 0);
        x.text("w5;x");
        x.make("thing(0, 0, 1, 1, 1)");
        x.due("wipe()", 4);
        x.due("count(12)", 0);
        x.due("wipe()", 0);
        x.due("count(13)", 1);
        x.text("x".repeat(80));
        x.due("wipe()", 80);
        x.due("fault()", 0);
        x.text("p");
        x.due("fault()", NONE);
        // the state, the history and the slots stay
        Run y = x.another();
        full(y);
        y.make("wipe()");
        y.same("wipe() again", List.of("wipe()"), List.of());
        y.due("count(13)", 6);
    }

    private void faultOfPad(Run x) {
        x.due("fault()", 0);
        x.text("w12;p");
        x.due("fault()", NONE);
        x.due("fault()", NONE);
        x.due("count(12)", 5);
        x.text("p");
        x.due("fault()", 5);
        x.changesNothing("fault()");
        x.make("wipe()");
        x.text("p;");
        x.due("fault()", 2);
        x.text("g0,0,1,1*1");
        x.due("fault()", NONE);
        x.due("carryOut()", 2);
        x.due("fault()", 0);
    }

    private void upToTheFirstError(Run x) {
        carries(x, "w1;w2;w0;w4", 2);
        x.due("count(0)", 3);
        carries(x, "w0;w4;w5", 0);
        x.due("count(0)", 3);
        carries(x, "w4;w5;w0", 2);
        x.due("count(0)", 12);
        carries(x, "w4;f0.0;g0,0,1,1*1", 1);
        x.due("count(0)", 16);
        x.due("count(1)", 0);
        carries(x, "g0,0,1,1*1;p;f5.6;g0,0,1,1*1@1;w9", 3);
        x.due("count(0)", 50);
        x.due("count(1)", 1);
        x.due("count(6)", 55);
        String nine = "g0,0,1,1*1;".repeat(7) + "w1";
        carries(x, nine, 8);
        x.due("count(1)", 8);
        carries(x, "w1;g0,0,1,1*1;w1", 1);
        x.due("count(0)", 52);
    }

    private void carryOutIsChange(Run x) {
        x.make("thing(0, 0, 1, 1, 1)", "pass(1)");
        x.carryOutIsChange("w1;g0,0,1,1*1-3@0;f3.4;p;w99");
        x.carryOutIsChange("w1;w0;p");
        x.carryOutIsChange("w0");
        x.carryOutIsChange("p");
        Run y = x.another();
        full(y);
        y.make("wipe()");
        y.text("f1.2;f3.4;f5.6");
        y.due("carryOut()", 3);
        y.due("count(13)", 6);
        y.make("undo()");
        y.due("count(6)", 10006);
    }

    private void howMany(Run x) {
        carries(x, "w0", 0);
        carries(x, "p", 1);
        carries(x, "w1;f1.2;g0,0,1,1*1;p", 4);
        carries(x, "w1;".repeat(26) + "w9", 27);
        carries(x, "p;".repeat(39) + "p", 40);
        carries(x, "p;".repeat(38) + "w0;p", 38);
    }

    private void badText(Run x) {
        x.refused("carryOut()", BAD_TEXT);
        for (String text : new String[] {"w5;", "w5;x", "w100", "p;g16,0,1,1*1;w", "x", "p".repeat(80)}) {
            Run y = x.another();
            y.make("thing(1, 2, 3, 4, 5)", "save(0)");
            y.text(text);
            y.refused("carryOut()", BAD_TEXT);
            y.due("count(12)", text.length());
            y.due("count(0)", 0);
        }
        x.text("w5;");
        x.refused("carryOut()", BAD_TEXT);
        x.text("w6");
        x.due("carryOut()", 2);
        x.due("count(0)", 11);
        x.refused("carryOut()", BAD_TEXT);
    }
}
