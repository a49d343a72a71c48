import java.math.BigInteger;

/** Promises 46 to 52 and sections 2 and 8, sentence by sentence: small orders and measures. */
final class OrderSentences extends Sentence {
    /** The orders of a furnished work: p is 2, q is 0, 2 or 10, r is 0 or 1. */
    private static final int[] FURNISHED_ORDERS = {2, 34, 162, 258, 290, 418};
    private static final Calls FOUR_FREE_SIGNS = work -> {
        for (int i = 0; i < 4; i++) {
            work.sign(2, MIXED, MIXED);
        }
        Due.read(work, 0, "p(a,b)");
        Due.read(work, 1, "q(a,b)");
        Due.read(work, 2, "r(a,b)");
        Due.read(work, 3, "s(a,b)");
    };

    private OrderSentences() { }

    static void all() {
        orders();
        failsArguments();
        failsAnswers();
        failsExceptions();
        valueArguments();
        valueExceptions();
        meanLines();
        provedShare();
        checksum();
        errors();
        valuesAndWays();
        directions();
        lines();
        waysAndNumbers();
        toldOnes();
    }

    private static Calls oneSign(int places, int first, int second) {
        return work -> work.sign(places, first, second);
    }

    private static void orders() {
        named("Promise 46", "Counts the small orders that obey the directions of the signs, the told laws and the equivalences.");
        answers(FURNISHED, Chainwork::orders, FURNISHED_ORDERS.length);
        answers(then(FURNISHED, work -> work.law(50, 5, LESS, 0)), Chainwork::orders, 3);

        // what is told later counts as well, and what is told no more does not
        answers(FURNISHED, work -> work.orders() + 10 * work.sign(0, 0, 0) + 100 * work.orders(), 6 + 30 + 1200);
        answers(FURNISHED, work -> work.orders() + 10 * work.law(50, 5, LESS, 0) + 100 * work.orders(), 6 + 60 + 300);
        answers(FURNISHED, work -> work.orders() + 10 * work.equivalence(50, 0, 1, 1, 0) + 100 * work.orders(), 6 + 20);
        answers(then(FURNISHED, work -> work.law(50, 5, LESS, 0)), work -> {
            int before = work.orders();
            work.condition(50, 5, 5);
            return before + 10 * work.orders();
        }, 33);
        answers(then(FURNISHED, work -> work.law(50, 5, LESS, 0)), work -> {
            int before = work.orders();
            work.condition(50, 5, 0);
            return before + 10 * work.orders();
        }, 63);
        answers(then(FURNISHED, work -> work.law(50, 5, LESS, 0)), work -> {
            int before = work.orders();
            work.undo();
            return before + 10 * work.orders();
        }, 63);
        answers(then(FURNISHED, work -> work.law(50, 5, LESS, 0)), work -> {
            int before = work.orders();
            work.restore(0);
            return before + 10 * work.orders();
        }, 63);

        named("Promise 46", "Returns how many there are.");
        answers(NOTHING, Chainwork::orders, 1);
        answers(FOUR_FREE_SIGNS, Chainwork::orders, 65536);
        answers(then(FURNISHED, work -> work.law(50, 0, LESS, 1)), Chainwork::orders, 0);
        answers(work -> {
            work.variable(0, 0);
            work.law(0, 0, EQUAL, 0);
        }, Chainwork::orders, 1);
    }

    private static void failsArguments() {
        named("Promise 47", "Returns the small order that obeys all this, with the least number that is not less than a number, "
            + "in which a line does not hold.");
        answers(FURNISHED, work -> work.fails(0, LESS, 1, 0), 2);
        answers(FURNISHED, work -> work.fails(4, EQUAL, 2, 0), 2);
        answers(FURNISHED, work -> work.fails(4, EQUAL, 2, 35), 258);

        named("Promise 47", "`left`: a register");
        range(INDEX, FILLED, (work, left) -> work.fails(left, EQUAL, 1, 0), 0, 2, 9, 2);

        named("Promise 47", "`relation`: EQUAL or LESS");
        range(ARGUMENT, FURNISHED, (work, relation) -> work.fails(5, relation, 0, 3), EQUAL, 34, LESS, 258);

        named("Promise 47", "`right`: a register");
        range(INDEX, FILLED, (work, right) -> work.fails(1, EQUAL, right, 0), 0, 2, 9, 2);

        named("Promise 47", "`from`: 0 to 65535");
        range(ARGUMENT, FURNISHED, (work, from) -> work.fails(0, LESS, 1, from), 0, 2, 65535, NONE);
        answers(FOUR_FREE_SIGNS, work -> work.fails(0, EQUAL, 1, 65535), NONE);
        answers(then(FOUR_FREE_SIGNS, work -> work.variable(9, 0)), work -> work.fails(0, EQUAL, 9, 65535), 65535);
        answers(FOUR_FREE_SIGNS, work -> work.fails(0, EQUAL, 1, 0), 1);
    }

    private static void failsAnswers() {
        named("Promise 47", "Returns its number; NONE without one.");
        for (int i = 0; i < FURNISHED_ORDERS.length; i++) {
            int order = FURNISHED_ORDERS[i];
            int next = i + 1 < FURNISHED_ORDERS.length ? FURNISHED_ORDERS[i + 1] : NONE;
            answers(FURNISHED, work -> work.fails(0, LESS, 1, order), order);
            answers(FURNISHED, work -> work.fails(0, LESS, 1, order + 1), next);
        }
        answers(FURNISHED, work -> work.fails(2, EQUAL, 3, 0), NONE);
        answers(then(FURNISHED, work -> work.law(50, 0, LESS, 1)), work -> work.fails(0, LESS, 1, 0), NONE);
        answers(work -> {
            work.variable(0, 0);
            work.variable(1, 1);
        }, work -> work.fails(0, EQUAL, 1, 0), 0);
    }

    private static void failsExceptions() {
        named("Promise 47", "Throws `IndexOutOfBoundsException` see section 10");
        refuses(INDEX, FURNISHED, work -> work.fails(10, MORE, 9, 65536));
        refuses(INDEX, FURNISHED, work -> work.fails(9, MORE, 10, 65536));

        named("Promise 47", "Throws `IllegalStateException` see section 10");
        refuses(STATE, FURNISHED, work -> work.fails(9, MORE, 0, 65536));
        refuses(STATE, FURNISHED, work -> work.fails(0, MORE, 9, 65536));

        named("Promise 47", "Throws `IllegalArgumentException` see section 10");
        refuses(ARGUMENT, FURNISHED, work -> work.fails(0, MORE, 0, 65535));
        refuses(ARGUMENT, FURNISHED, work -> work.fails(0, LESS, 0, 65536));
        refuses(ARGUMENT, FURNISHED, work -> work.fails(0, NONE, 0, 0));
        refuses(ARGUMENT, FURNISHED, work -> work.fails(0, LESS, 0, -1));
    }

    private static void valueArguments() {
        named("Promise 48", "Returns the value of a term in a small order, whether this obeys anything or not.");
        answers(FURNISHED, work -> work.value(1, 2, 0), 1);
        answers(FURNISHED, work -> work.value(1, 2, 1), 0);
        answers(FURNISHED, work -> work.value(2, 2, 1), 1);

        named("Promise 48", "`order`: 0 to 65535 (its numbers beyond what a sign needs, and of signs that are not there, do not matter)");
        range(ARGUMENT, FURNISHED, (work, order) -> work.value(order, 5, 0), 0, 0, 65535, 1);
        answers(FURNISHED, work -> work.value(14 + 512, 2, 0) * 2 + work.value(14 + 512, 5, 0), 0);
        answers(FURNISHED, work -> work.value(12 + 1, 2, 0) * 2 + work.value(12 + 1, 2, 1), 2);
        answers(FURNISHED, work -> work.value(61440 + 2, 2, 1), 1);
        answers(then(FURNISHED, read(9, "q(r,b)")), work -> work.value(14 * 256 + 10 * 16, 9, 2), 0);
        answers(then(FURNISHED, read(9, "q(r,b)")), work -> work.value(14 * 256 + 10 * 16, 9, 3), 0);
        for (int number = 0; number < 4; number++) {
            int values = number;
            answers(FURNISHED, work -> work.value(12 + 10 * 16, 7, values), 0);
            answers(FURNISHED, work -> work.value(12 + 2 + 10 * 16, 7, values), values & 1);
        }
        answers(FURNISHED, work -> work.value(61440 + 14 * 256, 5, 0), 0);
        answers(NOTHING, work -> work.variable(0, 0) + work.value(65535, 0, 0), 1);

        named("Promise 48", "`register`: 0 to 9");
        range(INDEX, FILLED, (work, register) -> work.value(0, register, 1), 0, 1, 9, 0);

        named("Promise 48", "`values`: the values of the variables, as bits, 0 to 15");
        range(ARGUMENT, FURNISHED, (work, values) -> work.value(0, 0, values), 0, 0, 15, 1);
        for (int number = 0; number < 16; number++) {
            int values = number;
            answers(FILLED, work -> work.value(0, 0, values) + 2 * work.value(0, 1, values)
                + 4 * work.value(0, 8, values) + 8 * work.value(0, 9, values), values);
        }

        named("Promise 48", "Returns 0 or 1.");
        answers(FURNISHED, work -> work.value(255, 7, 0), 1);
        answers(then(FURNISHED, read(9, tower(40))), work -> work.value(1, 9, 0), 1);
        answers(then(FURNISHED, read(9, tower(40))), work -> work.value(1, 9, 1), 0);
    }

    private static void valueExceptions() {
        named("Promise 48", "Throws `IndexOutOfBoundsException` see section 10");
        refuses(INDEX, FURNISHED, work -> work.value(65536, 10, 16));

        named("Promise 48", "Throws `IllegalStateException` see section 10");
        refuses(STATE, FURNISHED, work -> work.value(65536, 9, 16));

        named("Promise 48", "Throws `IllegalArgumentException` see section 10");
        refuses(ARGUMENT, FURNISHED, work -> work.value(65536, 0, 0));
        refuses(ARGUMENT, FURNISHED, work -> work.value(0, 0, 16));
        refuses(ARGUMENT, FURNISHED, work -> work.value(-1, 0, 0));
        refuses(ARGUMENT, FURNISHED, work -> work.value(0, 0, -1));
    }

    private static void meanLines() {
        named("Promise 49", "Returns the mean number of lines of the chains that have some.");
        answers(FURNISHED, Chainwork::meanLines, 2.0);
        answers(then(FURNISHED, work -> work.begin(2, 0)), Chainwork::meanLines, 7.0 / 4.0);

        named("Promise 49", "Returns their sum as a double, divided by the number of these chains as a double; 0.0 without any.");
        answers(NOTHING, Chainwork::meanLines, 0.0);
        answers(then(FURNISHED, work -> work.line(0, 3, 0)), Chainwork::meanLines, 7.0 / 3.0);
        answers(work -> {
            work.variable(0, 0);
            work.begin(3, 0);
            for (int line = 1; line < 12; line++) {
                work.line(3, 0, 0);
            }
        }, Chainwork::meanLines, 12.0);
    }

    private static void provedShare() {
        named("Promise 50", "Returns the share of the laws that were proved.");
        answers(FURNISHED, Chainwork::provedShare, 0.2f);

        named("Promise 50", "Returns their number as a float, divided by the number of laws as a float; 0.0f without laws.");
        answers(NOTHING, Chainwork::provedShare, 0.0f);
        answers(then(FURNISHED, work -> work.lemma(50, 0)), Chainwork::provedShare, 2.0f / 6.0f);
        answers(TWENTY_LAWS, Chainwork::provedShare, 1.0f / 20.0f);
        answers(work -> {
            work.variable(0, 0);
            work.begin(0, 0);
            work.lemma(0, 0);
        }, Chainwork::provedShare, 1.0f);
        answers(work -> {
            work.variable(0, 0);
            work.law(99, 0, LESS, 0);
        }, Chainwork::provedShare, 0.0f);
    }

    private static void checksum() {
        named("Promise 51", "Returns a number of the book: from 7 on, for each law by its name, it becomes 31 times itself plus the name, "
            + "plus 100 times the size of its left term, plus 10000 times the size of its right one (longs that go round).");
        checksumIs(NOTHING, new int[0][]);
        int[][] furnished = {{3, 3, 2}, {7, 1, 2}, {20, 2, 3}, {31, 3, 2}, {32, 3, 2}};
        checksumIs(FURNISHED, furnished);
        checksumIs(work -> {
            work.variable(0, 0);
            work.law(99, 0, LESS, 0);
            work.law(0, 0, EQUAL, 0);
        }, new int[][] {{0, 1, 1}, {99, 1, 1}});

        named("Promise 51", "Returns the number.");
        int[][] laws = new int[20][];
        for (int i = 0; i < 20; i++) {
            laws[i] = new int[] {80 + i, 40, 39};
        }
        checksumIs(work -> {
            work.sign(1, RISES, 0);
            Due.read(work, 0, tower(40));
            Due.read(work, 1, tower(39));
            for (int name = 99; name >= 80; name--) {
                work.law(name, 0, LESS, 1);
            }
        }, laws);
    }

    /** Reckoned with numbers that have no end, and cut to 64 bits then. */
    private static void checksumIs(Calls start, int[][] laws) {
        BigInteger due = BigInteger.valueOf(7);
        for (int[] law : laws) {
            due = due.multiply(BigInteger.valueOf(31)).add(BigInteger.valueOf(law[0] + 100L * law[1] + 10000L * law[2]));
        }
        long wanted = due.longValue();
        holds(start, work -> work.checksum() == wanted);
    }

    private static void errors() {
        named("Promise 52", "Looks for errors: 1 for each law that was proved and does not hold in some small order "
            + "that obeys the directions, the told laws and the equivalences, or rests on itself, "
            + "and for each chain that is right and whose line of its first and last term, by its relation "
            + "(turned round for MORE; not for NONE), does not hold in some such order in which all open assumptions hold as lines.");
        answers(FURNISHED, Chainwork::errors, 0);
        answers(then(FURNISHED, work -> work.turn(0)), Chainwork::errors, 0);
        answers(then(FURNISHED, work -> {
            work.begin(2, 5);
            work.step(2, 100, 0);
        }), Chainwork::errors, 0);
        answers(then(FURNISHED, work -> work.law(50, 0, LESS, 1)), Chainwork::errors, 0);

        named("Promise 52", "Returns how many there are; always 0.");
        answers(NOTHING, Chainwork::errors, 0);
        answers(TWENTY_LAWS, Chainwork::errors, 0);
        answers(FOUR_FREE_SIGNS, Chainwork::errors, 0);
        answers(then(FURNISHED, work -> {
            work.cases(50, 31, 32);
            work.across(51, 3, 40, true);
            work.end(52, 0);
        }), Chainwork::errors, 0);
    }

    private static void valuesAndWays() {
        named("Section 2", "An order is a row of values, each greater than the ones ahead of it.");
        Calls twoValues = work -> {
            work.sign(0, 0, 0);
            work.sign(0, 0, 0);
            work.term(0, 0, 0, 0);
            work.term(1, 1, 0, 0);
        };
        answers(twoValues, work -> work.fails(0, LESS, 1, 0), 1);
        answers(twoValues, work -> work.fails(0, LESS, 1, 2), NONE);
        answers(twoValues, work -> work.fails(1, LESS, 0, 0), 16);
        answers(twoValues, work -> work.fails(0, EQUAL, 1, 0), 1);
        answers(twoValues, work -> work.fails(0, EQUAL, 1, 17), NONE);

        named("Section 2", "With an order, each sign stands for a way to make a value of as many values as it has places;");
        answers(oneSign(0, MIXED, MIXED), Chainwork::orders, 2);
        answers(oneSign(1, MIXED, MIXED), Chainwork::orders, 4);
        answers(oneSign(2, MIXED, MIXED), Chainwork::orders, 16);
    }

    private static void directions() {
        named("Section 2", "where a place RISES, a greater value in it (the others staying) makes a value that is at least as great; "
            + "where it FALLS, one that is at most as great.");
        answers(oneSign(0, 0, 0), Chainwork::orders, 2);
        answers(oneSign(1, RISES, 0), Chainwork::orders, 3);
        answers(oneSign(1, FALLS, 0), Chainwork::orders, 3);
        answers(oneSign(1, MIXED, 0), Chainwork::orders, 4);
        answers(oneSign(2, RISES, RISES), Chainwork::orders, 6);
        answers(oneSign(2, RISES, FALLS), Chainwork::orders, 6);
        answers(oneSign(2, FALLS, FALLS), Chainwork::orders, 6);
        answers(oneSign(2, RISES, MIXED), Chainwork::orders, 9);
        answers(oneSign(2, MIXED, FALLS), Chainwork::orders, 9);
        answers(oneSign(2, MIXED, MIXED), Chainwork::orders, 16);
        ordersAre(oneSign(1, RISES, 0), 0, 2, 3);
        ordersAre(oneSign(1, FALLS, 0), 0, 1, 3);
        ordersAre(oneSign(2, RISES, RISES), 0, 8, 10, 12, 14, 15);
        ordersAre(oneSign(2, RISES, FALLS), 0, 2, 3, 10, 11, 15);
        ordersAre(oneSign(2, FALLS, RISES), 0, 4, 5, 12, 13, 15);
        ordersAre(oneSign(2, FALLS, FALLS), 0, 1, 3, 5, 7, 15);
        ordersAre(oneSign(2, MIXED, RISES), 0, 4, 5, 8, 10, 12, 13, 14, 15);
    }

    /** The orders in which a = b fails, which are all that there are. */
    private static void ordersAre(Calls start, int... numbers) {
        Calls withVariables = then(start, work -> {
            work.variable(0, 0);
            work.variable(1, 1);
        });
        int before = NONE;
        for (int number : numbers) {
            int from = before + 1;
            answers(withVariables, work -> work.fails(0, EQUAL, 1, from), number);
            before = number;
        }
        int behind = before + 1;
        answers(withVariables, work -> work.fails(0, EQUAL, 1, behind), NONE);
    }

    private static void lines() {
        named("Section 2", "A line \"x EQUAL y\" or \"x LESS y\" holds in an order, if for all values of the variables "
            + "the values of both terms are equal, or that of x is at most that of y.");
        Calls two = work -> {
            work.sign(2, RISES, RISES);
            Due.read(work, 0, "a");
            Due.read(work, 1, "p(a,b)");
        };
        // p(a,b) is 0 always, both, a, b, one of them, or 1 always: numbers 0, 8, 10, 12, 14, 15
        answers(two, work -> work.fails(0, EQUAL, 1, 9), 12);
        answers(two, work -> work.fails(0, EQUAL, 1, 15), 15);
        answers(two, work -> work.fails(0, LESS, 1, 8), 8);
        answers(two, work -> work.fails(0, LESS, 1, 10), 12);
        answers(two, work -> work.fails(0, LESS, 1, 13), NONE);
        answers(two, work -> work.fails(1, LESS, 0, 0), 12);
        answers(two, work -> work.fails(1, LESS, 0, 15), 15);
        // the values of all four variables count
        Calls four = then(two, work -> {
            Due.read(work, 2, "p(p(a,b),p(c,d))");
            Due.read(work, 3, "p(p(a,b),c)");
        });
        answers(four, work -> work.fails(2, EQUAL, 3, 0), 8);
        answers(four, work -> work.fails(2, EQUAL, 3, 9), 12);
        answers(four, work -> work.fails(2, EQUAL, 3, 13), 14);
        answers(four, work -> work.fails(2, EQUAL, 3, 15), NONE);
    }

    private static void waysAndNumbers() {
        named("Section 8", "The small orders have the two values 0 and 1.");
        answers(oneSign(0, 0, 0), Chainwork::orders, 2);

        named("Section 8", "The way of a sign is told by a number: with no place its value; otherwise the sum of 2 to the power of k "
            + "for each k for which it makes 1, k being the value in its first place, and twice the value in its second one.");
        answers(FURNISHED, work -> work.value(256, 5, 0) * 2 + work.value(0, 5, 0), 2);
        for (int number = 0; number < 16; number++) {
            int way = number;
            answers(FOUR_FREE_SIGNS, work -> work.value(way, 0, 0) + 2 * work.value(way, 0, 1)
                + 4 * work.value(way, 0, 2) + 8 * work.value(way, 0, 3), way);
        }
        for (int number = 0; number < 4; number++) {
            int way = number;
            answers(FURNISHED, work -> work.value(way, 2, 0) + 2 * work.value(way, 2, 1), way);
        }

        named("Section 8", "The number of an order is the number of the sign p, and 16 times that of q, 256 times that of r "
            + "and 4096 times that of s (0 for a sign that there is not).");
        int[] times = {1, 16, 256, 4096};
        for (int sign = 0; sign < 4; sign++) {
            int register = sign;
            answers(FOUR_FREE_SIGNS, work -> work.value(2 * times[register], register, 1), 1);
            answers(FOUR_FREE_SIGNS, work -> work.value(65535 - 2 * times[register], register, 1), 0);
            answers(FOUR_FREE_SIGNS, work -> work.value(65535 - 15 * times[register], register, 3), 0);
            answers(FOUR_FREE_SIGNS, work -> work.value(15 * times[register], register, 0), 1);
        }
        ordersAre(oneSign(0, 0, 0), 0, 1);
        ordersAre(then(oneSign(0, 0, 0), oneSign(0, 0, 0)), 0, 1, 16, 17);
        ordersAre(then(oneSign(1, RISES, 0), oneSign(0, 0, 0)), 0, 2, 3, 16, 18, 19);
    }

    private static void toldOnes() {
        named("Section 3", "Told laws and equivalences are what an order must obey, if it is said to obey the laws; "
            + "the condition of a law limits the values to those with which it holds.");
        Calls unary = work -> {
            work.sign(1, MIXED, 0);
            Due.read(work, 2, "p(a)");
            Due.read(work, 3, "p(b)");
        };
        Calls rises = then(unary, work -> {
            work.variable(0, 0);
            work.variable(1, 1);
            work.law(1, 2, LESS, 3);
        });
        ordersAre(rises, 0, 3);
        ordersAre(then(rises, work -> work.condition(1, 0, 1)), 0, 2, 3);
        ordersAre(then(rises, work -> work.condition(1, 1, 0)), 0, 1, 3);
        ordersAre(then(rises, work -> work.condition(1, 2, 3)), 0, 1, 2, 3);
        ordersAre(then(rises, work -> {
            work.begin(0, 2);
            work.lemma(2, 0);
        }), 0, 3);
        ordersAre(then(unary, work -> {
            work.variable(0, 0);
            work.variable(1, 1);
            work.equivalence(1, 2, 3, 0, 1);
        }), 2);
        ordersAre(then(unary, work -> {
            work.variable(0, 0);
            work.variable(1, 1);
            work.equivalence(1, 2, 3, 1, 0);
        }), 1);
        ordersAre(then(rises, work -> work.assume(2, 0)), 0, 3);
        // a sign that stands in one term of the condition alone: p(a)=a where a < q, or where q < a
        Calls other = then(unary, work -> {
            work.sign(0, 0, 0);
            work.variable(0, 0);
            work.variable(1, 1);
            work.term(4, 1, 0, 0);
            work.law(1, 2, EQUAL, 0);
        });
        ordersAre(other, 2, 18);
        ordersAre(then(other, work -> work.condition(1, 0, 4)), 0, 2, 18);
        ordersAre(then(other, work -> work.condition(1, 4, 0)), 2, 18, 19);
        for (int number = 0; number < 4; number++) {
            int sign = number;
            Calls variables = then(FOUR_FREE_SIGNS, work -> work.variable(9, 0));
            answers(then(variables, work -> work.law(0, sign, EQUAL, 9)), Chainwork::orders, 4096);
            answers(then(variables, work -> work.law(99, 9, EQUAL, sign)), Chainwork::orders, 4096);
            answers(then(variables, work -> work.law(0, sign, LESS, 9)), Chainwork::orders, 16384);
            answers(then(variables, work -> work.equivalence(0, sign, 9, 9, 9)), Chainwork::orders, 16384);
            answers(then(variables, work -> work.equivalence(0, 9, 9, 9, sign)), Chainwork::orders, 16384);
            answers(FOUR_FREE_SIGNS, work -> work.law(0, sign, EQUAL, 3 - sign) * 0 + work.orders(), 4096);
            answers(FOUR_FREE_SIGNS, work -> work.law(0, sign, EQUAL, (sign + 1) % 4) * 0 + work.orders(), 4096);
        }
    }
}
