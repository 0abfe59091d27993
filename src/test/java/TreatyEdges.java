/** Edges of treaties, and of the promises 12 to 16. */
final class TreatyEdges {
    private static final String UNPAID = "By a TRIBUTE the one who offered it pays so many coins at the end of each turn; "
        + "if there are not so many, what there is, and the treaty ends, as UNPAID.";
    private static final String ENDS = "One stands for some turns: it loses one at the end of each turn, and ends "
        + "behind the last one.";
    private static final String BREACH = "Who cancels a treaty breaks it: that is a breach, and so is a TRIBUTE that is "
        + "UNPAID, by who pays.";
    private static final String IN_PLACE = "An offer is from a player to another one, in place of an earlier one from the "
        + "same to the same; it has a kind, PEACE, PASSAGE, TRIBUTE or CRAFT.";
    private static final String OUT_OF_RANGE = "Throws IllegalArgumentException if an argument is out of range";

    private TreatyEdges() {
    }

    private static void tells(EmpireTurns game, int treaty, int... told) {
        for (int what = 0; what < told.length; what++) {
            Check.same("treaty " + treaty + " tells " + what, game.treaty(treaty, what), told[what]);
        }
    }

    /** The city of the player 0 brings 1 coin each turn. */
    private static EmpireTurns payer(int turns) {
        EmpireTurns game = new EmpireTurns();
        Games.city(game, 0, 27);
        game.setParts(0, 0);
        Games.endTurns(game, turns);
        return game;
    }

    // ---- Treaties

    @Sentence(promise = 12, under = "Treaties", says = IN_PLACE)
    static void aLaterOfferComesInPlaceOfTheEarlierOne() {
        EmpireTurns game = new EmpireTurns();
        game.offer(0, 1, EmpireTurns.PEACE, 3, 0);
        game.offer(0, 1, EmpireTurns.TRIBUTE, 7, 50);
        Check.same("one treaty", game.agree(0, 1), 0);
        tells(game, 0, EmpireTurns.TRIBUTE, 0, 1, 7);
        Check.nothingThere("and no more", game, () -> game.agree(0, 1));
        Check.holds("at war", game.atWar(0, 1));
    }

    @Sentence(promise = 12, under = "Treaties", says = IN_PLACE)
    static void offersOfOthersStay() {
        EmpireTurns game = new EmpireTurns();
        for (int from = 0; from < 4; from++) {
            for (int to = 0; to < 4; to++) {
                if (from != to) {
                    game.offer(from, to, EmpireTurns.TRIBUTE, 1 + from, 1 + to);
                }
            }
        }
        int number = 0;
        for (int from = 3; from >= 0; from--) {
            for (int to = 0; to < 4; to++) {
                if (from != to) {
                    Check.same("number", game.agree(from, to), number);
                    tells(game, number, EmpireTurns.TRIBUTE, from, to, 1 + from);
                    number++;
                }
            }
        }
    }

    @Sentence(promise = 13, under = "Treaties", says = "Treaties are numbered from 0 as they are agreed; at most 40 are.")
    static void fortyTreaties() {
        EmpireTurns game = new EmpireTurns();
        game.offer(2, 3, EmpireTurns.PEACE, 20, 0);
        for (int i = 0; i < 40; i++) {
            game.offer(0, 1, EmpireTurns.TRIBUTE, 1, 1);
            Check.same("number", game.agree(0, 1), i);
        }
        Check.badState("one more", game, () -> game.agree(2, 3));
        game.endTurn();
        Check.same("none stands", game.treaty(39, 4), EmpireTurns.UNPAID);
        Check.badState("40 were agreed", game, () -> game.agree(2, 3));
        Check.nothingThere("no number 40", game, () -> game.treaty(40, 0));
    }

    @Sentence(promise = 21, under = "Treaties", says = ENDS)
    static void treatiesLoseATurnEach() {
        EmpireTurns game = new EmpireTurns();
        Games.agree(game, 0, 1, EmpireTurns.PEACE, 20, 0);
        for (int left = 20; left > 0; left--) {
            tells(game, 0, EmpireTurns.PEACE, 0, 1, left, EmpireTurns.STANDS, EmpireTurns.NONE);
            Check.holds("peace", !game.atWar(1, 0));
            game.endTurn();
        }
        tells(game, 0, EmpireTurns.PEACE, 0, 1, 0, EmpireTurns.RUN_OUT, EmpireTurns.NONE);
        Check.holds("war", game.atWar(1, 0));
        game.endTurn();
        tells(game, 0, EmpireTurns.PEACE, 0, 1, 0, EmpireTurns.RUN_OUT, EmpireTurns.NONE);
    }

    @Sentence(promise = 21, under = "Treaties", says = ENDS)
    static void oneTurnIsTheLastOne() {
        EmpireTurns game = payer(5);
        Games.agree(game, 0, 1, EmpireTurns.PEACE, 1, 0);
        Games.agree(game, 0, 1, EmpireTurns.PASSAGE, 1, 0);
        Games.agree(game, 0, 1, EmpireTurns.TRIBUTE, 1, 2);
        game.endTurn();
        for (int treaty = 0; treaty < 3; treaty++) {
            Check.same("turns left", game.treaty(treaty, 3), 0);
            Check.same("why", game.treaty(treaty, 4), EmpireTurns.RUN_OUT);
        }
        Check.same("the TRIBUTE was paid once", game.ledger(0, 5), 2);
        game.endTurn();
        Check.same("and not again", game.ledger(0, 5), 2);
    }

    @Sentence(promise = 13, under = "Treaties", says = "By CRAFT a craft is given at once, and there is no treaty.")
    static void craftsAreGivenAtOnce() {
        EmpireTurns game = payer(0);
        Games.learnBy(game, 0, 0, 20);
        game.offer(0, 3, EmpireTurns.CRAFT, 20, 0);
        Check.same("not by the offer", game.player(3, 3), 0);
        Check.same("no number", game.agree(0, 3), EmpireTurns.NONE);
        Check.same("given", game.player(3, 3), 1);
        Check.same("and kept", game.player(0, 3), 1);
        Check.nothingThere("no treaty", game, () -> game.treaty(0, 0));
        Check.holds("at war still", game.atWar(0, 3));
    }

    @Sentence(promise = 16, under = "Treaties", says = "Two players are at war, unless a PEACE stands between them.")
    static void warUnlessThereIsAPeace() {
        EmpireTurns game = payer(9);
        Check.holds("at first", game.atWar(0, 1));
        Games.agree(game, 0, 1, EmpireTurns.TRIBUTE, 5, 1);
        Check.holds("a TRIBUTE is no PEACE", game.atWar(0, 1));
        game.offer(0, 1, EmpireTurns.PEACE, 5, 0);
        Check.holds("an offer is no PEACE", game.atWar(0, 1));
        game.agree(0, 1);
        Check.holds("peace", !game.atWar(0, 1));
        Check.holds("peace from the other side", !game.atWar(1, 0));
        Check.holds("not with others", game.atWar(0, 2) && game.atWar(2, 1));
        game.cancel(1, 1);
        Check.holds("it does not stand", game.atWar(0, 1));
    }

    @Sentence(promise = 17, under = "Treaties", says = "A PASSAGE lets both enter the borders of the other one in peace.")
    static void aPassageLetsBothEnter() {
        for (int from = 0; from <= 1; from++) {
            EmpireTurns game = new EmpireTurns();
            Games.city(game, 0, 25);
            Games.city(game, 1, 30);
            int mine = game.place(0, EmpireTurns.WORKER, 27);
            int other = game.place(1, EmpireTurns.WORKER, 20);
            game.endTurn();
            Check.same("a border of 1", game.tile(28, 2), 1);
            Check.same("a border of 0", game.tile(19, 2), 0);
            Games.agree(game, 0, 1, EmpireTurns.PEACE, 9, 0);
            Check.badState("without a PASSAGE", game, () -> game.step(mine, 1, 0));
            Check.badState("without a PASSAGE", game, () -> game.step(other, -1, 0));
            Games.agree(game, from, 1 - from, EmpireTurns.PASSAGE, 9, 0);
            Check.holds("the one", game.step(mine, 1, 0));
            Check.holds("the other one", game.step(other, -1, 0));
        }
    }

    @Sentence(promise = 21, under = "Treaties", says = UNPAID)
    static void justEnoughIsPaid() {
        EmpireTurns game = payer(4);
        Games.agree(game, 0, 1, EmpireTurns.TRIBUTE, 9, 5);
        game.endTurn();
        Check.same("coins of who pays", game.player(0, 0), 0);
        Check.same("coins of who gets them", game.player(1, 0), 5);
        tells(game, 0, EmpireTurns.TRIBUTE, 0, 1, 8, EmpireTurns.STANDS, EmpireTurns.NONE);
        Check.same("no breach", game.player(0, 4), 0);
    }

    @Sentence(promise = 21, under = "Treaties", says = UNPAID)
    static void oneTooFewIsUnpaid() {
        EmpireTurns game = payer(4);
        Games.agree(game, 0, 1, EmpireTurns.TRIBUTE, 9, 6);
        game.endTurn();
        Check.same("coins of who pays", game.player(0, 0), 0);
        Check.same("coins of who gets them", game.player(1, 0), 5);
        Check.same("why it ends", game.treaty(0, 4), EmpireTurns.UNPAID);
        game.endTurn();
        Check.same("no more is paid", game.player(1, 0), 5);
    }

    @Sentence(promise = 21, under = "Treaties", says = UNPAID)
    static void nothingIsUnpaidToo() {
        EmpireTurns game = new EmpireTurns();
        Games.agree(game, 3, 2, EmpireTurns.TRIBUTE, 20, 1);
        game.endTurn();
        Check.same("why it ends", game.treaty(0, 4), EmpireTurns.UNPAID);
        Check.same("coins", game.player(2, 0) + game.player(3, 0), 0);
    }

    @Sentence(promise = 14, under = "Treaties", says = BREACH)
    static void whoCancelsBreaks() {
        for (int breaker = 0; breaker <= 1; breaker++) {
            EmpireTurns game = new EmpireTurns();
            Games.agree(game, 0, 1, EmpireTurns.PEACE, 9, 0);
            game.cancel(breaker, 0);
            tells(game, 0, EmpireTurns.PEACE, 0, 1, 9, EmpireTurns.BROKEN, breaker);
            Check.same("a breach", game.player(breaker, 4), 1);
            Check.same("none of the other one", game.player(1 - breaker, 4), 0);
        }
    }

    @Sentence(promise = 21, under = "Treaties", says = BREACH)
    static void whoDoesNotPayBreaks() {
        EmpireTurns game = payer(2);
        Games.agree(game, 0, 1, EmpireTurns.TRIBUTE, 9, 50);
        game.endTurn();
        tells(game, 0, EmpireTurns.TRIBUTE, 0, 1, 9, EmpireTurns.UNPAID, 0);
        Check.same("a breach", game.player(0, 4), 1);
        Check.same("none of who gets it", game.player(1, 4), 0);
        Check.badState("it cannot be broken once more", game, () -> game.cancel(1, 0));
    }

    // ---- Promise 12: offer

    @Sentence(promise = 12, says = "Makes an offer.")
    static void anOfferIsNoTreatyYet() {
        EmpireTurns game = new EmpireTurns();
        game.offer(0, 1, EmpireTurns.PEACE, 9, 0);
        Check.nothingThere("no treaty", game, () -> game.treaty(0, 0));
        Games.endTurns(game, 30);
        Check.same("it waits", game.agree(0, 1), 0);
        Check.same("with all its turns", game.treaty(0, 3), 9);
    }

    @Sentence(promise = 12, says = "from: 0 to 3")
    static void offerFrom() {
        EmpireTurns game = new EmpireTurns();
        Check.range(game, 0, 3, v -> game.offer(v, v == 2 ? 1 : 2, EmpireTurns.PEACE, 1, 0));
    }

    @Sentence(promise = 12, says = "to: 0 to 3, another one")
    static void offerToAnotherOne() {
        EmpireTurns game = new EmpireTurns();
        Check.range(game, 0, 3, v -> game.offer(1, v, EmpireTurns.PEACE, 1, 0));
        for (int player = 0; player < 4; player++) {
            int same = player;
            Check.badArgument("to itself", game, () -> game.offer(same, same, EmpireTurns.PEACE, 1, 0));
        }
    }

    @Sentence(promise = 12, says = "kind: PEACE to CRAFT")
    static void offerKinds() {
        EmpireTurns game = new EmpireTurns();
        Check.range(game, EmpireTurns.PEACE, EmpireTurns.CRAFT, v -> game.offer(0, 1, v, 1, 0));
        Check.taken("PASSAGE", () -> game.offer(0, 1, EmpireTurns.PASSAGE, 1, 0));
        Check.taken("TRIBUTE", () -> game.offer(0, 1, EmpireTurns.TRIBUTE, 1, 1));
        Check.badArgument("4, with 1", game, () -> game.offer(0, 1, 4, 1, 1));
    }

    @Sentence(promise = 12,
        says = "turns: 1 to 20: for how many turns; for CRAFT, too, though it does not matter there")
    static void offerTurns() {
        EmpireTurns game = new EmpireTurns();
        for (int kind = EmpireTurns.PEACE; kind <= EmpireTurns.CRAFT; kind++) {
            int offered = kind;
            Check.range(game, 1, 20, v -> game.offer(0, 1, offered, v, offered == EmpireTurns.TRIBUTE ? 1 : 0));
        }
    }

    @Sentence(promise = 12, says = "what: 1 to 50 coins for TRIBUTE, 0 to 9 for CRAFT; 0 for others")
    static void offerWhat() {
        EmpireTurns game = new EmpireTurns();
        Check.range(game, 1, 50, v -> game.offer(0, 1, EmpireTurns.TRIBUTE, 1, v));
        Check.range(game, 0, 9, v -> game.offer(0, 1, EmpireTurns.CRAFT, 1, v));
        Check.range(game, 0, 0, v -> game.offer(0, 1, EmpireTurns.PEACE, 1, v));
        Check.range(game, 0, 0, v -> game.offer(0, 1, EmpireTurns.PASSAGE, 1, v));
    }

    @Sentence(promise = 12, says = OUT_OF_RANGE)
    static void offerOutOfRange() {
        EmpireTurns game = new EmpireTurns();
        game.offer(0, 1, EmpireTurns.TRIBUTE, 3, 4);
        Check.badArgument("all", game, () -> game.offer(4, -1, 9, 99, -9));
        Check.badArgument("what alone", game, () -> game.offer(0, 1, EmpireTurns.TRIBUTE, 3, 51));
        Check.badArgument("turns alone", game, () -> game.offer(0, 1, EmpireTurns.TRIBUTE, 21, 5));
        game.agree(0, 1);
        tells(game, 0, EmpireTurns.TRIBUTE, 0, 1, 3);
    }

    // ---- Promise 13: agree

    @Sentence(promise = 13, says = "Agrees to the offer from a player to another one, which is gone then.")
    static void agreedOffersAreGone() {
        EmpireTurns game = new EmpireTurns();
        game.offer(0, 1, EmpireTurns.TRIBUTE, 1, 1);
        game.offer(1, 0, EmpireTurns.TRIBUTE, 2, 2);
        game.agree(0, 1);
        Check.nothingThere("gone", game, () -> game.agree(0, 1));
        Check.same("but not the one of the other", game.agree(1, 0), 1);
        tells(game, 1, EmpireTurns.TRIBUTE, 1, 0, 2);
    }

    @Sentence(promise = 13, says = "Agrees to the offer from a player to another one, which is gone then.")
    static void agreedOffersOfCraftsAreGone() {
        EmpireTurns game = payer(0);
        Games.learnBy(game, 0, 0, 20);
        Games.agree(game, 0, 1, EmpireTurns.CRAFT, 1, 0);
        Check.nothingThere("gone", game, () -> game.agree(0, 1));
    }

    @Sentence(promise = 13, says = "Agrees to the offer from a player to another one, which is gone then.")
    static void refusedOffersAreNotGone() {
        EmpireTurns game = new EmpireTurns();
        game.offer(0, 1, EmpireTurns.PASSAGE, 4, 0);
        Check.badState("without a PEACE", game, () -> game.agree(0, 1));
        Games.agree(game, 1, 0, EmpireTurns.PEACE, 4, 0);
        Check.same("with a PEACE", game.agree(0, 1), 1);
    }

    @Sentence(promise = 13, says = "from: 0 to 3")
    static void agreeFrom() {
        EmpireTurns game = new EmpireTurns();
        game.offer(0, 1, EmpireTurns.PEACE, 1, 0);
        game.offer(3, 1, EmpireTurns.PEACE, 1, 0);
        Check.range(game, 0, 3, v -> game.agree(v, 1));
    }

    @Sentence(promise = 13, says = "to: 0 to 3")
    static void agreeTo() {
        EmpireTurns game = new EmpireTurns();
        game.offer(1, 0, EmpireTurns.PEACE, 1, 0);
        game.offer(1, 3, EmpireTurns.PEACE, 1, 0);
        Check.range(game, 0, 3, v -> game.agree(1, v));
    }

    @Sentence(promise = 13, says = "Returns the number of the treaty; NONE for CRAFT.")
    static void agreeReturnsTheNumber() {
        EmpireTurns game = payer(0);
        Games.learnBy(game, 0, 0, 20);
        game.offer(0, 1, EmpireTurns.PEACE, 1, 0);
        Check.same("the first", game.agree(0, 1), 0);
        game.offer(0, 1, EmpireTurns.CRAFT, 1, 0);
        Check.same("CRAFT", game.agree(0, 1), EmpireTurns.NONE);
        game.offer(0, 1, EmpireTurns.PASSAGE, 1, 0);
        Check.same("the second", game.agree(0, 1), 1);
    }

    @Sentence(promise = 13, says = "Throws IllegalArgumentException if from or to is out of range")
    static void agreeOutOfRange() {
        EmpireTurns game = new EmpireTurns();
        Check.onlyFrom(game, 0, 3, v -> game.agree(v, 0));
        Check.onlyFrom(game, 0, 3, v -> game.agree(0, v));
        Check.onlyFrom(game, 0, 3, v -> game.agree(v, v));
    }

    @Sentence(promise = 13, says = "Throws IndexOutOfBoundsException if there is no such offer")
    static void agreeWithoutOffer() {
        EmpireTurns game = new EmpireTurns();
        game.offer(2, 3, EmpireTurns.PEACE, 1, 0);
        for (int from = 0; from < 4; from++) {
            for (int to = 0; to < 4; to++) {
                int one = from;
                int other = to;
                if (one != 2 || other != 3) {
                    Check.nothingThere(one + " to " + other, game, () -> game.agree(one, other));
                }
            }
        }
    }

    @Sentence(promise = 13, says = "Throws IllegalStateException if 40 treaties were agreed (but for CRAFT),")
    static void agreeAFortyFirst() {
        EmpireTurns game = payer(0);
        Games.learnBy(game, 0, 0, 20);
        for (int i = 0; i < 40; i++) {
            game.offer(0, 1, EmpireTurns.TRIBUTE, 9, 1);
            Check.same("number", game.agree(0, 1), i);
        }
        int[][] more = {{EmpireTurns.TRIBUTE, 1}, {EmpireTurns.PEACE, 0}};
        for (int[] offered : more) {
            game.offer(0, 1, offered[0], 9, offered[1]);
            Check.badState("kind " + offered[0], game, () -> game.agree(0, 1));
        }
        game.offer(0, 1, EmpireTurns.CRAFT, 9, 0);
        Check.same("but for CRAFT", game.agree(0, 1), EmpireTurns.NONE);
        Check.same("given", game.player(1, 3), 1);
    }

    @Sentence(promise = 13, says = "a PEACE or PASSAGE of this kind stands between both,")
    static void agreeToASecondPeace() {
        EmpireTurns game = new EmpireTurns();
        Games.agree(game, 0, 1, EmpireTurns.PEACE, 9, 0);
        game.offer(0, 1, EmpireTurns.PEACE, 9, 0);
        game.offer(1, 0, EmpireTurns.PEACE, 9, 0);
        Check.badState("from the same", game, () -> game.agree(0, 1));
        Check.badState("from the other one", game, () -> game.agree(1, 0));
        game.cancel(0, 0);
        Check.same("when it does not stand", game.agree(1, 0), 1);
        Check.badState("now that one stands", game, () -> game.agree(0, 1));
    }

    @Sentence(promise = 13, says = "a PEACE or PASSAGE of this kind stands between both,")
    static void agreeToASecondPassage() {
        EmpireTurns game = new EmpireTurns();
        Games.agree(game, 0, 1, EmpireTurns.PEACE, 9, 0);
        Games.agree(game, 0, 1, EmpireTurns.PASSAGE, 2, 0);
        game.offer(0, 1, EmpireTurns.PASSAGE, 9, 0);
        game.offer(1, 0, EmpireTurns.PASSAGE, 9, 0);
        Check.badState("from the same", game, () -> game.agree(0, 1));
        Check.badState("from the other one", game, () -> game.agree(1, 0));
        Games.endTurns(game, 2);
        Check.same("when it has run out", game.agree(0, 1), 2);
    }

    @Sentence(promise = 13, says = "a PEACE or PASSAGE of this kind stands between both,")
    static void agreeToASecondTribute() {
        EmpireTurns game = new EmpireTurns();
        for (int i = 0; i < 3; i++) {
            game.offer(0, 1, EmpireTurns.TRIBUTE, 9, 5);
            Check.same("tributes may stand beside one another", game.agree(0, 1), i);
        }
        Games.agree(game, 0, 2, EmpireTurns.PEACE, 9, 0);
        game.offer(0, 1, EmpireTurns.PEACE, 9, 0);
        Check.same("a PEACE with another one does not matter", game.agree(0, 1), 4);
    }

    @Sentence(promise = 13, says = "a PASSAGE comes without a PEACE,")
    static void agreeToAPassageWithoutPeace() {
        EmpireTurns game = new EmpireTurns();
        game.offer(0, 1, EmpireTurns.PASSAGE, 9, 0);
        Check.badState("at war", game, () -> game.agree(0, 1));
        Games.agree(game, 0, 2, EmpireTurns.PEACE, 9, 0);
        Games.agree(game, 1, 2, EmpireTurns.PEACE, 9, 0);
        Check.badState("a PEACE with another one", game, () -> game.agree(0, 1));
        Games.agree(game, 1, 0, EmpireTurns.PEACE, 1, 0);
        game.endTurn();
        Check.badState("a PEACE that has run out", game, () -> game.agree(0, 1));
        Games.agree(game, 1, 0, EmpireTurns.PEACE, 1, 0);
        Check.same("a PEACE that stands", game.agree(0, 1), 4);
    }

    @Sentence(promise = 13, says = "or the craft is not known by the one,")
    static void agreeToACraftThatIsNotKnown() {
        EmpireTurns game = payer(0);
        game.offer(0, 1, EmpireTurns.CRAFT, 9, 0);
        Check.badState("not known", game, () -> game.agree(0, 1));
        game.learn(0, 0);
        Check.badState("a goal is not known", game, () -> game.agree(0, 1));
        Games.learnBy(game, 0, 1, 20);
        Check.badState("another one is known", game, () -> game.agree(0, 1));
        Games.learnBy(game, 0, 0, 20);
        Check.same("known", game.agree(0, 1), EmpireTurns.NONE);
    }

    @Sentence(promise = 13, says = "or known already or cannot be learned by the other one")
    static void agreeToACraftThatIsKnownAlready() {
        EmpireTurns game = payer(0);
        Games.learnBy(game, 0, 0, 20);
        Games.agree(game, 0, 1, EmpireTurns.CRAFT, 9, 0);
        game.offer(0, 1, EmpireTurns.CRAFT, 9, 0);
        Check.badState("known already", game, () -> game.agree(0, 1));
        game.offer(1, 0, EmpireTurns.CRAFT, 9, 0);
        Check.badState("known by the one it comes from", game, () -> game.agree(1, 0));
    }

    @Sentence(promise = 13, says = "or known already or cannot be learned by the other one")
    static void agreeToACraftThatCannotBeLearned() {
        EmpireTurns game = payer(0);
        game.need(1, 0);
        Games.learnBy(game, 0, 0, 20);
        Games.learnBy(game, 0, 1, 20);
        game.offer(0, 1, EmpireTurns.CRAFT, 9, 1);
        Check.badState("without what it needs", game, () -> game.agree(0, 1));
        Check.same("nothing is given", game.player(1, 3), 0);
    }

    // ---- Promise 14: cancel

    @Sentence(promise = 14, says = "Cancels a treaty.")
    static void cancelEndsATreaty() {
        EmpireTurns game = payer(9);
        Games.agree(game, 0, 1, EmpireTurns.TRIBUTE, 9, 1);
        game.cancel(0, 0);
        game.endTurn();
        Check.same("nothing is paid", game.ledger(0, 5), 0);
        Check.same("turns left", game.treaty(0, 3), 9);
        Check.same("why", game.treaty(0, 4), EmpireTurns.BROKEN);
    }

    @Sentence(promise = 14, says = "player: 0 to 3")
    static void cancelPlayers() {
        EmpireTurns game = new EmpireTurns();
        Games.agree(game, 0, 3, EmpireTurns.PEACE, 9, 0);
        Games.agree(game, 0, 3, EmpireTurns.TRIBUTE, 9, 1);
        Check.range(game, 0, 3, v -> game.cancel(v, v == 0 ? 0 : 1));
    }

    @Sentence(promise = 14, says = "Returns how many breaches the player has then.")
    static void cancelReturnsTheBreaches() {
        EmpireTurns game = new EmpireTurns();
        for (int i = 1; i <= 5; i++) {
            Games.agree(game, 0, 1, EmpireTurns.PEACE, 9, 0);
            Check.same("breaches", game.cancel(0, i - 1), i);
        }
        Games.agree(game, 0, 1, EmpireTurns.PEACE, 9, 0);
        Check.same("those of the other one", game.cancel(1, 5), 1);
    }

    @Sentence(promise = 14, says = "Throws IllegalArgumentException if player is out of range")
    static void cancelOutOfRange() {
        EmpireTurns game = new EmpireTurns();
        Games.agree(game, 0, 1, EmpireTurns.PEACE, 9, 0);
        Check.onlyFrom(game, 0, 3, v -> game.cancel(v, 0));
    }

    @Sentence(promise = 14, says = "Throws IndexOutOfBoundsException if there is no such treaty")
    static void cancelWithoutTreaty() {
        EmpireTurns game = new EmpireTurns();
        Check.noneFrom(game, 0, v -> game.cancel(0, v));
        Games.agree(game, 0, 1, EmpireTurns.PEACE, 9, 0);
        game.offer(0, 1, EmpireTurns.TRIBUTE, 9, 1);
        Check.noneFrom(game, 1, v -> game.cancel(0, v));
    }

    @Sentence(promise = 14, says = "Throws IllegalStateException if it does not stand,")
    static void cancelWhatDoesNotStand() {
        EmpireTurns game = new EmpireTurns();
        Games.agree(game, 0, 1, EmpireTurns.PEACE, 1, 0);
        Games.agree(game, 0, 1, EmpireTurns.TRIBUTE, 9, 1);
        Games.agree(game, 0, 2, EmpireTurns.PEACE, 9, 0);
        game.cancel(2, 2);
        Check.badState("BROKEN by the other one", game, () -> game.cancel(0, 2));
        Check.badState("BROKEN by itself", game, () -> game.cancel(2, 2));
        game.endTurn();
        Check.badState("RUN_OUT", game, () -> game.cancel(0, 0));
        Check.badState("UNPAID", game, () -> game.cancel(1, 1));
    }

    @Sentence(promise = 14, says = "or is not of the player")
    static void cancelWhatIsOfOthers() {
        EmpireTurns game = new EmpireTurns();
        Games.agree(game, 1, 2, EmpireTurns.PEACE, 9, 0);
        Check.badState("0", game, () -> game.cancel(0, 0));
        Check.badState("3", game, () -> game.cancel(3, 0));
        Check.same("it is of 2, too", game.cancel(2, 0), 1);
    }

    // ---- Promise 15: treaty

    @Sentence(promise = 15, says = "Tells of a treaty.")
    static void treatyTellsSixThings() {
        EmpireTurns game = new EmpireTurns();
        Games.agree(game, 0, 1, EmpireTurns.PEACE, 9, 0);
        Check.range(game, 0, 5, v -> game.treaty(0, v));
    }

    @Sentence(promise = 15, says = "what: 0 its kind, 1 who offered it, 2 the other one, 3 the turns that are left, "
        + "4 why it does not stand, 5 the player who broke it, NONE if none did")
    static void treatyTellsWhatItIs() {
        EmpireTurns game = payer(0);
        Games.agree(game, 3, 0, EmpireTurns.PEACE, 4, 0);
        Games.agree(game, 0, 3, EmpireTurns.PASSAGE, 2, 0);
        Games.agree(game, 0, 2, EmpireTurns.TRIBUTE, 20, 2);
        tells(game, 0, EmpireTurns.PEACE, 3, 0, 4, EmpireTurns.STANDS, EmpireTurns.NONE);
        Games.endTurns(game, 2);
        game.cancel(0, 0);
        tells(game, 0, EmpireTurns.PEACE, 3, 0, 2, EmpireTurns.BROKEN, 0);
        tells(game, 1, EmpireTurns.PASSAGE, 0, 3, 0, EmpireTurns.RUN_OUT, EmpireTurns.NONE);
        tells(game, 2, EmpireTurns.TRIBUTE, 0, 2, 20, EmpireTurns.UNPAID, 0);
    }

    @Sentence(promise = 15, says = "Throws IndexOutOfBoundsException if there is no such treaty")
    static void treatyWithoutTreaty() {
        EmpireTurns game = new EmpireTurns();
        game.offer(0, 1, EmpireTurns.PEACE, 9, 0);
        Check.noneFrom(game, 0, v -> game.treaty(v, 0));
        game.agree(0, 1);
        Check.noneFrom(game, 1, v -> game.treaty(v, 0));
    }

    @Sentence(promise = 15, says = "Throws IllegalArgumentException if what is out of range")
    static void treatyOutOfRange() {
        EmpireTurns game = new EmpireTurns();
        Games.agree(game, 0, 1, EmpireTurns.PEACE, 9, 0);
        Check.onlyFrom(game, 0, 5, v -> game.treaty(0, v));
    }

    // ---- Promise 16: atWar

    @Sentence(promise = 16, says = "Tells whether two players are at war.")
    static void atWarTells() {
        EmpireTurns game = new EmpireTurns();
        Games.agree(game, 3, 1, EmpireTurns.PEACE, 9, 0);
        for (int one = 0; one < 4; one++) {
            for (int other = 0; other < 4; other++) {
                boolean peace = one == other || one + other == 4 && one * other == 3;
                Check.holds(one + " and " + other, game.atWar(one, other) != peace);
            }
        }
    }

    @Sentence(promise = 16, says = "one: 0 to 3")
    static void atWarOne() {
        EmpireTurns game = new EmpireTurns();
        Check.range(game, 0, 3, v -> game.atWar(v, 1));
    }

    @Sentence(promise = 16, says = "other: 0 to 3")
    static void atWarOther() {
        EmpireTurns game = new EmpireTurns();
        Check.range(game, 0, 3, v -> game.atWar(1, v));
    }

    @Sentence(promise = 16, says = "Returns whether they are; false for a player and itself.")
    static void atWarWithItself() {
        EmpireTurns game = new EmpireTurns();
        for (int player = 0; player < 4; player++) {
            Check.holds("itself", !game.atWar(player, player));
            Check.holds("the next one", game.atWar(player, (player + 1) % 4));
        }
    }

    @Sentence(promise = 16, says = "Throws IllegalArgumentException if a player is out of range")
    static void atWarOutOfRange() {
        EmpireTurns game = new EmpireTurns();
        Check.badArgument("both alike", game, () -> game.atWar(4, 4));
        Check.badArgument("both alike", game, () -> game.atWar(-1, -1));
        Check.badArgument("the second", game, () -> game.atWar(0, 4));
    }
}
