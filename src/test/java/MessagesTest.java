/** The document's Terms: what a message of each kind does where it comes, and what comes back. */
public final class MessagesTest {
    private final Checks checks;

    private MessagesTest(Checks checks) {
        this.checks = checks;
    }

    private void questions() {
        QuorumLog x = new QuorumLog(7);
        x.timer(0);
        checks.pass(x, 0, 0, 1);
        checks.lastMessage("yes, with that term", x, 1, 1, 0, 1, 0, 1, 0);
        checks.states("asked, it keeps all", x, 1, 0, 0, -1, 0, 0, 0, 7, 0, 1);
        checks.pass(x, 1, 1, 0);
        checks.pass(x, 2, 0, 2);
        checks.states("2 has come to term 1", x, 2, 0, 1, 0);
        checks.pass(x, 0, 0, 2);
        checks.lastMessage("its own term: no", x, 1, 2, 0, 1, 0, 0, 0);

        QuorumLog y = Checks.led(7, 0);
        y.timer(2);
        checks.pass(y, 0, 2, 1);
        checks.lastMessage("1 has heard: no, with its own term", y, 1, 1, 2, 1, 0, 0, 0);
        checks.pass(y, 0, 2, 0);
        checks.lastMessage("the leader has not heard: yes", y, 1, 0, 2, 2, 0, 1, 0);
        checks.states("and leads on", y, 0, 3, 1, 0);
        checks.pass(y, 1, 1, 2);
        checks.states("a no of its term does nothing", y, 2, 1, 1, 0);
        checks.pass(y, 1, 0, 2);
        checks.states("two of three", y, 2, 2, 2, 2);
        checks.messages("calls", y, 0, 2, 2, 0, 2, 1, 0, 0);
        checks.messages("calls", y, 1, 2, 2, 1, 2, 1, 0, 0);
    }

    private void questionsOfOldLogs() {
        QuorumLog x = Checks.led(7, 0);
        x.put(0, 0, 1);
        checks.pass(x, 4, 0, 1);
        Checks.loseAll(x);
        x.crash(1);
        x.restart(1);
        x.timer(2);
        checks.pass(x, 0, 2, 1);
        checks.lastMessage("a shorter log: no", x, 1, 1, 2, 1, 0, 0, 0);
        Checks.loseAll(x);
        x.timer(1);
        checks.pass(x, 0, 1, 0);
        checks.lastMessage("an equal log: yes", x, 1, 0, 1, 2, 0, 1, 0);
        Checks.loseAll(x);
        x.crash(2);
        x.restart(2);
        x.timer(1);
        checks.pass(x, 0, 1, 2);
        checks.lastMessage("a longer log: yes", x, 1, 2, 1, 2, 0, 1, 0);

        QuorumLog y = withFourOfTermOne();
        y.crash(2);
        y.restart(2);
        y.timer(0);
        checks.messages("four entries of term 1", y, 1, 0, 0, 2, 3, 4, 0, 0);
        checks.pass(y, 0, 0, 2);
        checks.lastMessage("a longer log of an older term: no", y, 1, 2, 0, 2, 0, 0, 0);
        Checks.loseAll(y);
        y.timer(2);
        y.timer(2);
        checks.pass(y, 0, 2, 0);
        checks.lastMessage("a shorter log of a later term: yes", y, 1, 0, 2, 3, 0, 1, 0);
    }

    /** Server 0 has the entries 1 .. 4 of term 1; 1 leads in term 2, and its 2 of term 2 is on 2, not on 0. */
    private QuorumLog withFourOfTermOne() {
        QuorumLog x = Checks.led(7, 0);
        x.put(0, 0, 1);
        x.put(0, 0, 2);
        x.put(0, 0, 3);
        Checks.loseAll(x);
        x.crash(2);
        x.restart(2);
        x.timer(1);
        checks.pass(x, 0, 1, 2);
        checks.pass(x, 1, 2, 1);
        checks.pass(x, 2, 1, 0);
        checks.lastMessage("0 has more: no, in the new term", x, 3, 0, 1, 2, 0, 0, 0);
        checks.states("0 leads no more", x, 0, 0, 2, -1, 1, 0, 4);
        checks.pass(x, 2, 1, 2);
        checks.pass(x, 3, 0, 1);
        checks.same("a no does not count", x.state(1, 0), 2);
        checks.pass(x, 3, 2, 1);
        checks.states("1 leads", x, 1, 3, 2, 1, 0, 0, 2);
        checks.pass(x, 4, 1, 2);
        Checks.loseAll(x);
        return x;
    }

    private void answers() {
        QuorumLog x = new QuorumLog(31);
        x.timer(0);
        for (int other = 1; other < 5; other++) {
            checks.pass(x, 0, 0, other);
        }
        checks.pass(x, 1, 1, 0);
        checks.same("two of five", x.state(0, 0), 1);
        checks.pass(x, 1, 2, 0);
        checks.states("three of five", x, 0, 2, 1, 0);
        checks.pass(x, 1, 3, 0);
        checks.pass(x, 1, 4, 0);
        checks.states("an answer is no vote", x, 0, 2, 1, 0);
        checks.pass(x, 2, 0, 1);
        checks.pass(x, 2, 0, 2);
        checks.pass(x, 3, 1, 0);
        checks.same("two votes of five", x.state(0, 0), 2);
        checks.pass(x, 3, 2, 0);
        checks.same("three votes of five", x.state(0, 0), 3);

        QuorumLog y = new QuorumLog(7);
        y.timer(0);
        y.timer(1);
        checks.pass(y, 0, 1, 2);
        checks.pass(y, 1, 2, 1);
        checks.states("1 stands", y, 1, 2, 1, 1);
        checks.pass(y, 0, 0, 1);
        checks.lastMessage("no, with term 1", y, 1, 1, 0, 1, 0, 0, 0);
        checks.pass(y, 1, 1, 0);
        checks.states("0 comes to term 1", y, 0, 0, 1, -1, 0, 0, 0, 7, 0, 1);
        checks.pass(y, 0, 0, 2);
        checks.pass(y, 1, 2, 0);
        checks.states("a yes to a question of before", y, 0, 0, 1, -1);
    }

    private void noWithGreaterTermEndsLeader() {
        QuorumLog x = new QuorumLog(7);
        x.timer(0);
        checks.pass(x, 0, 0, 1);
        checks.pass(x, 1, 1, 0);
        checks.pass(x, 2, 0, 1);
        checks.pass(x, 3, 1, 0);
        int question = Checks.find(x, 0, 0, 2);
        checks.yes("the question to 2 waits still", question >= 0);
        checks.pass(x, 4, 0, 1);
        checks.pass(x, 5, 1, 0);
        int read = x.read(0, 0);
        x.crash(1);
        x.restart(1);
        x.timer(1);
        checks.pass(x, 2, 0, 2);
        checks.pass(x, 0, 1, 2);
        checks.lastMessage("2 has less: yes", x, 1, 2, 1, 2, 0, 1, 0);
        checks.pass(x, 1, 2, 1);
        checks.pass(x, 2, 1, 2);
        checks.states("2 is in term 2", x, 2, 0, 2, 1);
        checks.pass(x, 0, 0, 2);
        checks.lastMessage("no, with term 2", x, 1, 2, 0, 2, 0, 0, 0);
        checks.states("0 leads", x, 0, 3, 1, 0);
        checks.same("its read is kept", x.outcome(read), 0);
        checks.pass(x, 1, 2, 0);
        checks.states("and does not any more", x, 0, 0, 2, -1);
        checks.same("its read failed", x.outcome(read), 2);
    }

    private void calls() {
        QuorumLog x = new QuorumLog(31);
        x.timer(0);
        x.timer(1);
        for (int one = 0; one < 2; one++) {
            checks.pass(x, 0, one, 2);
            checks.pass(x, 0, one, 3);
            checks.pass(x, 1, 2, one);
            checks.pass(x, 1, 3, one);
            checks.states("stands", x, one, 2, 1, one);
        }
        checks.pass(x, 2, 0, 4);
        checks.lastMessage("yes", x, 3, 4, 0, 1, 0, 1, 0);
        checks.states("voted", x, 4, 0, 1, 0, 0, 0, 0, 31, 0, 1);
        checks.pass(x, 2, 1, 4);
        checks.lastMessage("no, one vote a term", x, 3, 4, 1, 1, 0, 0, 0);
        checks.same("the vote stays", x.state(4, 2), 0);
        checks.pass(x, 2, 1, 0);
        checks.lastMessage("no of a candidate", x, 3, 0, 1, 1, 0, 0, 0);
        checks.states("a candidate still", x, 0, 2, 1, 0);
        x.crash(4);
        x.restart(4);
        checks.states("the vote outlives a crash", x, 4, 0, 1, 0);

        QuorumLog y = new QuorumLog(7);
        y.timer(0);
        checks.pass(y, 0, 0, 1);
        checks.pass(y, 1, 1, 0);
        y.crash(1);
        y.restart(1);
        y.timer(1);
        checks.pass(y, 2, 0, 1);
        checks.states("a call ends asking", y, 1, 0, 1, 0);
        checks.lastMessage("yes", y, 3, 1, 0, 1, 0, 1, 0);

        QuorumLog z = Checks.led(7, 0);
        z.crash(2);
        z.restart(2);
        z.timer(1);
        checks.pass(z, 0, 1, 2);
        checks.pass(z, 1, 2, 1);
        Checks.loseTo(z, 0);
        z.timer(2);
        checks.pass(z, 0, 2, 0);
        checks.pass(z, 1, 0, 2);
        checks.states("2 stands in term 2 too", z, 2, 2, 2, 2);
        z.timer(2);
        checks.pass(z, 0, 2, 0);
        checks.pass(z, 1, 0, 2);
        checks.states("and in term 3", z, 2, 2, 3, 2);
        checks.pass(z, 2, 1, 2);
        checks.lastMessage("a call of an older term: no, with its own", z, 3, 2, 1, 3, 0, 0, 0);
        checks.pass(z, 3, 2, 1);
        checks.states("a vote's term moves a term", z, 1, 0, 3, -1);
        checks.pass(z, 2, 2, 0);
        checks.states("a leader is called to term 2", z, 0, 0, 2, 2);
        checks.pass(z, 3, 0, 2);
        checks.states("a vote of term 2 does not count in term 3", z, 2, 2, 3, 2);
    }

    private void appendsThatDoNotFit() {
        QuorumLog x = Checks.led(7, 0);
        x.put(0, 0, 1);
        checks.pass(x, 4, 0, 1);
        checks.pass(x, 5, 1, 0);
        x.put(0, 0, 2);
        checks.pass(x, 4, 0, 1);
        checks.pass(x, 5, 1, 0);
        Checks.loseAll(x);
        x.crash(0);
        for (int other = 1; other < 3; other++) {
            x.crash(other);
            x.restart(other);
        }
        checks.elect(x, 1, 2);
        x.put(1, 0, 3);
        checks.states("1 leads from 5 on", x, 1, 3, 2, 1, 0, 0, 5);
        checks.messages("before is 3", x, 1, 4, 1, 2, 2, 3, 2, 0);
        checks.pass(x, 4, 1, 2);
        checks.lastMessage("2 has but 1: no, with its last index", x, 5, 2, 1, 2, 1, 0, 0);
        checks.states("it has heard", x, 2, 0, 2, 1, 0, 0, 1, 7, 1, 1);
        checks.pass(x, 5, 2, 1);
        checks.lastMessage("from there on", x, 4, 1, 2, 2, 1, 2, 0);
        checks.pass(x, 4, 1, 2);
        checks.lastMessage("yes", x, 5, 2, 1, 2, 3, 1, 0);
        checks.pass(x, 5, 2, 1);
        checks.same("entries of term 1 do not count by themselves", x.state(1, 3), 0);
        checks.lastMessage("the rest", x, 4, 1, 2, 2, 3, 2, 0);
        checks.pass(x, 4, 1, 2);
        checks.pass(x, 5, 2, 1);
        checks.same("with one of term 2 behind them they do", x.state(1, 3), 5);
        x.restart(0);
        Checks.loseAll(x);
        x.beat(1);
        checks.pass(x, 4, 1, 0);
        checks.lastMessage("0 has the same up to 3: yes", x, 5, 0, 1, 2, 5, 1, 0);
        checks.states("and hears of COMMIT", x, 0, 0, 2, -1, 5, 0, 5, 7, 1, 1);
    }

    private void appendsWithAnotherTerm() {
        QuorumLog x = withFourOfTermOne();
        x.put(1, 2, 8);
        checks.pass(x, 4, 1, 2);
        checks.pass(x, 5, 2, 1);
        Checks.loseAll(x);
        x.compact(1);
        checks.states("1 leads, cut behind 3", x, 1, 3, 2, 1, 3, 3, 3);
        x.put(1, 2, 9);
        checks.pass(x, 4, 1, 2);
        checks.pass(x, 5, 2, 1);
        Checks.loseAll(x);
        x.beat(1);
        checks.messages("to 0", x, 0, 6, 1, 0, 2, 3, 0, 0);
        checks.pass(x, 6, 1, 0);
        checks.states("another term at 3, so all is gone", x, 0, 0, 2, -1, 3, 3, 3, 7, 1, 1);
        checks.same("the snapshot's value", x.stored(0, 2), 8);
        checks.lastMessage("yes, with the snapshot's index", x, 5, 0, 1, 2, 3, 1, 0);

        QuorumLog y = withFourOfTermOne();
        y.beat(1);
        checks.messages("to 0, before is 1", y, 0, 4, 1, 0, 2, 1, 1, 0);
        checks.pass(y, 4, 1, 0);
        checks.states("cut away from 2 on", y, 0, 0, 2, -1, 1, 0, 2, 7, 1, 1);
        checks.same("term 2 there", y.entry(0, 2, 0), 2);
        checks.same("gone", y.entry(0, 3, 0), -1);
        checks.lastMessage("yes", y, 5, 0, 1, 2, 2, 1, 0);

        QuorumLog z = withFourOfTermOne();
        z.put(1, 0, 5);
        checks.pass(z, 4, 1, 2);
        checks.pass(z, 5, 2, 1);
        Checks.loseAll(z);
        z.crash(1);
        z.crash(2);
        z.restart(2);
        z.timer(2);
        checks.pass(z, 0, 2, 0);
        checks.pass(z, 1, 0, 2);
        checks.pass(z, 2, 2, 0);
        checks.pass(z, 3, 0, 2);
        checks.states("2 leads in term 3", z, 2, 3, 3, 2, 0, 0, 4);
        checks.pass(z, 4, 2, 0);
        checks.lastMessage("0 has term 1 at 3: no, with 2", z, 5, 0, 2, 3, 2, 0, 0);
        checks.states("its log stays", z, 0, 0, 3, 2, 1, 0, 4, 7, 1, 1);
        checks.pass(z, 5, 0, 2);
        checks.lastMessage("from 3 on", z, 4, 2, 0, 3, 2, 2, 0);
        checks.pass(z, 4, 2, 0);
        checks.lastMessage("term 1 at 2, too: no, with 1", z, 5, 0, 2, 3, 1, 0, 0);
        checks.pass(z, 5, 0, 2);
        checks.pass(z, 4, 2, 0);
        checks.lastMessage("yes", z, 5, 0, 2, 3, 3, 1, 0);
        checks.same("the same at 2", z.entry(0, 2, 0), 2);
        checks.same("cut away", z.entry(0, 4, 0), -1);
    }

    private void appendsOfOldTerms() {
        QuorumLog x = Checks.led(7, 0);
        x.read(0, 0);
        Checks.loseTo(x, 1);
        x.crash(1);
        x.restart(1);
        x.timer(1);
        checks.yes("0 is asked", Checks.find(x, 0, 1, 0) >= 0);
        checks.pass(x, 0, 1, 0);
        checks.pass(x, 1, 0, 1);
        checks.pass(x, 2, 1, 2);
        checks.states("2 is in term 2, unheard of by 0", x, 2, 0, 2, 1);
        checks.pass(x, 4, 0, 2);
        checks.lastMessage("no, index 0, round 0, its own term", x, 5, 2, 0, 2, 0, 0, 0);
        checks.states("it does not hear it", x, 2, 0, 2, 1, 0, 0, 1);
        checks.pass(x, 5, 2, 0);
        checks.states("0 comes to term 2", x, 0, 0, 2, -1);
        checks.same("its read failed", x.outcome(0), 2);

        QuorumLog y = Checks.led(7, 0);
        y.compact(0);
        y.change(0, 3, true);
        int install = Checks.find(y, 6, 0, 3);
        checks.yes("an install waits", install >= 0);
        Checks.loseTo(y, 1);
        Checks.loseTo(y, 2);
        y.crash(0);
        y.crash(1);
        y.restart(1);
        y.crash(2);
        y.restart(2);
        elect1AndKeep(y);
        y.change(1, 3, true);
        int append = Checks.find(y, 4, 1, 3);
        y.deliver(append);
        checks.same("3 is in term 2", y.state(3, 1), 2);
        Checks.loseTo(y, 1);
        y.crash(3);
        y.restart(3);
        checks.pass(y, 6, 0, 3);
        checks.lastMessage("no, index 0, round 0, its own term", y, 5, 3, 0, 2, 0, 0, 0);
        checks.states("it does not hear it", y, 3, 0, 2, -1, 0, 0, 0, 7, 0, 1);
    }

    /** Server 1 leads with 2, an INSTALL from 0 to 3 goes on waiting. */
    private void elect1AndKeep(QuorumLog y) {
        y.timer(1);
        checks.pass(y, 0, 1, 2);
        checks.pass(y, 1, 2, 1);
        checks.pass(y, 2, 1, 2);
        checks.pass(y, 3, 2, 1);
        checks.pass(y, 4, 1, 2);
        checks.pass(y, 5, 2, 1);
        checks.states("1 leads", y, 1, 3, 2, 1, 2);
    }

    private void appendsAndCommit() {
        QuorumLog x = Checks.led(31, 0);
        x.put(0, 0, 1);
        x.put(0, 0, 2);
        x.put(0, 0, 3);
        for (int other = 1; other < 3; other++) {
            checks.pass(x, 4, 0, other);
            checks.pass(x, 5, other, 0);
        }
        checks.same("COMMIT", x.state(0, 3), 2);
        Checks.loseAll(x);
        x.beat(0);
        checks.pass(x, 4, 0, 3);
        checks.states("three entries, COMMIT the leader's", x, 3, 0, 1, 0, 2, 0, 3);
        checks.pass(x, 5, 3, 0);
        x.put(0, 0, 4);
        Checks.loseTo(x, 4);
        Checks.deliverAll(x);
        checks.same("COMMIT", x.state(0, 3), 5);
        x.beat(0);
        checks.pass(x, 4, 0, 4);
        checks.states("COMMIT but to the message's end", x, 4, 0, 1, 0, 3, 0, 3);
        checks.lastMessage("yes", x, 5, 4, 0, 1, 3, 1, 0);
        int append = Checks.find(x, 4, 0, 1);
        x.deliver(append);
        checks.states("COMMIT to the index before, without any", x, 1, 0, 1, 0, 5, 0, 5);
    }

    private void appendsOfOldTimes() {
        QuorumLog x = Checks.led(3, 0);
        x.put(0, 0, 1);
        x.beat(0);
        x.put(0, 0, 2);
        x.put(0, 0, 3);
        x.deliver(3);
        checks.states("2 and 3", x, 1, 0, 1, 0, 1, 0, 3);
        x.deliver(3);
        x.deliver(3);
        x.deliver(3);
        checks.states("all", x, 1, 0, 1, 0, 3, 0, 4);
        x.compact(1);
        x.deliver(0);
        checks.lastMessage("an old one: yes, with its own end", x, 5, 1, 0, 1, 2, 1, 0);
        checks.states("nothing is cut away", x, 1, 0, 1, 0, 3, 3, 4, 3, 1, 1);
        x.deliver(1);
        checks.lastMessage("an old one up to 3", x, 5, 1, 0, 1, 3, 1, 0);
        checks.states("nothing is cut away", x, 1, 0, 1, 0, 3, 3, 4, 3, 1, 1);
        Checks.deliverAll(x);
        checks.same("MATCH does not go back", x.state(0, 3), 4);
        checks.same("nothing waits", x.waiting(), 0);
    }

    private void fullLog() {
        QuorumLog x = Checks.led(3, 0);
        for (int index = 2; index <= 47; index++) {
            if (x.state(0, 5) - x.state(0, 4) >= 24) {
                x.compact(0);
            }
            x.put(0, index % 4, index);
            Checks.deliverAll(x);
        }
        x.compact(0);
        x.put(0, 0, 48);
        x.put(0, 0, 49);
        x.lose(0);
        checks.messages("two entries", x, 0, 4, 0, 1, 1, 47, 2, 0);
        x.deliver(0);
        checks.states("room for one", x, 1, 0, 1, 0, 47, 0, 48);
        checks.lastMessage("as if it ended there", x, 5, 1, 0, 1, 48, 1, 0);
        x.deliver(0);
        checks.same("one more counts", x.state(0, 3), 48);
        checks.messages("the other one", x, 0, 4, 0, 1, 1, 48, 1, 0);
        x.deliver(0);
        checks.states("room for none", x, 1, 0, 1, 0, 48, 0, 48);
        checks.lastMessage("yes, with the index before", x, 5, 1, 0, 1, 48, 1, 0);
        x.compact(1);
        x.deliver(0);
        x.deliver(0);
        checks.states("room behind a cut", x, 1, 0, 1, 0, 48, 48, 49);
    }

    private void results() {
        QuorumLog x = Checks.led(7, 0);
        x.put(0, 0, 1);
        x.put(0, 0, 2);
        x.put(0, 0, 3);
        Checks.loseTo(x, 2);
        x.deliver(0);
        checks.same("two appends and a result", x.waiting(), 3);
        x.deliver(2);
        checks.lastMessage("more at once, from 3 on", x, 4, 0, 1, 1, 2, 2, 0);
        Checks.deliverAll(x);
        checks.same("COMMIT", x.state(0, 3), 4);
        checks.same("no more to send", x.waiting(), 0);

        QuorumLog y = Checks.led(7, 0);
        y.put(0, 0, 1);
        checks.pass(y, 4, 0, 2);
        y.change(0, 2, false);
        checks.pass(y, 5, 2, 0);
        checks.same("2 is no member, nothing is sent to it", Checks.find(y, 4, 0, 2), -1);
        Checks.deliverAll(y);
        checks.same("COMMIT", y.state(0, 3), 3);
        checks.states("2 did not hear of its leaving", y, 2, 0, 1, 0, 1, 0, 2, 7);
    }

    private void refusedResults() {
        QuorumLog x = Checks.led(31, 0);
        x.crash(4);
        for (int i = 0; i < 4; i++) {
            x.put(0, 0, i);
            Checks.deliverAll(x);
        }
        x.compact(1);
        x.timer(1);
        x.crash(0);
        Checks.deliverAll(x);
        checks.states("the others have heard", x, 1, 1, 1, 0);
        for (int other = 2; other < 4; other++) {
            x.crash(other);
            x.restart(other);
        }
        x.timer(1);
        Checks.deliverAll(x);
        checks.states("1 leads in term 2 with 6", x, 1, 3, 2, 1, 6, 4, 6);
        x.restart(4);
        x.beat(1);
        checks.pass(x, 4, 1, 4);
        checks.lastMessage("4 has 1: no", x, 5, 4, 1, 2, 1, 0, 0);
        checks.pass(x, 5, 4, 1);
        checks.lastMessage("1 is cut away, so the snapshot goes", x, 6, 1, 4, 2, 4, 0, 0);
        checks.pass(x, 6, 1, 4);
        checks.states("installed", x, 4, 0, 2, -1, 4, 4, 4, 31, 1, 1);
        checks.same("its value", x.stored(4, 0), 2);
        checks.pass(x, 5, 4, 1);
        checks.lastMessage("the rest", x, 4, 1, 4, 2, 4, 2, 0);
        x.deliver(Checks.find(x, 4, 1, 4));
        checks.states("all", x, 4, 0, 2, -1, 6, 4, 6, 31, 1, 1);
    }

    private void twoRefusedResults() {
        QuorumLog x = Checks.led(7, 0);
        x.crash(2);
        x.put(0, 0, 1);
        Checks.deliverAll(x);
        x.put(0, 0, 2);
        Checks.deliverAll(x);
        x.beat(0);
        Checks.deliverAll(x);
        x.crash(0);
        x.restart(2);
        checks.elect(x, 1, 2);
        x.beat(1);
        x.beat(1);
        checks.pass(x, 4, 1, 2);
        checks.pass(x, 4, 1, 2);
        checks.messages("no", x, 2, 5, 2, 1, 2, 1, 0, 0);
        checks.messages("no", x, 3, 5, 2, 1, 2, 1, 0, 0);
        checks.pass(x, 5, 2, 1);
        checks.lastMessage("NEXT is 2", x, 4, 1, 2, 2, 1, 2, 0);
        checks.pass(x, 5, 2, 1);
        checks.lastMessage("NEXT is 1, one less", x, 4, 1, 2, 2, 0, 2, 0);
        x.beat(1);
        checks.lastMessage("not below 1", x, 4, 1, 2, 2, 0, 2, 0);
    }

    private void installs() {
        QuorumLog x = Checks.led(3, 0);
        x.put(0, 0, 1);
        x.put(0, 1, 2);
        x.put(0, 2, 3);
        x.deliver(0);
        x.lose(0);
        x.deliver(0);
        checks.states("1 has all, the leader does not know", x, 1, 0, 1, 0, 1, 0, 3);
        Checks.loseAll(x);
        x.beat(0);
        Checks.deliverAll(x);
        checks.same("COMMIT", x.state(0, 3), 4);
        x.compact(0);
        x.change(0, 2, true);
        checks.messages("to 2", x, 1, 6, 0, 2, 1, 4, 0, 0);
        checks.pass(x, 6, 0, 2);
        checks.states("installed", x, 2, 0, 1, -1, 4, 4, 4, 3, 1, 1);
        for (int key = 0; key < 3; key++) {
            checks.same("stored(2, " + key + ")", x.stored(2, key), key + 1);
        }
        checks.pass(x, 5, 2, 0);
        checks.pass(x, 4, 0, 2);
        checks.states("behind it", x, 2, 0, 1, -1, 4, 4, 5, 7, 1, 1);
        x.timer(2);
        checks.same("a member now", x.state(2, 0), 1);
    }

    private void installsThatKeep() {
        QuorumLog x = Checks.led(7, 0);
        x.put(0, 0, 1);
        x.put(0, 0, 2);
        checks.pass(x, 4, 0, 1);
        checks.pass(x, 4, 0, 2);
        checks.pass(x, 4, 0, 2);
        checks.pass(x, 5, 1, 0);
        Checks.loseAll(x);
        checks.states("2 has 3, the leader does not know", x, 2, 0, 1, 0, 1, 0, 3);
        checks.states("COMMIT is 2", x, 0, 3, 1, 0, 2, 0, 3);
        x.compact(0);
        x.beat(0);
        x.beat(0);
        checks.pass(x, 4, 0, 1);
        checks.pass(x, 5, 1, 0);
        checks.same("COMMIT is 3", x.state(0, 3), 3);
        x.compact(0);
        checks.pass(x, 6, 0, 2);
        checks.states("the snapshot of then; 3 stays", x, 2, 0, 1, 0, 2, 2, 3, 7, 1, 1);
        checks.same("3 stays", x.entry(2, 3, 3), 2);
        checks.same("2 is gone", x.entry(2, 2, 3), -1);
        checks.same("the snapshot's value", x.stored(2, 0), 1);
        checks.lastMessage("yes", x, 5, 2, 0, 1, 2, 1, 0);
        x.crash(2);
        x.restart(2);
        checks.pass(x, 6, 0, 2);
        checks.states("not above COMMIT: only heard", x, 2, 0, 1, 0, 2, 2, 3, 7, 1, 1);
        checks.lastMessage("yes in any case", x, 5, 2, 0, 1, 2, 1, 0);
        Checks.loseAll(x);
        x.beat(0);
        checks.messages("the snapshot of now", x, 1, 6, 0, 2, 1, 3, 0, 0);
        checks.pass(x, 6, 0, 2);
        checks.states("at the end of its log", x, 2, 0, 1, 0, 3, 3, 3, 7, 1, 1);
        checks.same("the snapshot's value", x.stored(2, 0), 2);
    }

    private void readsThatFail() {
        QuorumLog x = Checks.led(7, 0);
        x.read(0, 0);
        x.read(0, 1);
        Checks.loseAll(x);
        for (int other = 1; other < 3; other++) {
            x.crash(other);
            x.restart(other);
        }
        x.timer(1);
        checks.pass(x, 0, 1, 2);
        checks.pass(x, 1, 2, 1);
        checks.pass(x, 2, 1, 2);
        checks.pass(x, 3, 2, 1);
        checks.same("1 leads too", x.state(1, 0), 3);
        checks.pass(x, 4, 1, 2);
        checks.pass(x, 5, 2, 1);
        checks.same("numbers go on", x.read(1, 0), 2);
        checks.same("0 does not know", x.outcome(0), 0);
        x.beat(0);
        checks.pass(x, 4, 0, 2);
        checks.lastMessage("no", x, 5, 2, 0, 2, 0, 0, 0);
        checks.same("kept", x.outcome(1), 0);
        checks.pass(x, 5, 2, 0);
        checks.same("failed", x.outcome(0), 2);
        checks.same("failed", x.outcome(1), 2);
        checks.same("the other leader's is kept", x.outcome(2), 0);
        Checks.deliverAll(x);
        checks.same("the other leader's is answered", x.outcome(2), 1);
        checks.same("failed stays", x.outcome(0), 2);
    }

    private void lateResultsConfirm() {
        QuorumLog x = Checks.led(31, 0);
        x.put(0, 0, 3);
        Checks.deliverAll(x);
        x.crash(4);
        x.put(0, 0, 4);
        x.read(0, 0);
        x.lose(Checks.find(x, 4, 0, 1));
        checks.pass(x, 4, 0, 1);
        checks.pass(x, 5, 1, 0);
        checks.same("two of five", x.outcome(0), 0);
        checks.pass(x, 4, 0, 2);
        checks.pass(x, 5, 2, 0);
        checks.same("2 has the PUT, so it counts; its round is 0", x.state(0, 3), 3);
        checks.same("kept", x.outcome(0), 0);
        checks.pass(x, 4, 0, 2);
        checks.pass(x, 5, 2, 0);
        checks.same("three of five", x.outcome(0), 1);
        checks.same("value", x.value(0), 4);

        QuorumLog y = Checks.led(7, 0);
        y.put(0, 0, 1);
        Checks.loseAll(y);
        y.put(0, 0, 2);
        Checks.loseAll(y);
        y.compact(1);
        y.read(0, 0);
        y.lose(Checks.find(y, 4, 0, 2));
        checks.pass(y, 4, 0, 1);
        checks.pass(y, 5, 1, 0);
        checks.same("a result that brings the PUTs answers too", y.outcome(0), 1);
        checks.same("with them", y.value(0), 2);
    }

    private void refusalsConfirm() {
        QuorumLog x = Checks.led(7, 0);
        x.crash(2);
        x.put(0, 0, 1);
        Checks.deliverAll(x);
        x.put(0, 0, 2);
        Checks.deliverAll(x);
        x.crash(0);
        x.crash(1);
        x.restart(1);
        x.restart(2);
        checks.elect(x, 1, 2);
        x.beat(1);
        x.restart(0);
        checks.pass(x, 4, 1, 0);
        checks.pass(x, 5, 0, 1);
        checks.states("1 and 0 have it", x, 1, 3, 2, 1, 4);
        x.crash(0);
        int read = x.read(1, 0);
        x.lose(Checks.find(x, 4, 1, 2));
        checks.pass(x, 4, 1, 2);
        checks.lastMessage("no, but in this round", x, 5, 2, 1, 2, 1, 0, 1);
        checks.same("kept", x.outcome(read), 0);
        checks.pass(x, 5, 2, 1);
        checks.same("a no confirms the leader as well", x.outcome(read), 1);
        checks.same("value", x.value(read), 2);
    }

    private void lateAnswers() {
        QuorumLog x = new QuorumLog(7);
        x.timer(0);
        checks.pass(x, 0, 0, 1);
        checks.pass(x, 0, 0, 2);
        checks.pass(x, 1, 1, 0);
        checks.states("stands", x, 0, 2, 1, 0);
        x.timer(0);
        checks.pass(x, 1, 2, 0);
        checks.states("a yes for term 1 does not count for term 2", x, 0, 1, 1, 0);
        Checks.loseAll(x);
        x.timer(0);
        checks.pass(x, 0, 0, 1);
        x.timer(0);
        checks.pass(x, 1, 1, 0);
        checks.states("one that came late, for the same term, does", x, 0, 2, 2, 0);
    }

    private void appendsEndStanding() {
        QuorumLog x = new QuorumLog(31);
        for (int one = 0; one < 2; one++) {
            x.timer(one);
            checks.pass(x, 0, one, 2);
            checks.pass(x, 0, one, 3);
            checks.pass(x, 1, 2, one);
            checks.pass(x, 1, 3, one);
        }
        checks.pass(x, 2, 0, 2);
        checks.pass(x, 2, 0, 3);
        checks.pass(x, 3, 2, 0);
        checks.pass(x, 3, 3, 0);
        checks.states("both stood, 0 leads", x, 0, 3, 1, 0);
        checks.states("1 stands", x, 1, 2, 1, 1);
        checks.pass(x, 4, 0, 1);
        checks.states("and follows", x, 1, 0, 1, 1, 0, 0, 1, 31, 1, 1);
        checks.pass(x, 4, 0, 2);
        x.timer(2);
        checks.states("2 asks", x, 2, 1, 1, 0);
        x.beat(0);
        checks.pass(x, 4, 0, 2);
        checks.states("and follows", x, 2, 0, 1, 0, 0, 0, 1, 31, 1, 1);
        Checks.loseAll(x);
        x.beat(0);
        checks.pass(x, 4, 0, 1);
        checks.pass(x, 4, 0, 2);
        checks.pass(x, 5, 1, 0);
        checks.pass(x, 5, 2, 0);
        x.compact(0);
        x.timer(3);
        checks.states("3 asks", x, 3, 1, 1, 0);
        x.lose(Checks.find(x, 4, 0, 3));
        x.beat(0);
        checks.pass(x, 6, 0, 3);
        checks.states("and follows", x, 3, 0, 1, 0, 1, 1, 1, 31, 1, 1);
    }

    private void firstEntryIsCutAway() {
        QuorumLog x = new QuorumLog(7);
        checks.elect(x, 0, 1);
        checks.states("0 leads", x, 0, 3, 1, 0, 0, 0, 1);
        checks.elect(x, 1, 2);
        checks.states("1 leads in term 2", x, 1, 3, 2, 1, 0, 0, 1);
        x.beat(1);
        checks.pass(x, 4, 1, 0);
        checks.states("0 follows", x, 0, 0, 2, -1, 0, 0, 1, 7, 1, 1);
        checks.same("the entry of term 2", x.entry(0, 1, 0), 2);
    }

    private void installAtCommit() {
        QuorumLog x = Checks.led(7, 0);
        x.put(0, 0, 1);
        checks.pass(x, 4, 0, 2);
        checks.pass(x, 4, 0, 1);
        x.lose(Checks.find(x, 5, 2, 0));
        checks.pass(x, 5, 1, 0);
        x.beat(0);
        checks.pass(x, 4, 0, 2);
        Checks.loseAll(x);
        checks.states("2 has COMMIT 2", x, 2, 0, 1, 0, 2, 0, 2);
        x.compact(0);
        x.beat(0);
        checks.pass(x, 6, 0, 2);
        checks.states("its own snapshot stays", x, 2, 0, 1, 0, 2, 0, 2, 7, 1, 1);
        checks.lastMessage("yes in any case", x, 5, 2, 0, 1, 2, 1, 0);
    }

    private void resultsOfOldTerms() {
        QuorumLog x = Checks.led(7, 0);
        x.put(0, 0, 1);
        x.put(0, 0, 2);
        checks.pass(x, 4, 0, 1);
        checks.pass(x, 4, 0, 1);
        Checks.loseTo(x, 2);
        checks.same("two results", x.waiting(), 2);
        x.crash(0);
        x.restart(0);
        checks.pass(x, 5, 1, 0);
        checks.states("one that led in this term", x, 0, 0, 1, 0, 0, 0, 3, 7, 0, 1);
        checks.same("sends nothing", x.waiting(), 1);
        x.crash(2);
        x.restart(2);
        x.timer(0);
        checks.pass(x, 0, 0, 2);
        checks.pass(x, 1, 2, 0);
        checks.pass(x, 2, 0, 2);
        checks.pass(x, 3, 2, 0);
        checks.states("0 leads in term 2", x, 0, 3, 2, 0, 0, 0, 4);
        int waiting = x.waiting();
        checks.pass(x, 5, 1, 0);
        checks.same("a result of term 1 does nothing", x.waiting(), waiting - 1);
    }

    /** What a leader knew when it led before is nothing to it when it leads again. */
    private void leadsAgain() {
        QuorumLog x = Checks.led(31, 0);
        x.read(0, 0);
        x.read(0, 0);
        Checks.deliverAll(x);
        checks.same("answered", x.outcome(1), 1);
        for (int value = 2; value < 5; value++) {
            x.put(0, 0, value);
        }
        checks.pass(x, 4, 0, 1);
        checks.pass(x, 5, 1, 0);
        x.lose(Checks.find(x, 4, 0, 1));
        x.lose(Checks.find(x, 4, 0, 1));
        checks.pass(x, 4, 0, 1);
        checks.pass(x, 5, 1, 0);
        checks.same("1 has 4", x.state(1, 5), 4);
        checks.same("it does not count", x.state(0, 3), 1);
        Checks.loseAll(x);
        for (int other = 2; other < 5; other++) {
            x.crash(other);
            x.restart(other);
        }
        electByTwo(x, 2, 3, 4);
        checks.pass(x, 4, 2, 0);
        checks.states("0 is cut away behind 1", x, 0, 0, 2, -1, 1, 0, 2);
        Checks.loseAll(x);
        electByTwo(x, 0, 3, 4);
        checks.states("0 leads again", x, 0, 3, 3, 0, 1, 0, 3);
        checks.pass(x, 4, 0, 3);
        checks.lastMessage("3 has but 1", x, 5, 3, 0, 3, 1, 0, 0);
        checks.pass(x, 5, 3, 0);
        checks.pass(x, 4, 0, 3);
        checks.pass(x, 5, 3, 0);
        checks.same("two of five have 3", x.state(0, 3), 1);
        checks.pass(x, 4, 0, 4);
        checks.pass(x, 5, 4, 0);
        checks.pass(x, 4, 0, 4);
        checks.pass(x, 5, 4, 0);
        checks.same("three of five", x.state(0, 3), 3);
        Checks.loseAll(x);
        int read = x.read(0, 0);
        checks.messages("rounds begin anew", x, 0, 4, 0, 1, 3, 2, 1, 1);
        checks.same("nobody has confirmed it", x.outcome(read), 0);
        Checks.deliverAll(x);
        checks.same("they have", x.outcome(read), 1);
    }

    private void electByTwo(QuorumLog x, int one, int second, int third) {
        x.timer(one);
        checks.pass(x, 0, one, second);
        checks.pass(x, 0, one, third);
        checks.pass(x, 1, second, one);
        checks.pass(x, 1, third, one);
        checks.pass(x, 2, one, second);
        checks.pass(x, 2, one, third);
        checks.pass(x, 3, second, one);
        checks.pass(x, 3, third, one);
        checks.same("elected", x.state(one, 0), 3);
    }

    public static void main(String[] args) {
        Checks checks = new Checks("MessagesTest");
        MessagesTest test = new MessagesTest(checks);
        test.questions();
        test.questionsOfOldLogs();
        test.answers();
        test.noWithGreaterTermEndsLeader();
        test.calls();
        test.appendsThatDoNotFit();
        test.appendsWithAnotherTerm();
        test.appendsOfOldTerms();
        test.appendsAndCommit();
        test.appendsOfOldTimes();
        test.fullLog();
        test.results();
        test.refusedResults();
        test.twoRefusedResults();
        test.installs();
        test.installsThatKeep();
        test.readsThatFail();
        test.lateResultsConfirm();
        test.refusalsConfirm();
        test.lateAnswers();
        test.appendsEndStanding();
        test.firstEntryIsCutAway();
        test.installAtCommit();
        test.resultsOfOldTerms();
        test.leadsAgain();
        checks.end();
    }
}
