/** Objects of StoreMover that were brought into a phase. */
final class Movers {
    private Movers() {
    }

    /** Starts, copies all keys as one part, and goes to both. */
    static StoreMover toBoth(StoreMover mover) {
        mover.start();
        mover.putDown(mover.readPart(40));
        mover.goToBoth();
        return mover;
    }

    static StoreMover toTarget(StoreMover mover) {
        toBoth(mover).switchOver();
        return mover;
    }

    static StoreMover toDone(StoreMover mover) {
        toTarget(mover).end();
        return mover;
    }

    /** An empty tool in a phase. */
    static StoreMover in(char phase) {
        StoreMover mover = new StoreMover();
        switch (phase) {
            case 'i': return mover;
            case 'c': mover.start(); return mover;
            case 'b': return toBoth(mover);
            case 't': return toTarget(mover);
            default: return toDone(mover);
        }
    }

    /** An idle tool with steps, told as "m3 s0 p5". */
    static StoreMover withSteps(String steps) {
        StoreMover mover = new StoreMover();
        for (String step : steps.split(" ")) {
            mover.addStep(step.charAt(0), Integer.parseInt(step.substring(1)));
        }
        return mover;
    }

    /** What the call answers in each phase, where it is told only in some that it throws. */
    static void isThrownIn(String phases, String what, Class<? extends RuntimeException> due, On call) {
        for (int i = 0; i < phases.length(); i++) {
            StoreMover mover = in(phases.charAt(i));
            Check.isThrown(what + " in " + phases.charAt(i), due, () -> call.answer(mover));
            Check.same("phase behind " + what, mover.phase(), phases.charAt(i));
        }
    }

    interface On {
        Object answer(StoreMover mover);
    }
}
