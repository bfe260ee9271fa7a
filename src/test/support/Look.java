import java.util.ArrayList;
import java.util.List;

/** All that can be seen of an object: its state, the saved ones behind it, and what its text does. The look uses it up. */
final class Look {
    private final String answers;
    private final List<Long> states = new ArrayList<>();
    private final String text;

    Look(LentRights x) {
        answers = answers(x);
        states.add(x.digest());
        while (states.size() < 10 && undoes(x)) {
            states.add(x.digest());
        }
        // A digest ends with the number of saved states; without it, states from different places can be compared.
        for (int place = 0; place < states.size(); place++) {
            states.set(place, states.get(place) - (states.size() - 1 - place));
        }
        text = x.carryOut() + " " + x.digest() + " " + x.clearText();
    }

    int saved() {
        return states.size() - 1;
    }

    boolean isLike(Look other) {
        return answers.equals(other.answers) && states.equals(other.states) && text.equals(other.text);
    }

    boolean isLikeButForTheOldest(Look other) {
        return answers.equals(other.answers) && states.equals(other.states.subList(0, other.saved()));
    }

    @Override
    public String toString() {
        return answers + states + text;
    }

    private static boolean undoes(LentRights x) {
        try {
            x.undo();
            return true;
        } catch (IllegalStateException e) {
            return false;
        }
    }

    private static String answers(LentRights x) {
        StringBuilder told = new StringBuilder();
        told.append(x.mostNeeded()).append(' ').append(x.seenIn(5)).append(' ').append(x.meanChain());
        for (int person = 0; person < 10; person++) {
            told.append(' ').append(x.lostBy(person)).append(' ').append(x.patience(person));
            for (int thing = 0; thing < x.value(0); thing++) {
                told.append(' ').append(x.held(person, thing)).append(x.chain(person, thing));
            }
        }
        return told.toString();
    }
}
