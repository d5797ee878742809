import java.lang.annotation.ElementType;
import java.lang.annotation.Retention;
import java.lang.annotation.RetentionPolicy;
import java.lang.annotation.Target;

/**
 * Marks a test with what it holds: a section of the document, by its title or (within "Terms") by the word or two with
 * which its paragraph begins, and sentences or parts of sentences there, word for word.
 */
@Retention(RetentionPolicy.RUNTIME)
@Target(ElementType.METHOD)
@interface Holds {
    String in();

    String[] says();
}
